abbrev cJ0_indexOf_0f7a4 : ByteArray := prog_23_method_79_code
def yJ0_indexOf_0f7a4 : MethodName := ⟨RJ0, "indexOf", "(I)I"⟩
abbrev cJ0_indexOf_7cf53 : ByteArray := prog_23_method_80_code
def yJ0_indexOf_7cf53 : MethodName := ⟨RJ0, "indexOf", "(II)I"⟩
abbrev cX3_read : ByteArray := prog_5_method_4_code
def yX3_read : MethodName := ⟨RX3, "read", "(LLawnAhead$Tape;)Z"⟩
abbrev cX3_readCut : ByteArray := prog_5_method_6_code
def yX3_readCut : MethodName := ⟨RX3, "readCut", "(LLawnAhead$Tape;I)I"⟩
abbrev cX3_readMove : ByteArray := prog_5_method_5_code
def yX3_readMove : MethodName := ⟨RX3, "readMove", "(LLawnAhead$Tape;)I"⟩
abbrev cX4_mayCome : ByteArray := prog_6_method_5_code
def yX4_mayCome : MethodName := ⟨RX4, "mayCome", "(I)Z"⟩
abbrev cX4_readSpot : ByteArray := prog_6_method_7_code
def yX4_readSpot : MethodName := ⟨RX4, "readSpot", "(LLawnAhead$Tape;Z)Z"⟩
theorem dJ0_indexOf_0f7a4_0 : decode cJ0_indexOf_0f7a4 0 = .ok (.aload_n 0, 1) := by decide +kernel
theorem dJ0_indexOf_0f7a4_1 : decode cJ0_indexOf_0f7a4 1 = .ok (.iload_n 1, 1) := by decide +kernel
theorem dJ0_indexOf_0f7a4_2 : decode cJ0_indexOf_0f7a4 2 = .ok (.iconst 0, 1) := by decide +kernel
theorem dJ0_indexOf_0f7a4_3 : decode cJ0_indexOf_0f7a4 3 = .ok (.invokevirtual 633, 3) := by decide +kernel
theorem dJ0_indexOf_0f7a4_6 : decode cJ0_indexOf_0f7a4 6 = .ok (.ireturn, 1) := by decide +kernel
theorem dJ0_indexOf_7cf53_0 : decode cJ0_indexOf_7cf53 0 = .ok (.aload_n 0, 1) := by decide +kernel
theorem dJ0_indexOf_7cf53_1 : decode cJ0_indexOf_7cf53 1 = .ok (.invokevirtual 492, 3) := by decide +kernel
theorem dJ0_indexOf_7cf53_4 : decode cJ0_indexOf_7cf53 4 = .ok (.ifCond .eq 19, 3) := by decide +kernel
theorem dJ0_indexOf_7cf53_7 : decode cJ0_indexOf_7cf53 7 = .ok (.aload_n 0, 1) := by decide +kernel
theorem dJ0_indexOf_7cf53_8 : decode cJ0_indexOf_7cf53 8 = .ok (.getfield 9, 3) := by decide +kernel
theorem dJ0_indexOf_7cf53_11 : decode cJ0_indexOf_7cf53 11 = .ok (.iload_n 1, 1) := by decide +kernel
theorem dJ0_indexOf_7cf53_12 : decode cJ0_indexOf_7cf53 12 = .ok (.iload_n 2, 1) := by decide +kernel
theorem dJ0_indexOf_7cf53_13 : decode cJ0_indexOf_7cf53 13 = .ok (.aload_n 0, 1) := by decide +kernel
theorem dJ0_indexOf_7cf53_14 : decode cJ0_indexOf_7cf53 14 = .ok (.invokevirtual 505, 3) := by decide +kernel
theorem dJ0_indexOf_7cf53_17 : decode cJ0_indexOf_7cf53 17 = .ok (.invokestatic 637, 3) := by decide +kernel
theorem dJ0_indexOf_7cf53_20 : decode cJ0_indexOf_7cf53 20 = .ok (.goto 16, 3) := by decide +kernel
theorem dJ0_indexOf_7cf53_36 : decode cJ0_indexOf_7cf53 36 = .ok (.ireturn, 1) := by decide +kernel
theorem dX3_read_0 : decode cX3_read 0 = .ok (.aload_n 1, 1) := by decide +kernel
theorem dX3_read_1 : decode cX3_read 1 = .ok (.invokevirtual 15, 3) := by decide +kernel
theorem dX3_read_4 : decode cX3_read 4 = .ok (.aload_n 0, 1) := by decide +kernel
theorem dX3_read_5 : decode cX3_read 5 = .ok (.iconst 0, 1) := by decide +kernel
theorem dX3_read_6 : decode cX3_read 6 = .ok (.putfield 20, 3) := by decide +kernel
theorem dX3_read_9 : decode cX3_read 9 = .ok (.aload_n 0, 1) := by decide +kernel
theorem dX3_read_10 : decode cX3_read 10 = .ok (.iconst 0, 1) := by decide +kernel
theorem dX3_read_11 : decode cX3_read 11 = .ok (.putfield 24, 3) := by decide +kernel
theorem dX3_read_14 : decode cX3_read 14 = .ok (.iconst 0, 1) := by decide +kernel
theorem dX3_read_15 : decode cX3_read 15 = .ok (.istore_n 2, 1) := by decide +kernel
theorem dX3_read_16 : decode cX3_read 16 = .ok (.iload_n 2, 1) := by decide +kernel
theorem dX3_read_17 : decode cX3_read 17 = .ok (.bipush 16, 2) := by decide +kernel
theorem dX3_read_19 : decode cX3_read 19 = .ok (.if_icmp .ge 61, 3) := by decide +kernel
theorem dX3_read_22 : decode cX3_read 22 = .ok (.aload_n 0, 1) := by decide +kernel
theorem dX3_read_23 : decode cX3_read 23 = .ok (.aload_n 1, 1) := by decide +kernel
theorem dX3_read_24 : decode cX3_read 24 = .ok (.invokevirtual 27, 3) := by decide +kernel
theorem dX3_read_27 : decode cX3_read 27 = .ok (.istore_n 3, 1) := by decide +kernel
theorem dX3_read_28 : decode cX3_read 28 = .ok (.iload_n 3, 1) := by decide +kernel
theorem dX3_read_29 : decode cX3_read 29 = .ok (.iconst (-1), 1) := by decide +kernel
theorem dX3_read_30 : decode cX3_read 30 = .ok (.if_icmp .ne 5, 3) := by decide +kernel
theorem dX3_read_33 : decode cX3_read 33 = .ok (.iconst 0, 1) := by decide +kernel
theorem dX3_read_34 : decode cX3_read 34 = .ok (.ireturn, 1) := by decide +kernel
theorem dX3_read_35 : decode cX3_read 35 = .ok (.aload_n 0, 1) := by decide +kernel
theorem dX3_read_36 : decode cX3_read 36 = .ok (.getfield 11, 3) := by decide +kernel
theorem dX3_read_39 : decode cX3_read 39 = .ok (.iload_n 2, 1) := by decide +kernel
theorem dX3_read_40 : decode cX3_read 40 = .ok (.iload_n 3, 1) := by decide +kernel
theorem dX3_read_41 : decode cX3_read 41 = .ok (.iastore, 1) := by decide +kernel
theorem dX3_read_42 : decode cX3_read 42 = .ok (.aload_n 0, 1) := by decide +kernel
theorem dX3_read_43 : decode cX3_read 43 = .ok (.iload_n 2, 1) := by decide +kernel
theorem dX3_read_44 : decode cX3_read 44 = .ok (.iconst 1, 1) := by decide +kernel
theorem dX3_read_45 : decode cX3_read 45 = .ok (.iadd, 1) := by decide +kernel
theorem dX3_read_46 : decode cX3_read 46 = .ok (.putfield 24, 3) := by decide +kernel
theorem dX3_read_49 : decode cX3_read 49 = .ok (.aload_n 1, 1) := by decide +kernel
theorem dX3_read_50 : decode cX3_read 50 = .ok (.invokevirtual 31, 3) := by decide +kernel
theorem dX3_read_53 : decode cX3_read 53 = .ok (.bipush 59, 2) := by decide +kernel
theorem dX3_read_55 : decode cX3_read 55 = .ok (.if_icmp .ne 25, 3) := by decide +kernel
theorem dX3_read_58 : decode cX3_read 58 = .ok (.aload_n 0, 1) := by decide +kernel
theorem dX3_read_59 : decode cX3_read 59 = .ok (.getfield 24, 3) := by decide +kernel
theorem dX3_read_62 : decode cX3_read 62 = .ok (.bipush 16, 2) := by decide +kernel
theorem dX3_read_64 : decode cX3_read 64 = .ok (.if_icmp .ne 6, 3) := by decide +kernel
theorem dX3_read_67 : decode cX3_read 67 = .ok (.goto 13, 3) := by decide +kernel
theorem dX3_read_70 : decode cX3_read 70 = .ok (.aload_n 1, 1) := by decide +kernel
theorem dX3_read_71 : decode cX3_read 71 = .ok (.invokevirtual 35, 3) := by decide +kernel
theorem dX3_read_74 : decode cX3_read 74 = .ok (.iinc 2 1, 3) := by decide +kernel
theorem dX3_read_77 : decode cX3_read 77 = .ok (.goto (-61), 3) := by decide +kernel
theorem dX3_read_80 : decode cX3_read 80 = .ok (.aload_n 1, 1) := by decide +kernel
theorem dX3_read_81 : decode cX3_read 81 = .ok (.invokevirtual 38, 3) := by decide +kernel
theorem dX3_read_84 : decode cX3_read 84 = .ok (.ireturn, 1) := by decide +kernel
theorem dX3_readCut_0 : decode cX3_readCut 0 = .ok (.aload_n 0, 1) := by decide +kernel
theorem dX3_readCut_1 : decode cX3_readCut 1 = .ok (.invokevirtual 31, 3) := by decide +kernel
theorem dX3_readCut_4 : decode cX3_readCut 4 = .ok (.istore_n 2, 1) := by decide +kernel
theorem dX3_readCut_5 : decode cX3_readCut 5 = .ok (.iload_n 2, 1) := by decide +kernel
theorem dX3_readCut_6 : decode cX3_readCut 6 = .ok (.bipush 114, 2) := by decide +kernel
theorem dX3_readCut_8 : decode cX3_readCut 8 = .ok (.if_icmp .eq 16, 3) := by decide +kernel
theorem dX3_readCut_11 : decode cX3_readCut 11 = .ok (.iload_n 2, 1) := by decide +kernel
theorem dX3_readCut_12 : decode cX3_readCut 12 = .ok (.bipush 100, 2) := by decide +kernel
theorem dX3_readCut_14 : decode cX3_readCut 14 = .ok (.if_icmp .eq 10, 3) := by decide +kernel
theorem dX3_readCut_17 : decode cX3_readCut 17 = .ok (.aload_n 0, 1) := by decide +kernel
theorem dX3_readCut_18 : decode cX3_readCut 18 = .ok (.invokevirtual 42, 3) := by decide +kernel
theorem dX3_readCut_21 : decode cX3_readCut 21 = .ok (.pop, 1) := by decide +kernel
theorem dX3_readCut_22 : decode cX3_readCut 22 = .ok (.iconst (-1), 1) := by decide +kernel
theorem dX3_readCut_23 : decode cX3_readCut 23 = .ok (.ireturn, 1) := by decide +kernel
theorem dX3_readCut_24 : decode cX3_readCut 24 = .ok (.aload_n 0, 1) := by decide +kernel
theorem dX3_readCut_25 : decode cX3_readCut 25 = .ok (.invokevirtual 35, 3) := by decide +kernel
theorem dX3_readCut_28 : decode cX3_readCut 28 = .ok (.aload_n 0, 1) := by decide +kernel
theorem dX3_readCut_29 : decode cX3_readCut 29 = .ok (.invokevirtual 31, 3) := by decide +kernel
theorem dX3_readCut_32 : decode cX3_readCut 32 = .ok (.bipush 48, 2) := by decide +kernel
theorem dX3_readCut_34 : decode cX3_readCut 34 = .ok (.isub, 1) := by decide +kernel
theorem dX3_readCut_35 : decode cX3_readCut 35 = .ok (.istore_n 3, 1) := by decide +kernel
theorem dX3_readCut_36 : decode cX3_readCut 36 = .ok (.iload_n 3, 1) := by decide +kernel
theorem dX3_readCut_37 : decode cX3_readCut 37 = .ok (.iconst 1, 1) := by decide +kernel
theorem dX3_readCut_38 : decode cX3_readCut 38 = .ok (.if_icmp .lt 8, 3) := by decide +kernel
theorem dX3_readCut_41 : decode cX3_readCut 41 = .ok (.iload_n 3, 1) := by decide +kernel
theorem dX3_readCut_42 : decode cX3_readCut 42 = .ok (.iconst 5, 1) := by decide +kernel
theorem dX3_readCut_43 : decode cX3_readCut 43 = .ok (.if_icmp .le 10, 3) := by decide +kernel
theorem dX3_readCut_46 : decode cX3_readCut 46 = .ok (.aload_n 0, 1) := by decide +kernel
theorem dX3_readCut_47 : decode cX3_readCut 47 = .ok (.invokevirtual 42, 3) := by decide +kernel
theorem dX3_readCut_50 : decode cX3_readCut 50 = .ok (.pop, 1) := by decide +kernel
theorem dX3_readCut_51 : decode cX3_readCut 51 = .ok (.iconst (-1), 1) := by decide +kernel
theorem dX3_readCut_52 : decode cX3_readCut 52 = .ok (.ireturn, 1) := by decide +kernel
theorem dX3_readCut_53 : decode cX3_readCut 53 = .ok (.aload_n 0, 1) := by decide +kernel
theorem dX3_readCut_54 : decode cX3_readCut 54 = .ok (.invokevirtual 35, 3) := by decide +kernel
theorem dX3_readCut_57 : decode cX3_readCut 57 = .ok (.iconst 1, 1) := by decide +kernel
theorem dX3_readCut_58 : decode cX3_readCut 58 = .ok (.iload_n 1, 1) := by decide +kernel
theorem dX3_readCut_59 : decode cX3_readCut 59 = .ok (.iload_n 2, 1) := by decide +kernel
theorem dX3_readCut_60 : decode cX3_readCut 60 = .ok (.bipush 100, 2) := by decide +kernel
theorem dX3_readCut_62 : decode cX3_readCut 62 = .ok (.if_icmp .ne 7, 3) := by decide +kernel
theorem dX3_readCut_65 : decode cX3_readCut 65 = .ok (.iconst 1, 1) := by decide +kernel
theorem dX3_readCut_66 : decode cX3_readCut 66 = .ok (.goto 4, 3) := by decide +kernel
theorem dX3_readCut_69 : decode cX3_readCut 69 = .ok (.iconst 0, 1) := by decide +kernel
theorem dX3_readCut_70 : decode cX3_readCut 70 = .ok (.iload_n 3, 1) := by decide +kernel
theorem dX3_readCut_71 : decode cX3_readCut 71 = .ok (.invokestatic 45, 3) := by decide +kernel
theorem dX3_readCut_74 : decode cX3_readCut 74 = .ok (.ireturn, 1) := by decide +kernel
theorem dX3_readMove_0 : decode cX3_readMove 0 = .ok (.aload_n 1, 1) := by decide +kernel
theorem dX3_readMove_1 : decode cX3_readMove 1 = .ok (.invokevirtual 31, 3) := by decide +kernel
theorem dX3_readMove_4 : decode cX3_readMove 4 = .ok (.istore_n 2, 1) := by decide +kernel
theorem dX3_readMove_5 : decode cX3_readMove 5 = .ok (.iload_n 2, 1) := by decide +kernel
theorem dX3_readMove_6 : decode cX3_readMove 6 = .ok (.bipush 103, 2) := by decide +kernel
theorem dX3_readMove_8 : decode cX3_readMove 8 = .ok (.if_icmp .eq 28, 3) := by decide +kernel
theorem dX3_readMove_11 : decode cX3_readMove 11 = .ok (.iload_n 2, 1) := by decide +kernel
theorem dX3_readMove_12 : decode cX3_readMove 12 = .ok (.bipush 99, 2) := by decide +kernel
theorem dX3_readMove_14 : decode cX3_readMove 14 = .ok (.if_icmp .eq 22, 3) := by decide +kernel
theorem dX3_readMove_17 : decode cX3_readMove 17 = .ok (.iload_n 2, 1) := by decide +kernel
theorem dX3_readMove_18 : decode cX3_readMove 18 = .ok (.bipush 109, 2) := by decide +kernel
theorem dX3_readMove_20 : decode cX3_readMove 20 = .ok (.if_icmp .eq 16, 3) := by decide +kernel
theorem dX3_readMove_23 : decode cX3_readMove 23 = .ok (.iload_n 2, 1) := by decide +kernel
theorem dX3_readMove_24 : decode cX3_readMove 24 = .ok (.bipush 120, 2) := by decide +kernel
theorem dX3_readMove_26 : decode cX3_readMove 26 = .ok (.if_icmp .eq 10, 3) := by decide +kernel
theorem dX3_readMove_29 : decode cX3_readMove 29 = .ok (.aload_n 1, 1) := by decide +kernel
theorem dX3_readMove_30 : decode cX3_readMove 30 = .ok (.invokevirtual 42, 3) := by decide +kernel
theorem dX3_readMove_33 : decode cX3_readMove 33 = .ok (.pop, 1) := by decide +kernel
theorem dX3_readMove_34 : decode cX3_readMove 34 = .ok (.iconst (-1), 1) := by decide +kernel
theorem dX3_readMove_35 : decode cX3_readMove 35 = .ok (.ireturn, 1) := by decide +kernel
theorem dX3_readMove_36 : decode cX3_readMove 36 = .ok (.aload_n 1, 1) := by decide +kernel
theorem dX3_readMove_37 : decode cX3_readMove 37 = .ok (.invokevirtual 35, 3) := by decide +kernel
theorem dX3_readMove_40 : decode cX3_readMove 40 = .ok (.iload_n 2, 1) := by decide +kernel
theorem dX3_readMove_41 : decode cX3_readMove 41 = .ok (.bipush 120, 2) := by decide +kernel
theorem dX3_readMove_43 : decode cX3_readMove 43 = .ok (.if_icmp .ne 11, 3) := by decide +kernel
theorem dX3_readMove_46 : decode cX3_readMove 46 = .ok (.iconst 3, 1) := by decide +kernel
theorem dX3_readMove_47 : decode cX3_readMove 47 = .ok (.iconst (-1), 1) := by decide +kernel
theorem dX3_readMove_48 : decode cX3_readMove 48 = .ok (.iconst 0, 1) := by decide +kernel
theorem dX3_readMove_49 : decode cX3_readMove 49 = .ok (.iconst 0, 1) := by decide +kernel
theorem dX3_readMove_50 : decode cX3_readMove 50 = .ok (.invokestatic 45, 3) := by decide +kernel
theorem dX3_readMove_53 : decode cX3_readMove 53 = .ok (.ireturn, 1) := by decide +kernel
theorem dX3_readMove_54 : decode cX3_readMove 54 = .ok (.iload_n 2, 1) := by decide +kernel
theorem dX3_readMove_55 : decode cX3_readMove 55 = .ok (.bipush 103, 2) := by decide +kernel
theorem dX3_readMove_57 : decode cX3_readMove 57 = .ok (.if_icmp .ne 34, 3) := by decide +kernel
theorem dX3_readMove_60 : decode cX3_readMove 60 = .ok (.aload_n 1, 1) := by decide +kernel
theorem dX3_readMove_61 : decode cX3_readMove 61 = .ok (.invokevirtual 31, 3) := by decide +kernel
theorem dX3_readMove_64 : decode cX3_readMove 64 = .ok (.bipush 63, 2) := by decide +kernel
theorem dX3_readMove_66 : decode cX3_readMove 66 = .ok (.if_icmp .ne 25, 3) := by decide +kernel
theorem dX3_readMove_69 : decode cX3_readMove 69 = .ok (.aload_n 1, 1) := by decide +kernel
theorem dX3_readMove_70 : decode cX3_readMove 70 = .ok (.invokevirtual 35, 3) := by decide +kernel
theorem dX3_readMove_73 : decode cX3_readMove 73 = .ok (.aload_n 0, 1) := by decide +kernel
theorem dX3_readMove_74 : decode cX3_readMove 74 = .ok (.dup, 1) := by decide +kernel
theorem dX3_readMove_75 : decode cX3_readMove 75 = .ok (.getfield 20, 3) := by decide +kernel
theorem dX3_readMove_78 : decode cX3_readMove 78 = .ok (.iconst 1, 1) := by decide +kernel
theorem dX3_readMove_79 : decode cX3_readMove 79 = .ok (.iadd, 1) := by decide +kernel
theorem dX3_readMove_80 : decode cX3_readMove 80 = .ok (.putfield 20, 3) := by decide +kernel
theorem dX3_readMove_83 : decode cX3_readMove 83 = .ok (.iconst 0, 1) := by decide +kernel
theorem dX3_readMove_84 : decode cX3_readMove 84 = .ok (.iconst (-1), 1) := by decide +kernel
theorem dX3_readMove_85 : decode cX3_readMove 85 = .ok (.iconst 0, 1) := by decide +kernel
theorem dX3_readMove_86 : decode cX3_readMove 86 = .ok (.iconst 0, 1) := by decide +kernel
theorem dX3_readMove_87 : decode cX3_readMove 87 = .ok (.invokestatic 45, 3) := by decide +kernel
theorem dX3_readMove_90 : decode cX3_readMove 90 = .ok (.ireturn, 1) := by decide +kernel
theorem dX3_readMove_91 : decode cX3_readMove 91 = .ok (.aload_n 1, 1) := by decide +kernel
theorem dX3_readMove_92 : decode cX3_readMove 92 = .ok (.iconst 2, 1) := by decide +kernel
theorem dX3_readMove_93 : decode cX3_readMove 93 = .ok (.iconst 0, 1) := by decide +kernel
theorem dX3_readMove_94 : decode cX3_readMove 94 = .ok (.bipush 29, 2) := by decide +kernel
theorem dX3_readMove_96 : decode cX3_readMove 96 = .ok (.invokevirtual 49, 3) := by decide +kernel
theorem dX3_readMove_99 : decode cX3_readMove 99 = .ok (.istore_n 3, 1) := by decide +kernel
theorem dX3_readMove_100 : decode cX3_readMove 100 = .ok (.iload_n 3, 1) := by decide +kernel
theorem dX3_readMove_101 : decode cX3_readMove 101 = .ok (.iconst (-1), 1) := by decide +kernel
theorem dX3_readMove_102 : decode cX3_readMove 102 = .ok (.if_icmp .ne 5, 3) := by decide +kernel
theorem dX3_readMove_105 : decode cX3_readMove 105 = .ok (.iconst (-1), 1) := by decide +kernel
theorem dX3_readMove_106 : decode cX3_readMove 106 = .ok (.ireturn, 1) := by decide +kernel
theorem dX3_readMove_107 : decode cX3_readMove 107 = .ok (.iload_n 2, 1) := by decide +kernel
theorem dX3_readMove_108 : decode cX3_readMove 108 = .ok (.bipush 99, 2) := by decide +kernel
theorem dX3_readMove_110 : decode cX3_readMove 110 = .ok (.if_icmp .ne 9, 3) := by decide +kernel
theorem dX3_readMove_113 : decode cX3_readMove 113 = .ok (.aload_n 1, 1) := by decide +kernel
theorem dX3_readMove_114 : decode cX3_readMove 114 = .ok (.iload_n 3, 1) := by decide +kernel
theorem dX3_readMove_115 : decode cX3_readMove 115 = .ok (.invokestatic 53, 3) := by decide +kernel
theorem dX3_readMove_118 : decode cX3_readMove 118 = .ok (.ireturn, 1) := by decide +kernel
theorem dX3_readMove_119 : decode cX3_readMove 119 = .ok (.iload_n 2, 1) := by decide +kernel
theorem dX3_readMove_120 : decode cX3_readMove 120 = .ok (.bipush 103, 2) := by decide +kernel
theorem dX3_readMove_122 : decode cX3_readMove 122 = .ok (.if_icmp .ne 7, 3) := by decide +kernel
theorem dX3_readMove_125 : decode cX3_readMove 125 = .ok (.iconst 0, 1) := by decide +kernel
theorem dX3_readMove_126 : decode cX3_readMove 126 = .ok (.goto 4, 3) := by decide +kernel
theorem dX3_readMove_129 : decode cX3_readMove 129 = .ok (.iconst 2, 1) := by decide +kernel
theorem dX3_readMove_130 : decode cX3_readMove 130 = .ok (.iload_n 3, 1) := by decide +kernel
theorem dX3_readMove_131 : decode cX3_readMove 131 = .ok (.iconst 0, 1) := by decide +kernel
theorem dX3_readMove_132 : decode cX3_readMove 132 = .ok (.iconst 0, 1) := by decide +kernel
theorem dX3_readMove_133 : decode cX3_readMove 133 = .ok (.invokestatic 45, 3) := by decide +kernel
theorem dX3_readMove_136 : decode cX3_readMove 136 = .ok (.ireturn, 1) := by decide +kernel
theorem dX4_mayCome_0 : decode cX4_mayCome 0 = .ok (.iload_n 1, 1) := by decide +kernel
theorem dX4_mayCome_1 : decode cX4_mayCome 1 = .ok (.bipush 115, 2) := by decide +kernel
theorem dX4_mayCome_3 : decode cX4_mayCome 3 = .ok (.if_icmp .ne 10, 3) := by decide +kernel
theorem dX4_mayCome_6 : decode cX4_mayCome 6 = .ok (.aload_n 0, 1) := by decide +kernel
theorem dX4_mayCome_7 : decode cX4_mayCome 7 = .ok (.getfield 72, 3) := by decide +kernel
theorem dX4_mayCome_10 : decode cX4_mayCome 10 = .ok (.ifCond .eq 33, 3) := by decide +kernel
theorem dX4_mayCome_13 : decode cX4_mayCome 13 = .ok (.iload_n 1, 1) := by decide +kernel
theorem dX4_mayCome_14 : decode cX4_mayCome 14 = .ok (.bipush 116, 2) := by decide +kernel
theorem dX4_mayCome_16 : decode cX4_mayCome 16 = .ok (.if_icmp .ne 12, 3) := by decide +kernel
theorem dX4_mayCome_19 : decode cX4_mayCome 19 = .ok (.aload_n 0, 1) := by decide +kernel
theorem dX4_mayCome_20 : decode cX4_mayCome 20 = .ok (.getfield 79, 3) := by decide +kernel
theorem dX4_mayCome_23 : decode cX4_mayCome 23 = .ok (.bipush 12, 2) := by decide +kernel
theorem dX4_mayCome_25 : decode cX4_mayCome 25 = .ok (.if_icmp .lt 18, 3) := by decide +kernel
theorem dX4_mayCome_28 : decode cX4_mayCome 28 = .ok (.iload_n 1, 1) := by decide +kernel
theorem dX4_mayCome_29 : decode cX4_mayCome 29 = .ok (.bipush 98, 2) := by decide +kernel
theorem dX4_mayCome_31 : decode cX4_mayCome 31 = .ok (.if_icmp .ne 16, 3) := by decide +kernel
theorem dX4_mayCome_34 : decode cX4_mayCome 34 = .ok (.aload_n 0, 1) := by decide +kernel
theorem dX4_mayCome_35 : decode cX4_mayCome 35 = .ok (.getfield 82, 3) := by decide +kernel
theorem dX4_mayCome_38 : decode cX4_mayCome 38 = .ok (.bipush 8, 2) := by decide +kernel
theorem dX4_mayCome_40 : decode cX4_mayCome 40 = .ok (.if_icmp .ge 7, 3) := by decide +kernel
theorem dX4_mayCome_43 : decode cX4_mayCome 43 = .ok (.iconst 1, 1) := by decide +kernel
theorem dX4_mayCome_44 : decode cX4_mayCome 44 = .ok (.goto 4, 3) := by decide +kernel
theorem dX4_mayCome_47 : decode cX4_mayCome 47 = .ok (.iconst 0, 1) := by decide +kernel
theorem dX4_mayCome_48 : decode cX4_mayCome 48 = .ok (.ireturn, 1) := by decide +kernel
theorem dX4_readSpot_0 : decode cX4_readSpot 0 = .ok (.iconst 0, 1) := by decide +kernel
theorem dX4_readSpot_1 : decode cX4_readSpot 1 = .ok (.istore_n 3, 1) := by decide +kernel
theorem dX4_readSpot_2 : decode cX4_readSpot 2 = .ok (.aload_n 1, 1) := by decide +kernel
theorem dX4_readSpot_3 : decode cX4_readSpot 3 = .ok (.invokevirtual 39, 3) := by decide +kernel
theorem dX4_readSpot_6 : decode cX4_readSpot 6 = .ok (.bipush 99, 2) := by decide +kernel
theorem dX4_readSpot_8 : decode cX4_readSpot 8 = .ok (.if_icmp .ne 23, 3) := by decide +kernel
theorem dX4_readSpot_11 : decode cX4_readSpot 11 = .ok (.aload_n 1, 1) := by decide +kernel
theorem dX4_readSpot_12 : decode cX4_readSpot 12 = .ok (.invokevirtual 43, 3) := by decide +kernel
theorem dX4_readSpot_15 : decode cX4_readSpot 15 = .ok (.aload_n 1, 1) := by decide +kernel
theorem dX4_readSpot_16 : decode cX4_readSpot 16 = .ok (.iconst 2, 1) := by decide +kernel
theorem dX4_readSpot_17 : decode cX4_readSpot 17 = .ok (.iconst 0, 1) := by decide +kernel
theorem dX4_readSpot_18 : decode cX4_readSpot 18 = .ok (.bipush 29, 2) := by decide +kernel
theorem dX4_readSpot_20 : decode cX4_readSpot 20 = .ok (.invokevirtual 113, 3) := by decide +kernel
theorem dX4_readSpot_23 : decode cX4_readSpot 23 = .ok (.istore_n 3, 1) := by decide +kernel
theorem dX4_readSpot_24 : decode cX4_readSpot 24 = .ok (.iload_n 3, 1) := by decide +kernel
theorem dX4_readSpot_25 : decode cX4_readSpot 25 = .ok (.iconst (-1), 1) := by decide +kernel
theorem dX4_readSpot_26 : decode cX4_readSpot 26 = .ok (.if_icmp .ne 5, 3) := by decide +kernel
theorem dX4_readSpot_29 : decode cX4_readSpot 29 = .ok (.iconst 0, 1) := by decide +kernel
theorem dX4_readSpot_30 : decode cX4_readSpot 30 = .ok (.ireturn, 1) := by decide +kernel
theorem dX4_readSpot_31 : decode cX4_readSpot 31 = .ok (.iconst 1, 1) := by decide +kernel
theorem dX4_readSpot_32 : decode cX4_readSpot 32 = .ok (.iload_n 3, 1) := by decide +kernel
theorem dX4_readSpot_33 : decode cX4_readSpot 33 = .ok (.ishl, 1) := by decide +kernel
theorem dX4_readSpot_34 : decode cX4_readSpot 34 = .ok (.istore 4, 2) := by decide +kernel
theorem dX4_readSpot_36 : decode cX4_readSpot 36 = .ok (.aload_n 0, 1) := by decide +kernel
theorem dX4_readSpot_37 : decode cX4_readSpot 37 = .ok (.dup, 1) := by decide +kernel
theorem dX4_readSpot_38 : decode cX4_readSpot 38 = .ok (.getfield 76, 3) := by decide +kernel
theorem dX4_readSpot_41 : decode cX4_readSpot 41 = .ok (.aload_n 0, 1) := by decide +kernel
theorem dX4_readSpot_42 : decode cX4_readSpot 42 = .ok (.getfield 65, 3) := by decide +kernel
theorem dX4_readSpot_45 : decode cX4_readSpot 45 = .ok (.aload_n 0, 1) := by decide +kernel
theorem dX4_readSpot_46 : decode cX4_readSpot 46 = .ok (.getfield 69, 3) := by decide +kernel
theorem dX4_readSpot_49 : decode cX4_readSpot 49 = .ok (.ior, 1) := by decide +kernel
theorem dX4_readSpot_50 : decode cX4_readSpot 50 = .ok (.iload 4, 2) := by decide +kernel
theorem dX4_readSpot_52 : decode cX4_readSpot 52 = .ok (.iand, 1) := by decide +kernel
theorem dX4_readSpot_53 : decode cX4_readSpot 53 = .ok (.ifCond .eq 7, 3) := by decide +kernel
theorem dX4_readSpot_56 : decode cX4_readSpot 56 = .ok (.iconst 1, 1) := by decide +kernel
theorem dX4_readSpot_57 : decode cX4_readSpot 57 = .ok (.goto 4, 3) := by decide +kernel
theorem dX4_readSpot_60 : decode cX4_readSpot 60 = .ok (.iconst 0, 1) := by decide +kernel
theorem dX4_readSpot_61 : decode cX4_readSpot 61 = .ok (.ior, 1) := by decide +kernel
theorem dX4_readSpot_62 : decode cX4_readSpot 62 = .ok (.putfield 76, 3) := by decide +kernel
theorem dX4_readSpot_65 : decode cX4_readSpot 65 = .ok (.iload_n 2, 1) := by decide +kernel
theorem dX4_readSpot_66 : decode cX4_readSpot 66 = .ok (.ifCond .eq 27, 3) := by decide +kernel
theorem dX4_readSpot_69 : decode cX4_readSpot 69 = .ok (.aload_n 0, 1) := by decide +kernel
theorem dX4_readSpot_70 : decode cX4_readSpot 70 = .ok (.dup, 1) := by decide +kernel
theorem dX4_readSpot_71 : decode cX4_readSpot 71 = .ok (.getfield 65, 3) := by decide +kernel
theorem dX4_readSpot_74 : decode cX4_readSpot 74 = .ok (.iload 4, 2) := by decide +kernel
theorem dX4_readSpot_76 : decode cX4_readSpot 76 = .ok (.ior, 1) := by decide +kernel
theorem dX4_readSpot_77 : decode cX4_readSpot 77 = .ok (.putfield 65, 3) := by decide +kernel
theorem dX4_readSpot_80 : decode cX4_readSpot 80 = .ok (.aload_n 0, 1) := by decide +kernel
theorem dX4_readSpot_81 : decode cX4_readSpot 81 = .ok (.dup, 1) := by decide +kernel
theorem dX4_readSpot_82 : decode cX4_readSpot 82 = .ok (.getfield 79, 3) := by decide +kernel
theorem dX4_readSpot_85 : decode cX4_readSpot 85 = .ok (.iconst 1, 1) := by decide +kernel
theorem dX4_readSpot_86 : decode cX4_readSpot 86 = .ok (.iadd, 1) := by decide +kernel
theorem dX4_readSpot_87 : decode cX4_readSpot 87 = .ok (.putfield 79, 3) := by decide +kernel
theorem dX4_readSpot_90 : decode cX4_readSpot 90 = .ok (.goto 24, 3) := by decide +kernel
theorem dX4_readSpot_93 : decode cX4_readSpot 93 = .ok (.aload_n 0, 1) := by decide +kernel
theorem dX4_readSpot_94 : decode cX4_readSpot 94 = .ok (.dup, 1) := by decide +kernel
theorem dX4_readSpot_95 : decode cX4_readSpot 95 = .ok (.getfield 69, 3) := by decide +kernel
theorem dX4_readSpot_98 : decode cX4_readSpot 98 = .ok (.iload 4, 2) := by decide +kernel
theorem dX4_readSpot_100 : decode cX4_readSpot 100 = .ok (.ior, 1) := by decide +kernel
theorem dX4_readSpot_101 : decode cX4_readSpot 101 = .ok (.putfield 69, 3) := by decide +kernel
theorem dX4_readSpot_104 : decode cX4_readSpot 104 = .ok (.aload_n 0, 1) := by decide +kernel
theorem dX4_readSpot_105 : decode cX4_readSpot 105 = .ok (.dup, 1) := by decide +kernel
theorem dX4_readSpot_106 : decode cX4_readSpot 106 = .ok (.getfield 82, 3) := by decide +kernel
theorem dX4_readSpot_109 : decode cX4_readSpot 109 = .ok (.iconst 1, 1) := by decide +kernel
theorem dX4_readSpot_110 : decode cX4_readSpot 110 = .ok (.iadd, 1) := by decide +kernel
theorem dX4_readSpot_111 : decode cX4_readSpot 111 = .ok (.putfield 82, 3) := by decide +kernel
theorem dX4_readSpot_114 : decode cX4_readSpot 114 = .ok (.iconst 1, 1) := by decide +kernel
theorem dX4_readSpot_115 : decode cX4_readSpot 115 = .ok (.ireturn, 1) := by decide +kernel
theorem wl_3_79 : (.methodLink RJ0 492 yJ0_isLatin1_aae02 : Cond) ∈ sg_tbl := tb_3 _ (List.mem_of_getElem? (i := 79) (by decide +kernel)) (by decide +kernel)
theorem wl_3_85 : (.methodLink RJ0 505 yJ0_length_8abf5 : Cond) ∈ sg_tbl := tb_3 _ (List.mem_of_getElem? (i := 85) (by decide +kernel)) (by decide +kernel)
theorem wl_3_93 : (.methodLink RJ0 637 yJ1_indexOf_4cfef : Cond) ∈ sg_tbl := tb_3 _ (List.mem_of_getElem? (i := 93) (by decide +kernel)) (by decide +kernel)
theorem wl_3_75 : (.methodLink RJ0 633 yJ0_indexOf_7cf53 : Cond) ∈ sg_tbl := tb_3 _ (List.mem_of_getElem? (i := 75) (by decide +kernel)) (by decide +kernel)
theorem wl_4_23 : (.methodLink RX3 31 yX10_sign : Cond) ∈ sg_tbl := tb_4 _ (List.mem_of_getElem? (i := 23) (by decide +kernel)) (by decide +kernel)
theorem wl_4_25 : (.methodLink RX3 35 yX10_step : Cond) ∈ sg_tbl := tb_4 _ (List.mem_of_getElem? (i := 25) (by decide +kernel)) (by decide +kernel)
theorem wl_4_24 : (.methodLink RX3 42 yX10_wrong : Cond) ∈ sg_tbl := tb_4 _ (List.mem_of_getElem? (i := 24) (by decide +kernel)) (by decide +kernel)
theorem wl_4_26 : (.methodLink RX3 45 yX3_packed : Cond) ∈ sg_tbl := tb_4 _ (List.mem_of_getElem? (i := 26) (by decide +kernel)) (by decide +kernel)
theorem wl_4_29 : (.methodLink RX3 49 yX10_number : Cond) ∈ sg_tbl := tb_4 _ (List.mem_of_getElem? (i := 29) (by decide +kernel)) (by decide +kernel)
theorem wl_4_30 : (.methodLink RX3 53 yX3_readCut : Cond) ∈ sg_tbl := tb_4 _ (List.mem_of_getElem? (i := 30) (by decide +kernel)) (by decide +kernel)
theorem wl_1_100 : (.fieldLink RX3 20 "LawnAhead$Game" "leaves" "I" : Cond) ∈ sg_tbl := tb_1 _ (List.mem_of_getElem? (i := 100) (by decide +kernel)) (by decide +kernel)
theorem wl_4_18 : (.methodLink RX3 15 yX10_rewind : Cond) ∈ sg_tbl := tb_4 _ (List.mem_of_getElem? (i := 18) (by decide +kernel)) (by decide +kernel)
theorem wl_1_97 : (.fieldLink RX3 24 "LawnAhead$Game" "count" "I" : Cond) ∈ sg_tbl := tb_1 _ (List.mem_of_getElem? (i := 97) (by decide +kernel)) (by decide +kernel)
theorem wl_4_33 : (.methodLink RX3 38 yX10_ended : Cond) ∈ sg_tbl := tb_4 _ (List.mem_of_getElem? (i := 33) (by decide +kernel)) (by decide +kernel)
theorem wl_4_19 : (.methodLink RX3 27 yX3_readMove : Cond) ∈ sg_tbl := tb_4 _ (List.mem_of_getElem? (i := 19) (by decide +kernel)) (by decide +kernel)
theorem wl_1_94 : (.fieldLink RX3 11 "LawnAhead$Game" "moves" "[I" : Cond) ∈ sg_tbl := tb_1 _ (List.mem_of_getElem? (i := 94) (by decide +kernel)) (by decide +kernel)
theorem wl_1_237 : (.fieldLink RX4 82 "LawnAhead$Ground" "bedCount" "I" : Cond) ∈ sg_tbl := tb_1 _ (List.mem_of_getElem? (i := 237) (by decide +kernel)) (by decide +kernel)
theorem wl_1_236 : (.fieldLink RX4 79 "LawnAhead$Ground" "tuftCount" "I" : Cond) ∈ sg_tbl := tb_1 _ (List.mem_of_getElem? (i := 236) (by decide +kernel)) (by decide +kernel)
theorem wl_1_234 : (.fieldLink RX4 72 "LawnAhead$Ground" "ruled" "Z" : Cond) ∈ sg_tbl := tb_1 _ (List.mem_of_getElem? (i := 234) (by decide +kernel)) (by decide +kernel)
theorem wl_3_47 : (.methodLink RX4 39 yX10_sign : Cond) ∈ sg_tbl := tb_3 _ (List.mem_of_getElem? (i := 47) (by decide +kernel)) (by decide +kernel)
theorem wl_1_235 : (.fieldLink RX4 76 "LawnAhead$Ground" "doubled" "Z" : Cond) ∈ sg_tbl := tb_1 _ (List.mem_of_getElem? (i := 235) (by decide +kernel)) (by decide +kernel)
theorem wl_1_227 : (.fieldLink RX4 65 "LawnAhead$Ground" "tufts" "I" : Cond) ∈ sg_tbl := tb_1 _ (List.mem_of_getElem? (i := 227) (by decide +kernel)) (by decide +kernel)
theorem wl_1_230 : (.fieldLink RX4 69 "LawnAhead$Ground" "beds" "I" : Cond) ∈ sg_tbl := tb_1 _ (List.mem_of_getElem? (i := 230) (by decide +kernel)) (by decide +kernel)
theorem wl_3_59 : (.methodLink RX4 43 yX10_step : Cond) ∈ sg_tbl := tb_3 _ (List.mem_of_getElem? (i := 59) (by decide +kernel)) (by decide +kernel)
theorem wl_3_159 : (.methodLink RX4 113 yX10_number : Cond) ∈ sg_tbl := tb_3 _ (List.mem_of_getElem? (i := 159) (by decide +kernel)) (by decide +kernel)
theorem wl_3_78 : (.code yJ0_indexOf_7cf53 cJ0_indexOf_7cf53 3 (some .int) : Cond) ∈ sg_tbl := tb_3 _ (List.mem_of_getElem? (i := 78) (by decide +kernel)) (by decide +kernel)
theorem wl_3_76 : (.instanceMethod yJ0_indexOf_7cf53 : Cond) ∈ sg_tbl := tb_3 _ (List.mem_of_getElem? (i := 76) (by decide +kernel)) (by decide +kernel)
theorem wl_3_77 : (.selects RJ0 yJ0_indexOf_7cf53 yJ0_indexOf_7cf53 : Cond) ∈ sg_tbl := tb_3 _ (List.mem_of_getElem? (i := 77) (by decide +kernel)) (by decide +kernel)
theorem wl_3_74 : (.code yJ0_indexOf_0f7a4 cJ0_indexOf_0f7a4 2 (some .int) : Cond) ∈ sg_tbl := tb_3 _ (List.mem_of_getElem? (i := 74) (by decide +kernel)) (by decide +kernel)
theorem wl_3_72 : (.instanceMethod yJ0_indexOf_0f7a4 : Cond) ∈ sg_tbl := tb_3 _ (List.mem_of_getElem? (i := 72) (by decide +kernel)) (by decide +kernel)
theorem wl_3_73 : (.selects RJ0 yJ0_indexOf_0f7a4 yJ0_indexOf_0f7a4 : Cond) ∈ sg_tbl := tb_3 _ (List.mem_of_getElem? (i := 73) (by decide +kernel)) (by decide +kernel)
theorem wl_4_32 : (.code yX3_readCut cX3_readCut 4 (some .int) : Cond) ∈ sg_tbl := tb_4 _ (List.mem_of_getElem? (i := 32) (by decide +kernel)) (by decide +kernel)
theorem wl_4_31 : (.static yX3_readCut : Cond) ∈ sg_tbl := tb_4 _ (List.mem_of_getElem? (i := 31) (by decide +kernel)) (by decide +kernel)
theorem wl_4_22 : (.code yX3_readMove cX3_readMove 4 (some .int) : Cond) ∈ sg_tbl := tb_4 _ (List.mem_of_getElem? (i := 22) (by decide +kernel)) (by decide +kernel)
theorem wl_4_21 : (.instanceMethod yX3_readMove : Cond) ∈ sg_tbl := tb_4 _ (List.mem_of_getElem? (i := 21) (by decide +kernel)) (by decide +kernel)
theorem wl_0_17 : (.selects RX3 yX3_readMove yX3_readMove : Cond) ∈ sg_tbl := tb_0 _ (List.mem_of_getElem? (i := 17) (by decide +kernel)) (by decide +kernel)
theorem wl_4_17 : (.code yX3_read cX3_read 4 (some .boolean) : Cond) ∈ sg_tbl := tb_4 _ (List.mem_of_getElem? (i := 17) (by decide +kernel)) (by decide +kernel)
theorem wl_4_15 : (.instanceMethod yX3_read : Cond) ∈ sg_tbl := tb_4 _ (List.mem_of_getElem? (i := 15) (by decide +kernel)) (by decide +kernel)
theorem wl_4_16 : (.selects RX3 yX3_read yX3_read : Cond) ∈ sg_tbl := tb_4 _ (List.mem_of_getElem? (i := 16) (by decide +kernel)) (by decide +kernel)
theorem wl_3_54 : (.code yX4_mayCome cX4_mayCome 2 (some .boolean) : Cond) ∈ sg_tbl := tb_3 _ (List.mem_of_getElem? (i := 54) (by decide +kernel)) (by decide +kernel)
theorem wl_3_53 : (.instanceMethod yX4_mayCome : Cond) ∈ sg_tbl := tb_3 _ (List.mem_of_getElem? (i := 53) (by decide +kernel)) (by decide +kernel)
theorem wl_0_2 : (.selects RX4 yX4_mayCome yX4_mayCome : Cond) ∈ sg_tbl := tb_0 _ (List.mem_of_getElem? (i := 2) (by decide +kernel)) (by decide +kernel)
theorem wl_3_166 : (.code yX4_readSpot cX4_readSpot 5 (some .boolean) : Cond) ∈ sg_tbl := tb_3 _ (List.mem_of_getElem? (i := 166) (by decide +kernel)) (by decide +kernel)
theorem wl_3_165 : (.instanceMethod yX4_readSpot : Cond) ∈ sg_tbl := tb_3 _ (List.mem_of_getElem? (i := 165) (by decide +kernel)) (by decide +kernel)
theorem wl_0_4 : (.selects RX4 yX4_readSpot yX4_readSpot : Cond) ∈ sg_tbl := tb_0 _ (List.mem_of_getElem? (i := 4) (by decide +kernel)) (by decide +kernel)
section
variable {p : Program} {l : Launch} {e : Env} {R : Room} {s : State} {m : MethodId} {args : Array Value} {below : List Frame} {meth : Method} {c : Code} {H : Heap} {locs : List Loc} {cells slots : Nat} {Q : State → Prop} {cc : ByteArray} {nL pc : Nat} {ls : Array Slot} {rest : List Value} {own : String} {D : va_G} {A : Nat → Prop} {tys : List (ClassId × FieldType)} {ad ks : List Nat} {P : sgPm} {H0 : Heap} {index : Nat} {base : Nat} {st0 : List Value} {a : Nat}
theorem gf_X3_0h   (X : CallFix p m c cc nL s args sg_tbl own) (hK : va_K D vwCl tys s) (hG : sgG (KT P) D vwCl A tys ad ks H) (ha : isK ad ks 3 a) (hl : Cond.fieldLink own index "LawnAhead$Game" "moves" "[I" ∈ sg_tbl) (hdg : decode cc pc = .ok (.getfield index, 3)) (kk : ∀ x : Nat, isK ad ks 20 x → fld D H 3 a 0 (.ref x) → gof (KT P) 3 a 0 (.ref x) → W p l e R s m args below meth c H locs cells slots Q (F0 m (pc + 3) ls (.ref x :: rest))) : W p l e R s m args below meth c H locs cells slots Q (F0 m pc ls (.ref a :: rest)) :=
  sg_getH X hK hG ha (k := 3) (ci := 3) rfl (C := RX3) (T := TX3) (N := 3) rfl inL_X3 0 (by decide) rfl hl (fun _ h => h) hdg (fun v hv hf hg => by
    obtain ⟨h1, -⟩ | ⟨x, rfl, hx⟩ := hv
    · cases h1
    · exact kk x hx hf hg)
theorem gf_X3_2   (X : CallFix p m c cc nL s args sg_tbl own) (hK : va_K D vwCl tys s) (hG : sgG (KT P) D vwCl A tys ad ks H) (ha : isK ad ks 3 a) (hl : Cond.fieldLink own index "LawnAhead$Game" "leaves" "I" ∈ sg_tbl) (hdg : decode cc pc = .ok (.getfield index, 3)) (kk : ∀ x : Int32, iv (-2147483648) 2147483647 x → fld D H 3 a 2 (.int x) → W p l e R s m args below meth c H locs cells slots Q (F0 m (pc + 3) ls (.int x :: rest))) : W p l e R s m args below meth c H locs cells slots Q (F0 m pc ls (.ref a :: rest)) :=
  sg_get X hK hG ha (k := 3) (ci := 3) rfl (C := RX3) (T := TX3) (N := 3) rfl inL_X3 2 (by decide) rfl hl (fun _ h => h) hdg (fun v hv hf => by obtain ⟨x, rfl, hx⟩ := hv; exact kk x hx hf)
theorem gf_X4_11   (X : CallFix p m c cc nL s args sg_tbl own) (hK : va_K D vwCl tys s) (hG : sgG (KT P) D vwCl A tys ad ks H) (ha : isK ad ks 4 a) (hl : Cond.fieldLink own index "LawnAhead$Ground" "ruled" "Z" ∈ sg_tbl) (hdg : decode cc pc = .ok (.getfield index, 3)) (kk : ∀ x : Int32, iv 0 1 x → fld D H 4 a 11 (.int x) → W p l e R s m args below meth c H locs cells slots Q (F0 m (pc + 3) ls (.int x :: rest))) : W p l e R s m args below meth c H locs cells slots Q (F0 m pc ls (.ref a :: rest)) :=
  sg_get X hK hG ha (k := 4) (ci := 4) rfl (C := RX4) (T := TX4) (N := 15) rfl inL_X4 11 (by decide) rfl hl (fun _ h => h) hdg (fun v hv hf => by obtain ⟨x, rfl, hx⟩ := hv; exact kk x hx hf)
theorem gf_X4_12   (X : CallFix p m c cc nL s args sg_tbl own) (hK : va_K D vwCl tys s) (hG : sgG (KT P) D vwCl A tys ad ks H) (ha : isK ad ks 4 a) (hl : Cond.fieldLink own index "LawnAhead$Ground" "doubled" "Z" ∈ sg_tbl) (hdg : decode cc pc = .ok (.getfield index, 3)) (kk : ∀ x : Int32, iv 0 1 x → fld D H 4 a 12 (.int x) → W p l e R s m args below meth c H locs cells slots Q (F0 m (pc + 3) ls (.int x :: rest))) : W p l e R s m args below meth c H locs cells slots Q (F0 m pc ls (.ref a :: rest)) :=
  sg_get X hK hG ha (k := 4) (ci := 4) rfl (C := RX4) (T := TX4) (N := 15) rfl inL_X4 12 (by decide) rfl hl (fun _ h => h) hdg (fun v hv hf => by obtain ⟨x, rfl, hx⟩ := hv; exact kk x hx hf)
theorem gf_X4_13   (X : CallFix p m c cc nL s args sg_tbl own) (hK : va_K D vwCl tys s) (hG : sgG (KT P) D vwCl A tys ad ks H) (ha : isK ad ks 4 a) (hl : Cond.fieldLink own index "LawnAhead$Ground" "tuftCount" "I" ∈ sg_tbl) (hdg : decode cc pc = .ok (.getfield index, 3)) (kk : ∀ x : Int32, iv (-2147483648) 2147483647 x → fld D H 4 a 13 (.int x) → W p l e R s m args below meth c H locs cells slots Q (F0 m (pc + 3) ls (.int x :: rest))) : W p l e R s m args below meth c H locs cells slots Q (F0 m pc ls (.ref a :: rest)) :=
  sg_get X hK hG ha (k := 4) (ci := 4) rfl (C := RX4) (T := TX4) (N := 15) rfl inL_X4 13 (by decide) rfl hl (fun _ h => h) hdg (fun v hv hf => by obtain ⟨x, rfl, hx⟩ := hv; exact kk x hx hf)
theorem gf_X4_14   (X : CallFix p m c cc nL s args sg_tbl own) (hK : va_K D vwCl tys s) (hG : sgG (KT P) D vwCl A tys ad ks H) (ha : isK ad ks 4 a) (hl : Cond.fieldLink own index "LawnAhead$Ground" "bedCount" "I" ∈ sg_tbl) (hdg : decode cc pc = .ok (.getfield index, 3)) (kk : ∀ x : Int32, iv (-2147483648) 2147483647 x → fld D H 4 a 14 (.int x) → W p l e R s m args below meth c H locs cells slots Q (F0 m (pc + 3) ls (.int x :: rest))) : W p l e R s m args below meth c H locs cells slots Q (F0 m pc ls (.ref a :: rest)) :=
  sg_get X hK hG ha (k := 4) (ci := 4) rfl (C := RX4) (T := TX4) (N := 15) rfl inL_X4 14 (by decide) rfl hl (fun _ h => h) hdg (fun v hv hf => by obtain ⟨x, rfl, hx⟩ := hv; exact kk x hx hf)
theorem gf_X4_9   (X : CallFix p m c cc nL s args sg_tbl own) (hK : va_K D vwCl tys s) (hG : sgG (KT P) D vwCl A tys ad ks H) (ha : isK ad ks 4 a) (hl : Cond.fieldLink own index "LawnAhead$Ground" "tufts" "I" ∈ sg_tbl) (hdg : decode cc pc = .ok (.getfield index, 3)) (kk : ∀ x : Int32, iv 0 1073741823 x → fld D H 4 a 9 (.int x) → W p l e R s m args below meth c H locs cells slots Q (F0 m (pc + 3) ls (.int x :: rest))) : W p l e R s m args below meth c H locs cells slots Q (F0 m pc ls (.ref a :: rest)) :=
  sg_get X hK hG ha (k := 4) (ci := 4) rfl (C := RX4) (T := TX4) (N := 15) rfl inL_X4 9 (by decide) rfl hl (fun _ h => h) hdg (fun v hv hf => by obtain ⟨x, rfl, hx⟩ := hv; exact kk x hx hf)
theorem gg_X4_10   (X : CallFix p m c cc nL s args sg_tbl own) (hK : va_K D vwCl tys s) (hG : sgG (KT P) D vwCl A tys ad ks H) (ha : isK ad ks 4 a) (hl : Cond.fieldLink own index "LawnAhead$Ground" "beds" "I" ∈ sg_tbl) {v : Value} (hf : fld D H 4 a 10 v) (hdg : decode cc pc = .ok (.getfield index, 3)) (kk : W p l e R s m args below meth c H locs cells slots Q (F0 m (pc + 3) ls (v :: rest))) : W p l e R s m args below meth c H locs cells slots Q (F0 m pc ls (.ref a :: rest)) :=
  sg_getf X hK hG ha (k := 4) (ci := 4) rfl (C := RX4) (T := TX4) (N := 15) rfl inL_X4 10 (by decide) (show 10 < 15 by decide) hl (fun _ h => h) hf hdg kk
theorem gg_X4_9   (X : CallFix p m c cc nL s args sg_tbl own) (hK : va_K D vwCl tys s) (hG : sgG (KT P) D vwCl A tys ad ks H) (ha : isK ad ks 4 a) (hl : Cond.fieldLink own index "LawnAhead$Ground" "tufts" "I" ∈ sg_tbl) {v : Value} (hf : fld D H 4 a 9 v) (hdg : decode cc pc = .ok (.getfield index, 3)) (kk : W p l e R s m args below meth c H locs cells slots Q (F0 m (pc + 3) ls (v :: rest))) : W p l e R s m args below meth c H locs cells slots Q (F0 m pc ls (.ref a :: rest)) :=
  sg_getf X hK hG ha (k := 4) (ci := 4) rfl (C := RX4) (T := TX4) (N := 15) rfl inL_X4 9 (by decide) (show 9 < 15 by decide) hl (fun _ h => h) hf hdg kk
theorem pf_X3_1  {x : Int32}  (X : CallFix p m c cc nL s args sg_tbl own) (hK : va_K D vwCl tys s) (hG : sgG (KT P) D vwCl A tys ad ks H) (hS : va_S A H0 H locs) (ha : isK ad ks 3 a) (hl : Cond.fieldLink own index "LawnAhead$Game" "count" "I" ∈ sg_tbl) (hv : okV ad ks (.inl (0, 16)) (.int x)) (hgo : gof (KT P) 3 a 1 (.int x)) (hdg : decode cc pc = .ok (.putfield index, 3)) (kk : ∀ (H1 : Heap) (locs1 : List Loc), sgG (KT P) D vwCl A tys ad ks H1 → va_S A H0 H1 locs1 → fld D H1 3 a 1 (.int x) → sgFr (KT P) D vwCl ad ks H H1 (fun a' j' => a' = a ∧ j' = 1) → W p l e R s m args below meth c H1 locs1 cells slots Q (F0 m (pc + 3) ls rest)) : W p l e R s m args below meth c H locs cells slots Q (F0 m pc ls (.int x :: .ref a :: rest)) :=
  sg_put (hgo := hgo) X hK hG hS ha (k := 3) (ci := 3) rfl (C := RX3) (T := TX3) (N := 3) rfl inL_X3 tyX3 tyX3_ok nmX3 1 (by decide) rfl hl (fun _ h => h) rfl (ty := .int) rfl rfl rfl hv hdg kk
theorem pf_X3_2  {x : Int32}  (X : CallFix p m c cc nL s args sg_tbl own) (hK : va_K D vwCl tys s) (hG : sgG (KT P) D vwCl A tys ad ks H) (hS : va_S A H0 H locs) (ha : isK ad ks 3 a) (hl : Cond.fieldLink own index "LawnAhead$Game" "leaves" "I" ∈ sg_tbl) (hv : okV ad ks (.inl ((-2147483648), 2147483647)) (.int x)) (hdg : decode cc pc = .ok (.putfield index, 3)) (kk : ∀ (H1 : Heap) (locs1 : List Loc), sgG (KT P) D vwCl A tys ad ks H1 → va_S A H0 H1 locs1 → fld D H1 3 a 2 (.int x) → sgFr (KT P) D vwCl ad ks H H1 (fun a' j' => a' = a ∧ j' = 2) → W p l e R s m args below meth c H1 locs1 cells slots Q (F0 m (pc + 3) ls rest)) : W p l e R s m args below meth c H locs cells slots Q (F0 m pc ls (.int x :: .ref a :: rest)) :=
  sg_put X hK hG hS ha (k := 3) (ci := 3) rfl (C := RX3) (T := TX3) (N := 3) rfl inL_X3 tyX3 tyX3_ok nmX3 2 (by decide) rfl hl (fun _ h => h) rfl (ty := .int) rfl rfl rfl hv hdg kk
theorem pf_X4_10  {x : Int32}  (X : CallFix p m c cc nL s args sg_tbl own) (hK : va_K D vwCl tys s) (hG : sgG (KT P) D vwCl A tys ad ks H) (hS : va_S A H0 H locs) (ha : isK ad ks 4 a) (hl : Cond.fieldLink own index "LawnAhead$Ground" "beds" "I" ∈ sg_tbl) (hv : okV ad ks (.inl ((-2147483648), 2147483647)) (.int x)) (hdg : decode cc pc = .ok (.putfield index, 3)) (kk : ∀ (H1 : Heap) (locs1 : List Loc), sgG (KT P) D vwCl A tys ad ks H1 → va_S A H0 H1 locs1 → fld D H1 4 a 10 (.int x) → sgFr (KT P) D vwCl ad ks H H1 (fun a' j' => a' = a ∧ j' = 10) → W p l e R s m args below meth c H1 locs1 cells slots Q (F0 m (pc + 3) ls rest)) : W p l e R s m args below meth c H locs cells slots Q (F0 m pc ls (.int x :: .ref a :: rest)) :=
  sg_put X hK hG hS ha (k := 4) (ci := 4) rfl (C := RX4) (T := TX4) (N := 15) rfl inL_X4 tyX4 tyX4_ok nmX4 10 (by decide) rfl hl (fun _ h => h) rfl (ty := .int) rfl rfl rfl hv hdg kk
theorem pf_X4_12  {x : Int32}  (X : CallFix p m c cc nL s args sg_tbl own) (hK : va_K D vwCl tys s) (hG : sgG (KT P) D vwCl A tys ad ks H) (hS : va_S A H0 H locs) (ha : isK ad ks 4 a) (hl : Cond.fieldLink own index "LawnAhead$Ground" "doubled" "Z" ∈ sg_tbl) (hv : okV ad ks (.inl (0, 1)) (.int x)) (hdg : decode cc pc = .ok (.putfield index, 3)) (kk : ∀ (H1 : Heap) (locs1 : List Loc), sgG (KT P) D vwCl A tys ad ks H1 → va_S A H0 H1 locs1 → fld D H1 4 a 12 (.int x) → sgFr (KT P) D vwCl ad ks H H1 (fun a' j' => a' = a ∧ j' = 12) → W p l e R s m args below meth c H1 locs1 cells slots Q (F0 m (pc + 3) ls rest)) : W p l e R s m args below meth c H locs cells slots Q (F0 m pc ls (.int x :: .ref a :: rest)) :=
  sg_put X hK hG hS ha (k := 4) (ci := 4) rfl (C := RX4) (T := TX4) (N := 15) rfl inL_X4 tyX4 tyX4_ok nmX4 12 (by decide) rfl hl (fun _ h => h) rfl (ty := .boolean) rfl (by obtain ⟨y, h1, h2⟩ := hv; cases h1; exact sg_zn h2) (by obtain ⟨y, h1, h2⟩ := hv; cases h1; rcases iv_01 h2 with rfl | rfl <;> rfl) hv hdg kk
theorem pf_X4_13  {x : Int32}  (X : CallFix p m c cc nL s args sg_tbl own) (hK : va_K D vwCl tys s) (hG : sgG (KT P) D vwCl A tys ad ks H) (hS : va_S A H0 H locs) (ha : isK ad ks 4 a) (hl : Cond.fieldLink own index "LawnAhead$Ground" "tuftCount" "I" ∈ sg_tbl) (hv : okV ad ks (.inl ((-2147483648), 2147483647)) (.int x)) (hdg : decode cc pc = .ok (.putfield index, 3)) (kk : ∀ (H1 : Heap) (locs1 : List Loc), sgG (KT P) D vwCl A tys ad ks H1 → va_S A H0 H1 locs1 → fld D H1 4 a 13 (.int x) → sgFr (KT P) D vwCl ad ks H H1 (fun a' j' => a' = a ∧ j' = 13) → W p l e R s m args below meth c H1 locs1 cells slots Q (F0 m (pc + 3) ls rest)) : W p l e R s m args below meth c H locs cells slots Q (F0 m pc ls (.int x :: .ref a :: rest)) :=
  sg_put X hK hG hS ha (k := 4) (ci := 4) rfl (C := RX4) (T := TX4) (N := 15) rfl inL_X4 tyX4 tyX4_ok nmX4 13 (by decide) rfl hl (fun _ h => h) rfl (ty := .int) rfl rfl rfl hv hdg kk
theorem pf_X4_14  {x : Int32}  (X : CallFix p m c cc nL s args sg_tbl own) (hK : va_K D vwCl tys s) (hG : sgG (KT P) D vwCl A tys ad ks H) (hS : va_S A H0 H locs) (ha : isK ad ks 4 a) (hl : Cond.fieldLink own index "LawnAhead$Ground" "bedCount" "I" ∈ sg_tbl) (hv : okV ad ks (.inl ((-2147483648), 2147483647)) (.int x)) (hdg : decode cc pc = .ok (.putfield index, 3)) (kk : ∀ (H1 : Heap) (locs1 : List Loc), sgG (KT P) D vwCl A tys ad ks H1 → va_S A H0 H1 locs1 → fld D H1 4 a 14 (.int x) → sgFr (KT P) D vwCl ad ks H H1 (fun a' j' => a' = a ∧ j' = 14) → W p l e R s m args below meth c H1 locs1 cells slots Q (F0 m (pc + 3) ls rest)) : W p l e R s m args below meth c H locs cells slots Q (F0 m pc ls (.int x :: .ref a :: rest)) :=
  sg_put X hK hG hS ha (k := 4) (ci := 4) rfl (C := RX4) (T := TX4) (N := 15) rfl inL_X4 tyX4 tyX4_ok nmX4 14 (by decide) rfl hl (fun _ h => h) rfl (ty := .int) rfl rfl rfl hv hdg kk
theorem pf_X4_9  {x : Int32}  (X : CallFix p m c cc nL s args sg_tbl own) (hK : va_K D vwCl tys s) (hG : sgG (KT P) D vwCl A tys ad ks H) (hS : va_S A H0 H locs) (ha : isK ad ks 4 a) (hl : Cond.fieldLink own index "LawnAhead$Ground" "tufts" "I" ∈ sg_tbl) (hv : okV ad ks (.inl (0, 1073741823)) (.int x)) (hdg : decode cc pc = .ok (.putfield index, 3)) (kk : ∀ (H1 : Heap) (locs1 : List Loc), sgG (KT P) D vwCl A tys ad ks H1 → va_S A H0 H1 locs1 → fld D H1 4 a 9 (.int x) → sgFr (KT P) D vwCl ad ks H H1 (fun a' j' => a' = a ∧ j' = 9) → W p l e R s m args below meth c H1 locs1 cells slots Q (F0 m (pc + 3) ls rest)) : W p l e R s m args below meth c H locs cells slots Q (F0 m pc ls (.int x :: .ref a :: rest)) :=
  sg_put X hK hG hS ha (k := 4) (ci := 4) rfl (C := RX4) (T := TX4) (N := 15) rfl inL_X4 tyX4 tyX4_ok nmX4 9 (by decide) rfl hl (fun _ h => h) rfl (ty := .int) rfl rfl rfl hv hdg kk
theorem as_20  {i : Int32} {x : Int32}  (X : CallFix p m c cc nL s args sg_tbl own) (hK : va_K D vwCl tys s) (hG : sgG (KT P) D vwCl A tys ad ks H) (hS : va_S A H0 H locs) (ha : isK ad ks 20 a) (hin : vp_in i 16) (hv : okV ad ks (.inl ((-2147483648), 2147483647)) (.int x)) (hgo : gof (KT P) 20 a i.toNatClampNeg (.int x)) (hdg : decode cc pc = .ok (.iastore, 1)) (kk : ∀ (H1 : Heap) (locs1 : List Loc), sgG (KT P) D vwCl A tys ad ks H1 → va_S A H0 H1 locs1 → sgFr (KT P) D vwCl ad ks H H1 (fun _ _ => False) → W p l e R s m args below meth c H1 locs1 cells slots Q (F0 m (pc + 1) ls rest)) : W p l e R s m args below meth c H locs cells slots Q (F0 m pc ls (.int x :: .int i :: .ref a :: rest)) :=
  sg_iast (hgo := hgo) X hK hG hS ha (k := 20) rfl hin hv hdg kk
set_option maxHeartbeats 8000000 in
set_option maxRecDepth 100000 in
theorem m_J0_indexOf_7cf53_7 (l : Launch) {D : va_G} {base : Nat} {tys : List (ClassId × FieldType)} {ad ks : List Nat} {P : sgPm} {Hx : Heap} (ta tv : Nat) (tb : List Int32) (x1 : Int32) (x2 : Int32) : sgEi l (KT P) D vwCl base tys ad ks Hx ta tv 7 tb yJ0_indexOf_7cf53 cJ0_indexOf_7cf53 3 (some .int) ({ frames := 2, cells := 0, slots := 0, locals := 48 }) [.ref ta, .int x1, .int x2] (fun r : Int32 => True) := by
  refine sg_ofE (Pq := fun Hx => va_Qi (fun r (_ : Unit) => (fun r : Int32 => True) r) (fun _ t => t.heap = Hx) (fun _ : Nat => False)) (by decide +kernel) (Nat.le_of_ble_eq_true rfl) (fun p e s m below meth c X hr hlk hb hK hC hG ls hl hp => ?_)
  have hS : va_S (fun _ : Nat => False) s.heap s.heap [] := va_S.rf
  have hl : lv_has ls 3 [(0, .ref ta), (1, .int x1), (2, .int x2)] := hl
  refine lv_aload_n X.1 X.2.1 dJ0_indexOf_7cf53_0 rfl (lv_at hl 0 rfl) ?_
  refine ca_J0_isLatin1_aae02_7 X hK hG hC (fun _ h => h.elim) hS hb hp wl_3_79 hl.1 (rest := []) rfl (Nat.le_of_ble_eq_true rfl) ⟨Nat.le_of_ble_eq_true rfl, Nat.le_of_ble_eq_true rfl⟩ ⟨Nat.le_of_ble_eq_true rfl, Nat.le_of_ble_eq_true rfl⟩ dJ0_indexOf_7cf53_1 (fun f1 locs hf1 hS => ?_)
  refine lv_if_eq (tgt := 23) X.1 X.2.1 dJ0_indexOf_7cf53_4 (by decide) (fun c2 => ?_) (fun c2 => ?_)
  · exact ((iv_no (a := 1) (b := 0) (iv_eqm c2 hf1 (iv_c 0 (a := 0) (b := 0) (by decide +kernel)) (by decide +kernel)) (by decide +kernel))).elim
  · refine lv_aload_n X.1 X.2.1 dJ0_indexOf_7cf53_7 rfl (lv_at hl 0 rfl) ?_
    refine vk_getf (v := .ref tv) X.1 X.2.1 hp.2.2.1 hS X.2.2.2.1 (X.2.2.2.2 _ wl_9_181) (fun _ h9 => h9) dJ0_indexOf_7cf53_8 ?_
    refine lv_iload_n X.1 X.2.1 dJ0_indexOf_7cf53_11 rfl (lv_at hl 1 rfl) ?_
    refine lv_iload_n X.1 X.2.1 dJ0_indexOf_7cf53_12 rfl (lv_at hl 2 rfl) ?_
    refine lv_aload_n X.1 X.2.1 dJ0_indexOf_7cf53_13 rfl (lv_at hl 0 rfl) ?_
    refine ca_J0_length_8abf5_7 X hK hG hC (fun _ h => h.elim) hS hb hp wl_3_85 hl.1 (rest := [.int x2, .int x1, .ref tv]) rfl (Nat.le_of_ble_eq_true rfl) ⟨Nat.le_of_ble_eq_true rfl, Nat.le_of_ble_eq_true rfl⟩ ⟨Nat.le_of_ble_eq_true rfl, Nat.le_of_ble_eq_true rfl⟩ dJ0_indexOf_7cf53_14 (fun f3 locs hf3 hS => ?_)
    refine ca_J1_indexOf_4cfef_7 X hK hG hC (fun _ h => h.elim) hS hb hp x1 x2 f3 wl_3_93 hl.1 (rest := []) rfl (Nat.le_of_ble_eq_true rfl) ⟨Nat.le_of_ble_eq_true rfl, Nat.le_of_ble_eq_true rfl⟩ ⟨Nat.le_of_ble_eq_true rfl, Nat.le_of_ble_eq_true rfl⟩ dJ0_indexOf_7cf53_17 (fun f4 locs hf4 hS => ?_)
    refine lv_goto (tgt := 36) X.1 X.2.1 dJ0_indexOf_7cf53_20 (by decide) ?_
    exact sg_iretP X hr hlk hS trivial dJ0_indexOf_7cf53_36

theorem ca_J0_indexOf_7cf53_7   (X : CallFix p m c cc nL s args sg_tbl own) (hK : va_K D vwCl tys s) (hG : sgG (KT P) D vwCl (fun q : Nat => base ≤ q) tys ad ks H) (hC : sgC base s) (hA : ∀ q : Nat, A q → base ≤ q) (hS : va_S A s.heap H locs)  (hb : base ≤ s.heap.size) {ta tv : Nat} {tb : List Int32} (hp : P_S ta tv 7 tb A s) (x1 : Int32) (x2 : Int32) (hl : Cond.methodLink own index yJ0_indexOf_7cf53 ∈ sg_tbl) (hsize : ls.size = nL) (hst : st0 = [.int x1, .int x2].reverse ++ .ref ta :: rest) (hW : (rest.map fun v => v.category).sum ≤ 8) (hR : 3 ≤ R.frames ∧ 70 ≤ R.locals) (hf : cells ≤ R.cells ∧ slots ≤ R.slots) (hdg : decode cc pc = .ok (.invokevirtual index, 3)) (kk : ∀ (r : Int32) (locs1 : List Loc), (fun r : Int32 => True) r → va_S A s.heap H locs1 → W p l e R s m args below meth c H locs1 cells slots Q (F0 m (pc + 3) ls (.int r :: rest))) : W p l e R s m args below meth c H locs cells slots Q (F0 m pc ls st0) :=
  sg_callEVi X hK hG hC hA hS hb hp (m_J0_indexOf_7cf53_7 l ta tv tb x1 x2) wl_3_78 wl_1_16 wl_3_76 wl_3_77 (n := 2) (by decide +kernel) rfl rfl rfl hl hsize hst hW hR hf hdg kk

set_option maxHeartbeats 8000000 in
set_option maxRecDepth 100000 in
theorem m_J0_indexOf_0f7a4_7 (l : Launch) {D : va_G} {base : Nat} {tys : List (ClassId × FieldType)} {ad ks : List Nat} {P : sgPm} {Hx : Heap} (ta tv : Nat) (tb : List Int32) (x1 : Int32) : sgEi l (KT P) D vwCl base tys ad ks Hx ta tv 7 tb yJ0_indexOf_0f7a4 cJ0_indexOf_0f7a4 2 (some .int) ({ frames := 3, cells := 0, slots := 0, locals := 70 }) [.ref ta, .int x1] (fun r : Int32 => True) := by
  refine sg_ofE (Pq := fun Hx => va_Qi (fun r (_ : Unit) => (fun r : Int32 => True) r) (fun _ t => t.heap = Hx) (fun _ : Nat => False)) (by decide +kernel) (Nat.le_of_ble_eq_true rfl) (fun p e s m below meth c X hr hlk hb hK hC hG ls hl hp => ?_)
  have hS : va_S (fun _ : Nat => False) s.heap s.heap [] := va_S.rf
  have hl : lv_has ls 2 [(0, .ref ta), (1, .int x1)] := hl
  refine lv_aload_n X.1 X.2.1 dJ0_indexOf_0f7a4_0 rfl (lv_at hl 0 rfl) ?_
  refine lv_iload_n X.1 X.2.1 dJ0_indexOf_0f7a4_1 rfl (lv_at hl 1 rfl) ?_
  refine lv_iconst (v := 0) X.1 X.2.1 dJ0_indexOf_0f7a4_2 (by decide +kernel) ?_
  refine ca_J0_indexOf_7cf53_7 X hK hG hC (fun _ h => h.elim) hS hb hp x1 0 wl_3_75 hl.1 (rest := []) rfl (Nat.le_of_ble_eq_true rfl) ⟨Nat.le_of_ble_eq_true rfl, Nat.le_of_ble_eq_true rfl⟩ ⟨Nat.le_of_ble_eq_true rfl, Nat.le_of_ble_eq_true rfl⟩ dJ0_indexOf_0f7a4_3 (fun f1 locs hf1 hS => ?_)
  exact sg_iretP X hr hlk hS trivial dJ0_indexOf_0f7a4_6

theorem ca_J0_indexOf_0f7a4_7   (X : CallFix p m c cc nL s args sg_tbl own) (hK : va_K D vwCl tys s) (hG : sgG (KT P) D vwCl (fun q : Nat => base ≤ q) tys ad ks H) (hC : sgC base s) (hA : ∀ q : Nat, A q → base ≤ q) (hS : va_S A s.heap H locs)  (hb : base ≤ s.heap.size) {ta tv : Nat} {tb : List Int32} (hp : P_S ta tv 7 tb A s) (x1 : Int32) (hl : Cond.methodLink own index yJ0_indexOf_0f7a4 ∈ sg_tbl) (hsize : ls.size = nL) (hst : st0 = [.int x1].reverse ++ .ref ta :: rest) (hW : (rest.map fun v => v.category).sum ≤ 8) (hR : 4 ≤ R.frames ∧ 91 ≤ R.locals) (hf : cells ≤ R.cells ∧ slots ≤ R.slots) (hdg : decode cc pc = .ok (.invokevirtual index, 3)) (kk : ∀ (r : Int32) (locs1 : List Loc), (fun r : Int32 => True) r → va_S A s.heap H locs1 → W p l e R s m args below meth c H locs1 cells slots Q (F0 m (pc + 3) ls (.int r :: rest))) : W p l e R s m args below meth c H locs cells slots Q (F0 m pc ls st0) :=
  sg_callEVi X hK hG hC hA hS hb hp (m_J0_indexOf_0f7a4_7 l ta tv tb x1) wl_3_74 wl_1_16 wl_3_72 wl_3_73 (n := 1) (by decide +kernel) rfl rfl rfl hl hsize hst hW hR hf hdg kk

set_option maxHeartbeats 8000000 in
set_option maxRecDepth 100000 in
theorem m_J0_isLatin1_aae02_6 (l : Launch) {D : va_G} {base : Nat} {tys : List (ClassId × FieldType)} {ad ks : List Nat} {P : sgPm} {Hx : Heap} (ta tv : Nat) (tb : List Int32) : sgEi l (KT P) D vwCl base tys ad ks Hx ta tv 6 tb yJ0_isLatin1_aae02 cJ0_isLatin1_aae02 1 (some .boolean) ({ frames := 0, cells := 0, slots := 0, locals := 0 }) [.ref ta] (fun r : Int32 => iv 1 1 r) := by
  refine sg_ofE (Pq := fun Hx => va_Qi (fun r (_ : Unit) => (fun r : Int32 => iv 1 1 r) r) (fun _ t => t.heap = Hx) (fun _ : Nat => False)) (by decide +kernel) (Nat.le_of_ble_eq_true rfl) (fun p e s m below meth c X hr hlk hb hK hC hG ls hl hp => ?_)
  have hS : va_S (fun _ : Nat => False) s.heap s.heap [] := va_S.rf
  have hl : lv_has ls 1 [(0, .ref ta)] := hl
  refine va_gets (v := .int 1) X.1 X.2.1 hp.2.2.2.2.1 hS X.2.2.2.1 (X.2.2.2.2 _ wl_3_83) (fun _ h9 => h9) dJ0_isLatin1_aae02_0 ?_
  refine lv_if_eq (tgt := 17) X.1 X.2.1 dJ0_isLatin1_aae02_3 (by decide) (fun c1 => ?_) (fun c1 => ?_)
  · exact ((iv_no (a := 1) (b := 0) (iv_eqm c1 (iv_c 1 (a := 1) (b := 1) (by decide +kernel)) (iv_c 0 (a := 0) (b := 0) (by decide +kernel)) (by decide +kernel)) (by decide +kernel))).elim
  · refine lv_aload_n X.1 X.2.1 dJ0_isLatin1_aae02_6 rfl (lv_at hl 0 rfl) ?_
    refine vk_getf (v := .int 0) X.1 X.2.1 hp.2.1 hS X.2.2.2.1 (X.2.2.2.2 _ wl_9_180) (fun _ h9 => h9) dJ0_isLatin1_aae02_7 ?_
    refine lv_if_ne (tgt := 17) X.1 X.2.1 dJ0_isLatin1_aae02_10 (by decide) (fun c2 => ?_) (fun c2 => ?_)
    · exact ((c2 (iv_one (iv_c 0 (a := 0) (b := 0) (by decide +kernel)) (iv_c 0 (a := 0) (b := 0) (by decide +kernel)) (by decide +kernel)))).elim
    · refine lv_iconst (v := 1) X.1 X.2.1 dJ0_isLatin1_aae02_13 (by decide +kernel) ?_
      refine lv_goto (tgt := 18) X.1 X.2.1 dJ0_isLatin1_aae02_14 (by decide) ?_
      exact sg_zretP X hr (sg_zn (iv_of (iv_c 1 (a := 1) (b := 1) (by decide +kernel)) (a' := 0) (b' := 1) (by decide +kernel))) hlk hS (iv_c 1 (a := 1) (b := 1) (by decide +kernel)) dJ0_isLatin1_aae02_18

theorem ca_J0_isLatin1_aae02_6   (X : CallFix p m c cc nL s args sg_tbl own) (hK : va_K D vwCl tys s) (hG : sgG (KT P) D vwCl (fun q : Nat => base ≤ q) tys ad ks H) (hC : sgC base s) (hA : ∀ q : Nat, A q → base ≤ q) (hS : va_S A s.heap H locs)  (hb : base ≤ s.heap.size) {ta tv : Nat} {tb : List Int32} (hp : P_S ta tv 6 tb A s)  (hl : Cond.methodLink own index yJ0_isLatin1_aae02 ∈ sg_tbl) (hsize : ls.size = nL) (hst : st0 = [].reverse ++ .ref ta :: rest) (hW : (rest.map fun v => v.category).sum ≤ 8) (hR : 1 ≤ R.frames ∧ 20 ≤ R.locals) (hf : cells ≤ R.cells ∧ slots ≤ R.slots) (hdg : decode cc pc = .ok (.invokevirtual index, 3)) (kk : ∀ (r : Int32) (locs1 : List Loc), (fun r : Int32 => iv 1 1 r) r → va_S A s.heap H locs1 → W p l e R s m args below meth c H locs1 cells slots Q (F0 m (pc + 3) ls (.int r :: rest))) : W p l e R s m args below meth c H locs cells slots Q (F0 m pc ls st0) :=
  sg_callEVi X hK hG hC hA hS hb hp (m_J0_isLatin1_aae02_6 l ta tv tb ) wl_3_82 wl_1_16 wl_3_80 wl_3_81 (n := 0) (by decide +kernel) rfl rfl rfl hl hsize hst hW hR hf hdg kk

set_option maxHeartbeats 8000000 in
set_option maxRecDepth 100000 in
theorem m_J0_coder_7d493_6 (l : Launch) {D : va_G} {base : Nat} {tys : List (ClassId × FieldType)} {ad ks : List Nat} {P : sgPm} {Hx : Heap} (ta tv : Nat) (tb : List Int32) : sgEi l (KT P) D vwCl base tys ad ks Hx ta tv 6 tb yJ0_coder_7d493 cJ0_coder_7d493 1 (some .byte) ({ frames := 0, cells := 0, slots := 0, locals := 0 }) [.ref ta] (fun r : Int32 => iv 0 0 r) := by
  refine sg_ofE (Pq := fun Hx => va_Qi (fun r (_ : Unit) => (fun r : Int32 => iv 0 0 r) r) (fun _ t => t.heap = Hx) (fun _ : Nat => False)) (by decide +kernel) (Nat.le_of_ble_eq_true rfl) (fun p e s m below meth c X hr hlk hb hK hC hG ls hl hp => ?_)
  have hS : va_S (fun _ : Nat => False) s.heap s.heap [] := va_S.rf
  have hl : lv_has ls 1 [(0, .ref ta)] := hl
  refine va_gets (v := .int 1) X.1 X.2.1 hp.2.2.2.2.1 hS X.2.2.2.1 (X.2.2.2.2 _ wl_3_83) (fun _ h9 => h9) dJ0_coder_7d493_0 ?_
  refine lv_if_eq (tgt := 13) X.1 X.2.1 dJ0_coder_7d493_3 (by decide) (fun c1 => ?_) (fun c1 => ?_)
  · exact ((iv_no (a := 1) (b := 0) (iv_eqm c1 (iv_c 1 (a := 1) (b := 1) (by decide +kernel)) (iv_c 0 (a := 0) (b := 0) (by decide +kernel)) (by decide +kernel)) (by decide +kernel))).elim
  · refine lv_aload_n X.1 X.2.1 dJ0_coder_7d493_6 rfl (lv_at hl 0 rfl) ?_
    refine vk_getf (v := .int 0) X.1 X.2.1 hp.2.1 hS X.2.2.2.1 (X.2.2.2.2 _ wl_9_180) (fun _ h9 => h9) dJ0_coder_7d493_7 ?_
    refine lv_goto (tgt := 14) X.1 X.2.1 dJ0_coder_7d493_10 (by decide) ?_
    exact sg_zretP X hr (show narrow .byte (.int 0) = .int 0 by decide +kernel) hlk hS (iv_c 0 (a := 0) (b := 0) (by decide +kernel)) dJ0_coder_7d493_14

theorem ca_J0_coder_7d493_6   (X : CallFix p m c cc nL s args sg_tbl own) (hK : va_K D vwCl tys s) (hG : sgG (KT P) D vwCl (fun q : Nat => base ≤ q) tys ad ks H) (hC : sgC base s) (hA : ∀ q : Nat, A q → base ≤ q) (hS : va_S A s.heap H locs)  (hb : base ≤ s.heap.size) {ta tv : Nat} {tb : List Int32} (hp : P_S ta tv 6 tb A s)  (hl : Cond.methodLink own index yJ0_coder_7d493 ∈ sg_tbl) (hsize : ls.size = nL) (hst : st0 = [].reverse ++ .ref ta :: rest) (hW : (rest.map fun v => v.category).sum ≤ 8) (hR : 1 ≤ R.frames ∧ 20 ≤ R.locals) (hf : cells ≤ R.cells ∧ slots ≤ R.slots) (hdg : decode cc pc = .ok (.invokevirtual index, 3)) (kk : ∀ (r : Int32) (locs1 : List Loc), (fun r : Int32 => iv 0 0 r) r → va_S A s.heap H locs1 → W p l e R s m args below meth c H locs1 cells slots Q (F0 m (pc + 3) ls (.int r :: rest))) : W p l e R s m args below meth c H locs cells slots Q (F0 m pc ls st0) :=
  sg_callEVi X hK hG hC hA hS hb hp (m_J0_coder_7d493_6 l ta tv tb ) wl_3_92 wl_1_16 wl_3_90 wl_3_91 (n := 0) (by decide +kernel) rfl rfl rfl hl hsize hst hW hR hf hdg kk

set_option maxHeartbeats 8000000 in
set_option maxRecDepth 100000 in
theorem m_J0_length_8abf5_6 (l : Launch) {D : va_G} {base : Nat} {tys : List (ClassId × FieldType)} {ad ks : List Nat} {P : sgPm} {Hx : Heap} (ta tv : Nat) (tb : List Int32) : sgEi l (KT P) D vwCl base tys ad ks Hx ta tv 6 tb yJ0_length_8abf5 cJ0_length_8abf5 1 (some .int) ({ frames := 1, cells := 0, slots := 0, locals := 20 }) [.ref ta] (fun r : Int32 => iv 6 6 r) := by
  refine sg_ofE (Pq := fun Hx => va_Qi (fun r (_ : Unit) => (fun r : Int32 => iv 6 6 r) r) (fun _ t => t.heap = Hx) (fun _ : Nat => False)) (by decide +kernel) (Nat.le_of_ble_eq_true rfl) (fun p e s m below meth c X hr hlk hb hK hC hG ls hl hp => ?_)
  have hS : va_S (fun _ : Nat => False) s.heap s.heap [] := va_S.rf
  have hl : lv_has ls 1 [(0, .ref ta)] := hl
  refine lv_aload_n X.1 X.2.1 dJ0_length_8abf5_0 rfl (lv_at hl 0 rfl) ?_
  refine vk_getf (v := .ref tv) X.1 X.2.1 hp.2.2.1 hS X.2.2.2.1 (X.2.2.2.2 _ wl_9_181) (fun _ h9 => h9) dJ0_length_8abf5_1 ?_
  refine va_tlen X.1 X.2.1 hp.2.2.2.1 hS (v := 6) rfl dJ0_length_8abf5_4 ?_
  refine lv_aload_n X.1 X.2.1 dJ0_length_8abf5_5 rfl (lv_at hl 0 rfl) ?_
  refine ca_J0_coder_7d493_6 X hK hG hC (fun _ h => h.elim) hS hb hp wl_3_89 hl.1 (rest := [.int 6]) rfl (Nat.le_of_ble_eq_true rfl) ⟨Nat.le_of_ble_eq_true rfl, Nat.le_of_ble_eq_true rfl⟩ ⟨Nat.le_of_ble_eq_true rfl, Nat.le_of_ble_eq_true rfl⟩ dJ0_length_8abf5_6 (fun f1 locs hf1 hS => ?_)
  refine lv_ishr X.1 X.2.1 dJ0_length_8abf5_9 ?_
  refine lv_topi (fun f2 ef2 => ?_)
  exact sg_iretP X hr hlk hS (sg_shr0 ef2 hf1 (by decide +kernel) (iv_c 6 (a := 6) (b := 6) (by decide +kernel))) dJ0_length_8abf5_10

theorem ca_J0_length_8abf5_6   (X : CallFix p m c cc nL s args sg_tbl own) (hK : va_K D vwCl tys s) (hG : sgG (KT P) D vwCl (fun q : Nat => base ≤ q) tys ad ks H) (hC : sgC base s) (hA : ∀ q : Nat, A q → base ≤ q) (hS : va_S A s.heap H locs)  (hb : base ≤ s.heap.size) {ta tv : Nat} {tb : List Int32} (hp : P_S ta tv 6 tb A s)  (hl : Cond.methodLink own index yJ0_length_8abf5 ∈ sg_tbl) (hsize : ls.size = nL) (hst : st0 = [].reverse ++ .ref ta :: rest) (hW : (rest.map fun v => v.category).sum ≤ 8) (hR : 2 ≤ R.frames ∧ 40 ≤ R.locals) (hf : cells ≤ R.cells ∧ slots ≤ R.slots) (hdg : decode cc pc = .ok (.invokevirtual index, 3)) (kk : ∀ (r : Int32) (locs1 : List Loc), (fun r : Int32 => iv 6 6 r) r → va_S A s.heap H locs1 → W p l e R s m args below meth c H locs1 cells slots Q (F0 m (pc + 3) ls (.int r :: rest))) : W p l e R s m args below meth c H locs cells slots Q (F0 m pc ls st0) :=
  sg_callEVi X hK hG hC hA hS hb hp (m_J0_length_8abf5_6 l ta tv tb ) wl_3_88 wl_1_16 wl_3_86 wl_3_87 (n := 0) (by decide +kernel) rfl rfl rfl hl hsize hst hW hR hf hdg kk

set_option maxHeartbeats 8000000 in
set_option maxRecDepth 100000 in
theorem m_J1_indexOfChar_4cfef_6 (l : Launch) {D : va_G} {base : Nat} {tys : List (ClassId × FieldType)} {ad ks : List Nat} {P : sgPm} {Hx : Heap} (ta tv : Nat) (tb : List Int32) (x1 : Int32) (x2 : Int32) (h2 : iv 0 2147483647 x2) (x3 : Int32) (h3 : iv (-2147483648) 6 x3) : sgEi l (KT P) D vwCl base tys ad ks Hx ta tv 6 tb yJ1_indexOfChar_4cfef cJ1_indexOfChar_4cfef 6 (some .int) ({ frames := 0, cells := 0, slots := 0, locals := 0 }) [.ref tv, .int x1, .int x2, .int x3] (fun r : Int32 => True) := by
  refine sg_ofE (Pq := fun Hx => va_Qi (fun r (_ : Unit) => (fun r : Int32 => True) r) (fun _ t => t.heap = Hx) (fun _ : Nat => False)) (by decide +kernel) (Nat.le_of_ble_eq_true rfl) (fun p e s m below meth c X hr hlk hb hK hC hG ls hl hp => ?_)
  have hS : va_S (fun _ : Nat => False) s.heap s.heap [] := va_S.rf
  have hl : lv_has ls 6 [(0, .ref tv), (1, .int x1), (2, .int x2), (3, .int x3)] := hl
  refine lv_iload_n X.1 X.2.1 dJ1_indexOfChar_4cfef_0 rfl (lv_at hl 1 rfl) ?_
  obtain ⟨f1, ef1⟩ : ∃ y : Int32, y = (x1 : Int32).toInt8.toInt32 := ⟨_, rfl⟩
  refine lv_i2b (v := f1) X.1 X.2.1 dJ1_indexOfChar_4cfef_1 ef1.symm ?_
  refine lv_istore (lv' := [(4, .int f1), (0, .ref tv), (1, .int x1), (2, .int x2), (3, .int x3)]) X.1 X.2.1 dJ1_indexOfChar_4cfef_2 hl (by decide) rfl (fun ls hl => ?_)
  refine lv_iload_n X.1 X.2.1 dJ1_indexOfChar_4cfef_4 rfl (lv_at hl 3 rfl) ?_
  refine lv_istore (lv' := [(5, .int x2), (4, .int f1), (0, .ref tv), (1, .int x1), (2, .int x2), (3, .int x3)]) X.1 X.2.1 dJ1_indexOfChar_4cfef_5 hl (by decide) rfl (fun ls hl => ?_)
  have B2_7 : ∀ (N : Nat) (locs : List Loc) (ls : Array Slot) (z2_5 : Int32), va_S (fun _ : Nat => False) s.heap s.heap locs → lv_has ls 6 [(0, .ref tv), (3, .int x3), (4, .int f1), (5, .int z2_5)] → iv 0 2147483647 z2_5 → (2147483648 - z2_5.toInt).toNat ≤ N → W p l e (headSpec (Cond.code yJ1_indexOfChar_4cfef cJ1_indexOfChar_4cfef 6 (some .int) :: sg_tbl) ({ frames := 0, cells := 0, slots := 0, locals := 0 })).room s m #[.ref tv, .int x1, .int x2, .int x3] below meth c s.heap locs 0 0 (MQ below (va_Qi (fun r (_ : Unit) => (fun r : Int32 => True) r) (fun _ t => t.heap = s.heap) (fun _ : Nat => False)) #[.ref tv, .int x1, .int x2, .int x3] s 0 0 (fun _ : Nat => False)) (F0 m 7 ls []) := by
    intro N; induction N with
    | zero =>
      intro locs ls z2_5 hS hl hz2_5 hN
      exact absurd hN (by have := iv_up hz2_5; omega)
    | succ N ih2 =>
      intro locs ls z2_5 hS hl hz2_5 hN2
      refine lv_iload X.1 X.2.1 dJ1_indexOfChar_4cfef_7 (lv_at hl 3 rfl) ?_
      refine lv_iload_n X.1 X.2.1 dJ1_indexOfChar_4cfef_9 rfl (lv_at hl 1 rfl) ?_
      refine lv_icmp_ge (tgt := 31) X.1 X.2.1 dJ1_indexOfChar_4cfef_10 (by decide) (fun c3 => ?_) (fun c3 => ?_)
      · refine lv_iconst (v := (-1)) X.1 X.2.1 dJ1_indexOfChar_4cfef_31 (by decide +kernel) ?_
        exact sg_iretP X hr hlk hS trivial dJ1_indexOfChar_4cfef_32
      · refine lv_aload_n X.1 X.2.1 dJ1_indexOfChar_4cfef_13 rfl (lv_at hl 0 rfl) ?_
        refine lv_iload X.1 X.2.1 dJ1_indexOfChar_4cfef_14 (lv_at hl 3 rfl) ?_
        refine va_tb X.1 X.2.1 hp.2.2.2.1 hS (i := z2_5) (iv_vpin (iv_lt (b' := 5) (iv_gt_of c3) hz2_5 h3 (by decide +kernel)) (by decide +kernel)) rfl dJ1_indexOfChar_4cfef_16 ?_
        refine lv_topi (fun f4 ef4 => ?_)
        refine lv_iload X.1 X.2.1 dJ1_indexOfChar_4cfef_17 (lv_at hl 2 rfl) ?_
        refine lv_icmp_ne (tgt := 25) X.1 X.2.1 dJ1_indexOfChar_4cfef_19 (by decide) (fun c5 => ?_) (fun c5 => ?_)
        · obtain ⟨y6, ey6⟩ : ∃ y : Int32, y = z2_5 + Int32.ofInt 1 := ⟨_, rfl⟩
          refine lv_iinc (v := y6) (lv' := [(5, .int y6), (0, .ref tv), (3, .int x3), (4, .int f1)]) X.1 X.2.1 dJ1_indexOfChar_4cfef_25 hl (k := 3) rfl ey6.symm (by decide) rfl (fun ls hl => ?_)
          refine lv_goto (tgt := 7) X.1 X.2.1 dJ1_indexOfChar_4cfef_28 (by decide) ?_
          exact ih2 _ _ y6 hS (lv_sub hl [1, 2, 3, 0] rfl) (iv_of (iv_add (a' := 1) (b' := 6) ey6 (iv_lt (b' := 5) (iv_gt_of c3) hz2_5 h3 (by decide +kernel)) (iv_c _ (a := 1) (b := 1) (by decide +kernel)) (by decide +kernel)) (a' := 0) (b' := 2147483647) (by decide +kernel)) (iv_stepU ey6 (iv_lt (b' := 5) (iv_gt_of c3) hz2_5 h3 (by decide +kernel)) (by decide +kernel) hN2)
        · refine lv_iload X.1 X.2.1 dJ1_indexOfChar_4cfef_22 (lv_at hl 3 rfl) ?_
          exact sg_iretP X hr hlk hS trivial dJ1_indexOfChar_4cfef_24
  exact B2_7 _ _ _ x2 hS (lv_sub hl [2, 5, 1, 0] rfl) h2 (Nat.le_refl _)

theorem ca_J1_indexOfChar_4cfef_6   (X : CallFix p m c cc nL s args sg_tbl own) (hK : va_K D vwCl tys s) (hG : sgG (KT P) D vwCl (fun q : Nat => base ≤ q) tys ad ks H) (hC : sgC base s) (hA : ∀ q : Nat, A q → base ≤ q) (hS : va_S A s.heap H locs)  (hb : base ≤ s.heap.size) {ta tv : Nat} {tb : List Int32} (hp : P_S ta tv 6 tb A s) (x1 : Int32) (x2 : Int32) (h2 : iv 0 2147483647 x2) (x3 : Int32) (h3 : iv (-2147483648) 6 x3) (hl : Cond.methodLink own index yJ1_indexOfChar_4cfef ∈ sg_tbl) (hsize : ls.size = nL) (hst : st0 = [.ref tv, .int x1, .int x2, .int x3].reverse ++ rest) (hW : (rest.map fun v => v.category).sum ≤ 8) (hR : 1 ≤ R.frames ∧ 25 ≤ R.locals) (hf : cells ≤ R.cells ∧ slots ≤ R.slots) (hdg : decode cc pc = .ok (.invokestatic index, 3)) (kk : ∀ (r : Int32) (locs1 : List Loc), (fun r : Int32 => True) r → va_S A s.heap H locs1 → W p l e R s m args below meth c H locs1 cells slots Q (F0 m (pc + 3) ls (.int r :: rest))) : W p l e R s m args below meth c H locs cells slots Q (F0 m pc ls st0) :=
  sg_callESi X hK hG hC hA hS hb hp (m_J1_indexOfChar_4cfef_6 l ta tv tb x1 x2 h2 x3 h3) wl_3_105 wl_1_17 wl_3_104 (n := 4) (by decide +kernel) rfl rfl rfl hl hsize hst hW hR hf hdg kk

set_option maxHeartbeats 8000000 in
set_option maxRecDepth 100000 in
theorem m_J1_indexOf_4cfef_6 (l : Launch) {D : va_G} {base : Nat} {tys : List (ClassId × FieldType)} {ad ks : List Nat} {P : sgPm} {Hx : Heap} (ta tv : Nat) (tb : List Int32) (x1 : Int32) (x2 : Int32) (x3 : Int32) : sgEi l (KT P) D vwCl base tys ad ks Hx ta tv 6 tb yJ1_indexOf_4cfef cJ1_indexOf_4cfef 4 (some .int) ({ frames := 1, cells := 0, slots := 0, locals := 25 }) [.ref tv, .int x1, .int x2, .int x3] (fun r : Int32 => True) := by
  refine sg_ofE (Pq := fun Hx => va_Qi (fun r (_ : Unit) => (fun r : Int32 => True) r) (fun _ t => t.heap = Hx) (fun _ : Nat => False)) (by decide +kernel) (Nat.le_of_ble_eq_true rfl) (fun p e s m below meth c X hr hlk hb hK hC hG ls hl hp => ?_)
  have hS : va_S (fun _ : Nat => False) s.heap s.heap [] := va_S.rf
  have hl : lv_has ls 4 [(0, .ref tv), (1, .int x1), (2, .int x2), (3, .int x3)] := hl
  refine lv_iload_n X.1 X.2.1 dJ1_indexOf_4cfef_0 rfl (lv_at hl 1 rfl) ?_
  refine ca_J1_canEncode_9a6ad X hK hG hC (fun _ h => h.elim) hS hb x1 wl_3_96 hl.1 (rest := []) rfl (Nat.le_of_ble_eq_true rfl) ⟨Nat.le_of_ble_eq_true rfl, Nat.le_of_ble_eq_true rfl⟩ ⟨Nat.le_of_ble_eq_true rfl, Nat.le_of_ble_eq_true rfl⟩ dJ1_indexOf_4cfef_1 (fun f1 locs hf1 hS => ?_)
  refine lv_if_ne (tgt := 9) X.1 X.2.1 dJ1_indexOf_4cfef_4 (by decide) (fun c2 => ?_) (fun c2 => ?_)
  · refine lv_iload_n X.1 X.2.1 dJ1_indexOf_4cfef_9 rfl (lv_at hl 2 rfl) ?_
    refine lv_iconst (v := 0) X.1 X.2.1 dJ1_indexOf_4cfef_10 (by decide +kernel) ?_
    refine va_mmax X.1 X.2.1 (X.2.2.1.trans hl.1.symm) X.2.2.2.1 (X.2.2.2.2 _ wl_3_99) (X.2.2.2.2 _ wl_3_100) (X.2.2.2.2 _ wl_1_15) (X.2.2.2.2 _ wl_3_101) (Nat.le_of_ble_eq_true rfl) (Nat.le_of_ble_eq_true rfl) (Nat.le_of_ble_eq_true rfl) (Nat.le_of_ble_eq_true rfl) dJ1_indexOf_4cfef_11 ?_
    refine lv_topi (fun f3 ef3 => ?_)
    refine lv_istore_n (lv' := [(2, .int f3), (0, .ref tv), (1, .int x1), (3, .int x3)]) X.1 X.2.1 dJ1_indexOf_4cfef_14 rfl hl (by decide) rfl (fun ls hl => ?_)
    refine lv_iload_n X.1 X.2.1 dJ1_indexOf_4cfef_15 rfl (lv_at hl 3 rfl) ?_
    refine lv_aload_n X.1 X.2.1 dJ1_indexOf_4cfef_16 rfl (lv_at hl 1 rfl) ?_
    refine va_tlen X.1 X.2.1 hp.2.2.2.1 hS (v := 6) rfl dJ1_indexOf_4cfef_17 ?_
    refine va_mmin X.1 X.2.1 (X.2.2.1.trans hl.1.symm) X.2.2.2.1 (X.2.2.2.2 _ wl_3_102) (X.2.2.2.2 _ wl_3_64) (X.2.2.2.2 _ wl_1_15) (X.2.2.2.2 _ wl_3_65) (Nat.le_of_ble_eq_true rfl) (Nat.le_of_ble_eq_true rfl) (Nat.le_of_ble_eq_true rfl) (Nat.le_of_ble_eq_true rfl) dJ1_indexOf_4cfef_18 ?_
    refine lv_topi (fun f4 ef4 => ?_)
    refine lv_istore_n (lv' := [(3, .int f4), (2, .int f3), (0, .ref tv), (1, .int x1)]) X.1 X.2.1 dJ1_indexOf_4cfef_21 rfl hl (by decide) rfl (fun ls hl => ?_)
    refine lv_iload_n X.1 X.2.1 dJ1_indexOf_4cfef_22 rfl (lv_at hl 1 rfl) ?_
    refine lv_iload_n X.1 X.2.1 dJ1_indexOf_4cfef_23 rfl (lv_at hl 0 rfl) ?_
    refine lv_icmp_lt (tgt := 29) X.1 X.2.1 dJ1_indexOf_4cfef_24 (by decide) (fun c5 => ?_) (fun c5 => ?_)
    · refine lv_aload_n X.1 X.2.1 dJ1_indexOf_4cfef_29 rfl (lv_at hl 2 rfl) ?_
      refine lv_iload_n X.1 X.2.1 dJ1_indexOf_4cfef_30 rfl (lv_at hl 3 rfl) ?_
      refine lv_iload_n X.1 X.2.1 dJ1_indexOf_4cfef_31 rfl (lv_at hl 1 rfl) ?_
      refine lv_iload_n X.1 X.2.1 dJ1_indexOf_4cfef_32 rfl (lv_at hl 0 rfl) ?_
      refine ca_J1_indexOfChar_4cfef_6 X hK hG hC (fun _ h => h.elim) hS hb hp x1 f3 (iv_of (iv_lt (b' := 5) c5 (iv_max (a' := 0) (b' := 2147483647) ef3 (iv_top x2) (iv_c 0 (a := 0) (b := 0) (by decide +kernel)) (by decide +kernel)) (iv_min (a' := (-2147483648)) (b' := 6) ef4 (iv_top x3) (iv_c 6 (a := 6) (b := 6) (by decide +kernel)) (by decide +kernel)) (by decide +kernel)) (a' := 0) (b' := 2147483647) (by decide +kernel)) f4 (iv_of (iv_ltr (c' := 1) c5 (iv_max (a' := 0) (b' := 2147483647) ef3 (iv_top x2) (iv_c 0 (a := 0) (b := 0) (by decide +kernel)) (by decide +kernel)) (iv_min (a' := (-2147483648)) (b' := 6) ef4 (iv_top x3) (iv_c 6 (a := 6) (b := 6) (by decide +kernel)) (by decide +kernel)) (by decide +kernel)) (a' := (-2147483648)) (b' := 6) (by decide +kernel)) wl_3_103 hl.1 (rest := []) rfl (Nat.le_of_ble_eq_true rfl) ⟨Nat.le_of_ble_eq_true rfl, Nat.le_of_ble_eq_true rfl⟩ ⟨Nat.le_of_ble_eq_true rfl, Nat.le_of_ble_eq_true rfl⟩ dJ1_indexOf_4cfef_33 (fun f6 locs hf6 hS => ?_)
      exact sg_iretP X hr hlk hS trivial dJ1_indexOf_4cfef_36
    · refine lv_iconst (v := (-1)) X.1 X.2.1 dJ1_indexOf_4cfef_27 (by decide +kernel) ?_
      exact sg_iretP X hr hlk hS trivial dJ1_indexOf_4cfef_28
  · refine lv_iconst (v := (-1)) X.1 X.2.1 dJ1_indexOf_4cfef_7 (by decide +kernel) ?_
    exact sg_iretP X hr hlk hS trivial dJ1_indexOf_4cfef_8

theorem ca_J1_indexOf_4cfef_6   (X : CallFix p m c cc nL s args sg_tbl own) (hK : va_K D vwCl tys s) (hG : sgG (KT P) D vwCl (fun q : Nat => base ≤ q) tys ad ks H) (hC : sgC base s) (hA : ∀ q : Nat, A q → base ≤ q) (hS : va_S A s.heap H locs)  (hb : base ≤ s.heap.size) {ta tv : Nat} {tb : List Int32} (hp : P_S ta tv 6 tb A s) (x1 : Int32) (x2 : Int32) (x3 : Int32) (hl : Cond.methodLink own index yJ1_indexOf_4cfef ∈ sg_tbl) (hsize : ls.size = nL) (hst : st0 = [.ref tv, .int x1, .int x2, .int x3].reverse ++ rest) (hW : (rest.map fun v => v.category).sum ≤ 8) (hR : 2 ≤ R.frames ∧ 48 ≤ R.locals) (hf : cells ≤ R.cells ∧ slots ≤ R.slots) (hdg : decode cc pc = .ok (.invokestatic index, 3)) (kk : ∀ (r : Int32) (locs1 : List Loc), (fun r : Int32 => True) r → va_S A s.heap H locs1 → W p l e R s m args below meth c H locs1 cells slots Q (F0 m (pc + 3) ls (.int r :: rest))) : W p l e R s m args below meth c H locs cells slots Q (F0 m pc ls st0) :=
  sg_callESi X hK hG hC hA hS hb hp (m_J1_indexOf_4cfef_6 l ta tv tb x1 x2 x3) wl_3_95 wl_1_17 wl_3_94 (n := 4) (by decide +kernel) rfl rfl rfl hl hsize hst hW hR hf hdg kk

set_option maxHeartbeats 8000000 in
set_option maxRecDepth 100000 in
theorem m_J0_indexOf_7cf53_6 (l : Launch) {D : va_G} {base : Nat} {tys : List (ClassId × FieldType)} {ad ks : List Nat} {P : sgPm} {Hx : Heap} (ta tv : Nat) (tb : List Int32) (x1 : Int32) (x2 : Int32) : sgEi l (KT P) D vwCl base tys ad ks Hx ta tv 6 tb yJ0_indexOf_7cf53 cJ0_indexOf_7cf53 3 (some .int) ({ frames := 2, cells := 0, slots := 0, locals := 48 }) [.ref ta, .int x1, .int x2] (fun r : Int32 => True) := by
  refine sg_ofE (Pq := fun Hx => va_Qi (fun r (_ : Unit) => (fun r : Int32 => True) r) (fun _ t => t.heap = Hx) (fun _ : Nat => False)) (by decide +kernel) (Nat.le_of_ble_eq_true rfl) (fun p e s m below meth c X hr hlk hb hK hC hG ls hl hp => ?_)
  have hS : va_S (fun _ : Nat => False) s.heap s.heap [] := va_S.rf
  have hl : lv_has ls 3 [(0, .ref ta), (1, .int x1), (2, .int x2)] := hl
  refine lv_aload_n X.1 X.2.1 dJ0_indexOf_7cf53_0 rfl (lv_at hl 0 rfl) ?_
  refine ca_J0_isLatin1_aae02_6 X hK hG hC (fun _ h => h.elim) hS hb hp wl_3_79 hl.1 (rest := []) rfl (Nat.le_of_ble_eq_true rfl) ⟨Nat.le_of_ble_eq_true rfl, Nat.le_of_ble_eq_true rfl⟩ ⟨Nat.le_of_ble_eq_true rfl, Nat.le_of_ble_eq_true rfl⟩ dJ0_indexOf_7cf53_1 (fun f1 locs hf1 hS => ?_)
  refine lv_if_eq (tgt := 23) X.1 X.2.1 dJ0_indexOf_7cf53_4 (by decide) (fun c2 => ?_) (fun c2 => ?_)
  · exact ((iv_no (a := 1) (b := 0) (iv_eqm c2 hf1 (iv_c 0 (a := 0) (b := 0) (by decide +kernel)) (by decide +kernel)) (by decide +kernel))).elim
  · refine lv_aload_n X.1 X.2.1 dJ0_indexOf_7cf53_7 rfl (lv_at hl 0 rfl) ?_
    refine vk_getf (v := .ref tv) X.1 X.2.1 hp.2.2.1 hS X.2.2.2.1 (X.2.2.2.2 _ wl_9_181) (fun _ h9 => h9) dJ0_indexOf_7cf53_8 ?_
    refine lv_iload_n X.1 X.2.1 dJ0_indexOf_7cf53_11 rfl (lv_at hl 1 rfl) ?_
    refine lv_iload_n X.1 X.2.1 dJ0_indexOf_7cf53_12 rfl (lv_at hl 2 rfl) ?_
    refine lv_aload_n X.1 X.2.1 dJ0_indexOf_7cf53_13 rfl (lv_at hl 0 rfl) ?_
    refine ca_J0_length_8abf5_6 X hK hG hC (fun _ h => h.elim) hS hb hp wl_3_85 hl.1 (rest := [.int x2, .int x1, .ref tv]) rfl (Nat.le_of_ble_eq_true rfl) ⟨Nat.le_of_ble_eq_true rfl, Nat.le_of_ble_eq_true rfl⟩ ⟨Nat.le_of_ble_eq_true rfl, Nat.le_of_ble_eq_true rfl⟩ dJ0_indexOf_7cf53_14 (fun f3 locs hf3 hS => ?_)
    refine ca_J1_indexOf_4cfef_6 X hK hG hC (fun _ h => h.elim) hS hb hp x1 x2 f3 wl_3_93 hl.1 (rest := []) rfl (Nat.le_of_ble_eq_true rfl) ⟨Nat.le_of_ble_eq_true rfl, Nat.le_of_ble_eq_true rfl⟩ ⟨Nat.le_of_ble_eq_true rfl, Nat.le_of_ble_eq_true rfl⟩ dJ0_indexOf_7cf53_17 (fun f4 locs hf4 hS => ?_)
    refine lv_goto (tgt := 36) X.1 X.2.1 dJ0_indexOf_7cf53_20 (by decide) ?_
    exact sg_iretP X hr hlk hS trivial dJ0_indexOf_7cf53_36

theorem ca_J0_indexOf_7cf53_6   (X : CallFix p m c cc nL s args sg_tbl own) (hK : va_K D vwCl tys s) (hG : sgG (KT P) D vwCl (fun q : Nat => base ≤ q) tys ad ks H) (hC : sgC base s) (hA : ∀ q : Nat, A q → base ≤ q) (hS : va_S A s.heap H locs)  (hb : base ≤ s.heap.size) {ta tv : Nat} {tb : List Int32} (hp : P_S ta tv 6 tb A s) (x1 : Int32) (x2 : Int32) (hl : Cond.methodLink own index yJ0_indexOf_7cf53 ∈ sg_tbl) (hsize : ls.size = nL) (hst : st0 = [.int x1, .int x2].reverse ++ .ref ta :: rest) (hW : (rest.map fun v => v.category).sum ≤ 8) (hR : 3 ≤ R.frames ∧ 70 ≤ R.locals) (hf : cells ≤ R.cells ∧ slots ≤ R.slots) (hdg : decode cc pc = .ok (.invokevirtual index, 3)) (kk : ∀ (r : Int32) (locs1 : List Loc), (fun r : Int32 => True) r → va_S A s.heap H locs1 → W p l e R s m args below meth c H locs1 cells slots Q (F0 m (pc + 3) ls (.int r :: rest))) : W p l e R s m args below meth c H locs cells slots Q (F0 m pc ls st0) :=
  sg_callEVi X hK hG hC hA hS hb hp (m_J0_indexOf_7cf53_6 l ta tv tb x1 x2) wl_3_78 wl_1_16 wl_3_76 wl_3_77 (n := 2) (by decide +kernel) rfl rfl rfl hl hsize hst hW hR hf hdg kk

set_option maxHeartbeats 8000000 in
set_option maxRecDepth 100000 in
theorem m_J0_indexOf_0f7a4_6 (l : Launch) {D : va_G} {base : Nat} {tys : List (ClassId × FieldType)} {ad ks : List Nat} {P : sgPm} {Hx : Heap} (ta tv : Nat) (tb : List Int32) (x1 : Int32) : sgEi l (KT P) D vwCl base tys ad ks Hx ta tv 6 tb yJ0_indexOf_0f7a4 cJ0_indexOf_0f7a4 2 (some .int) ({ frames := 3, cells := 0, slots := 0, locals := 70 }) [.ref ta, .int x1] (fun r : Int32 => True) := by
  refine sg_ofE (Pq := fun Hx => va_Qi (fun r (_ : Unit) => (fun r : Int32 => True) r) (fun _ t => t.heap = Hx) (fun _ : Nat => False)) (by decide +kernel) (Nat.le_of_ble_eq_true rfl) (fun p e s m below meth c X hr hlk hb hK hC hG ls hl hp => ?_)
  have hS : va_S (fun _ : Nat => False) s.heap s.heap [] := va_S.rf
  have hl : lv_has ls 2 [(0, .ref ta), (1, .int x1)] := hl
  refine lv_aload_n X.1 X.2.1 dJ0_indexOf_0f7a4_0 rfl (lv_at hl 0 rfl) ?_
  refine lv_iload_n X.1 X.2.1 dJ0_indexOf_0f7a4_1 rfl (lv_at hl 1 rfl) ?_
  refine lv_iconst (v := 0) X.1 X.2.1 dJ0_indexOf_0f7a4_2 (by decide +kernel) ?_
  refine ca_J0_indexOf_7cf53_6 X hK hG hC (fun _ h => h.elim) hS hb hp x1 0 wl_3_75 hl.1 (rest := []) rfl (Nat.le_of_ble_eq_true rfl) ⟨Nat.le_of_ble_eq_true rfl, Nat.le_of_ble_eq_true rfl⟩ ⟨Nat.le_of_ble_eq_true rfl, Nat.le_of_ble_eq_true rfl⟩ dJ0_indexOf_0f7a4_3 (fun f1 locs hf1 hS => ?_)
  exact sg_iretP X hr hlk hS trivial dJ0_indexOf_0f7a4_6

theorem ca_J0_indexOf_0f7a4_6   (X : CallFix p m c cc nL s args sg_tbl own) (hK : va_K D vwCl tys s) (hG : sgG (KT P) D vwCl (fun q : Nat => base ≤ q) tys ad ks H) (hC : sgC base s) (hA : ∀ q : Nat, A q → base ≤ q) (hS : va_S A s.heap H locs)  (hb : base ≤ s.heap.size) {ta tv : Nat} {tb : List Int32} (hp : P_S ta tv 6 tb A s) (x1 : Int32) (hl : Cond.methodLink own index yJ0_indexOf_0f7a4 ∈ sg_tbl) (hsize : ls.size = nL) (hst : st0 = [.int x1].reverse ++ .ref ta :: rest) (hW : (rest.map fun v => v.category).sum ≤ 8) (hR : 4 ≤ R.frames ∧ 91 ≤ R.locals) (hf : cells ≤ R.cells ∧ slots ≤ R.slots) (hdg : decode cc pc = .ok (.invokevirtual index, 3)) (kk : ∀ (r : Int32) (locs1 : List Loc), (fun r : Int32 => True) r → va_S A s.heap H locs1 → W p l e R s m args below meth c H locs1 cells slots Q (F0 m (pc + 3) ls (.int r :: rest))) : W p l e R s m args below meth c H locs cells slots Q (F0 m pc ls st0) :=
  sg_callEVi X hK hG hC hA hS hb hp (m_J0_indexOf_0f7a4_6 l ta tv tb x1) wl_3_74 wl_1_16 wl_3_72 wl_3_73 (n := 1) (by decide +kernel) rfl rfl rfl hl hsize hst hW hR hf hdg kk

set_option maxHeartbeats 8000000 in
set_option maxRecDepth 100000 in
theorem m_X3_readCut (l : Launch) {D : va_G} {base : Nat} {tys : List (ClassId × FieldType)} {ad ks : List Nat} {P : sgPm} (a0 : Nat) (h0 : isK ad ks 10 a0) (x1 : Int32) : sgMi l (KT P) D vwCl base tys ad ks yX3_readCut cX3_readCut 4 (some .int) ({ frames := 2, cells := 0, slots := 0, locals := 34 }) [.ref a0, .int x1] (fun r : Int32 => True) := by
  refine sg_ofW (by decide +kernel) (Nat.le_of_ble_eq_true rfl) (fun p e s m below meth c X hr hlk hb hK hC hG ls hl => ?_)
  have hS : va_S (fun q : Nat => base ≤ q) s.heap s.heap [] := va_S.rf
  have hl : lv_has ls 4 [(0, .ref a0), (1, .int x1)] := hl
  refine lv_aload_n X.1 X.2.1 dX3_readCut_0 rfl (lv_at hl 0 rfl) ?_
  refine ca_X10_sign X hK hG hC (fun _ h => h) hS hb a0 h0 wl_4_23 hl.1 (rest := []) rfl (Nat.le_of_ble_eq_true rfl) ⟨Nat.le_of_ble_eq_true rfl, Nat.le_of_ble_eq_true rfl⟩ ⟨Nat.le_of_ble_eq_true rfl, Nat.le_of_ble_eq_true rfl⟩ dX3_readCut_1 (fun f1 locs hf1 hS => ?_)
  refine lv_istore_n (lv' := [(2, .int f1), (0, .ref a0), (1, .int x1)]) X.1 X.2.1 dX3_readCut_4 rfl hl (by decide) rfl (fun ls hl => ?_)
  refine lv_iload_n X.1 X.2.1 dX3_readCut_5 rfl (lv_at hl 0 rfl) ?_
  refine lv_bipush (v := 114) X.1 X.2.1 dX3_readCut_6 (by decide +kernel) ?_
  have B3_24 : ∀ (locs : List Loc) (ls : Array Slot), va_S (fun q : Nat => base ≤ q) s.heap s.heap locs → lv_has ls 4 [(0, .ref a0), (1, .int x1), (2, .int f1)] → W p l e (headSpec (Cond.code yX3_readCut cX3_readCut 4 (some .int) :: sg_tbl) ({ frames := 2, cells := 0, slots := 0, locals := 34 })).room s m #[.ref a0, .int x1] below meth c s.heap locs 0 0 (MQ below (va_Qi (fun r (_ : Unit) => (fun r : Int32 => True) r) (fun _ => sgB (KT P) D vwCl base tys ad ks) (fun q : Nat => base ≤ q)) #[.ref a0, .int x1] s 0 0 (fun q : Nat => base ≤ q)) (F0 m 24 ls []) := by
    intro locs ls hS hl
    refine lv_aload_n X.1 X.2.1 dX3_readCut_24 rfl (lv_at hl 0 rfl) ?_
    refine ca_X10_step X hK hG hC hS hb a0 h0 wl_4_25 hl.1 (rest := []) rfl (Nat.le_of_ble_eq_true rfl) ⟨Nat.le_of_ble_eq_true rfl, Nat.le_of_ble_eq_true rfl⟩ ⟨Nat.le_of_ble_eq_true rfl, Nat.le_of_ble_eq_true rfl⟩ dX3_readCut_25 (fun H locs hG hS => ?_)
    refine lv_aload_n X.1 X.2.1 dX3_readCut_28 rfl (lv_at hl 0 rfl) ?_
    refine ca_X10_sign X hK hG hC (fun _ h => h) hS hb a0 h0 wl_4_23 hl.1 (rest := []) rfl (Nat.le_of_ble_eq_true rfl) ⟨Nat.le_of_ble_eq_true rfl, Nat.le_of_ble_eq_true rfl⟩ ⟨Nat.le_of_ble_eq_true rfl, Nat.le_of_ble_eq_true rfl⟩ dX3_readCut_29 (fun f5 locs hf5 hS => ?_)
    refine lv_bipush (v := 48) X.1 X.2.1 dX3_readCut_32 (by decide +kernel) ?_
    refine lv_isub X.1 X.2.1 dX3_readCut_34 ?_
    refine lv_topi (fun f6 ef6 => ?_)
    refine lv_istore_n (lv' := [(3, .int f6), (0, .ref a0), (1, .int x1), (2, .int f1)]) X.1 X.2.1 dX3_readCut_35 rfl hl (by decide) rfl (fun ls hl => ?_)
    refine lv_iload_n X.1 X.2.1 dX3_readCut_36 rfl (lv_at hl 0 rfl) ?_
    refine lv_iconst (v := 1) X.1 X.2.1 dX3_readCut_37 (by decide +kernel) ?_
    have B8_46 : ∀ (locs : List Loc) (ls : Array Slot), va_S (fun q : Nat => base ≤ q) s.heap H locs → lv_has ls 4 [(0, .ref a0)] → W p l e (headSpec (Cond.code yX3_readCut cX3_readCut 4 (some .int) :: sg_tbl) ({ frames := 2, cells := 0, slots := 0, locals := 34 })).room s m #[.ref a0, .int x1] below meth c H locs 0 0 (MQ below (va_Qi (fun r (_ : Unit) => (fun r : Int32 => True) r) (fun _ => sgB (KT P) D vwCl base tys ad ks) (fun q : Nat => base ≤ q)) #[.ref a0, .int x1] s 0 0 (fun q : Nat => base ≤ q)) (F0 m 46 ls []) := by
      intro locs ls hS hl
      refine lv_aload_n X.1 X.2.1 dX3_readCut_46 rfl (lv_at hl 0 rfl) ?_
      refine ca_X10_wrong X hK hG hC hS hb a0 h0 wl_4_24 hl.1 (rest := []) rfl (Nat.le_of_ble_eq_true rfl) ⟨Nat.le_of_ble_eq_true rfl, Nat.le_of_ble_eq_true rfl⟩ ⟨Nat.le_of_ble_eq_true rfl, Nat.le_of_ble_eq_true rfl⟩ dX3_readCut_47 (fun f9 H locs hf9 hG hS => ?_)
      refine lv_pop X.1 X.2.1 dX3_readCut_50 rfl ?_
      refine lv_iconst (v := (-1)) X.1 X.2.1 dX3_readCut_51 (by decide +kernel) ?_
      exact sg_iret X hr hlk hb hK hC hG hS trivial dX3_readCut_52
    refine lv_icmp_lt (tgt := 46) X.1 X.2.1 dX3_readCut_38 (by decide) (fun c7 => ?_) (fun c7 => ?_)
    · exact B8_46 _ _ hS (lv_sub hl [1] rfl)
    · refine lv_iload_n X.1 X.2.1 dX3_readCut_41 rfl (lv_at hl 0 rfl) ?_
      refine lv_iconst (v := 5) X.1 X.2.1 dX3_readCut_42 (by decide +kernel) ?_
      refine lv_icmp_le (tgt := 53) X.1 X.2.1 dX3_readCut_43 (by decide) (fun c10 => ?_) (fun c10 => ?_)
      · refine lv_aload_n X.1 X.2.1 dX3_readCut_53 rfl (lv_at hl 1 rfl) ?_
        refine ca_X10_step X hK hG hC hS hb a0 h0 wl_4_25 hl.1 (rest := []) rfl (Nat.le_of_ble_eq_true rfl) ⟨Nat.le_of_ble_eq_true rfl, Nat.le_of_ble_eq_true rfl⟩ ⟨Nat.le_of_ble_eq_true rfl, Nat.le_of_ble_eq_true rfl⟩ dX3_readCut_54 (fun H locs hG hS => ?_)
        refine lv_iconst (v := 1) X.1 X.2.1 dX3_readCut_57 (by decide +kernel) ?_
        refine lv_iload_n X.1 X.2.1 dX3_readCut_58 rfl (lv_at hl 2 rfl) ?_
        refine lv_iload_n X.1 X.2.1 dX3_readCut_59 rfl (lv_at hl 3 rfl) ?_
        refine lv_bipush (v := 100) X.1 X.2.1 dX3_readCut_60 (by decide +kernel) ?_
        have B13_70 : ∀ (locs : List Loc) (ls : Array Slot) (w13_0 : Int32), va_S (fun q : Nat => base ≤ q) s.heap H locs → lv_has ls 4 [(3, .int f6)] → iv 0 1 w13_0 → W p l e (headSpec (Cond.code yX3_readCut cX3_readCut 4 (some .int) :: sg_tbl) ({ frames := 2, cells := 0, slots := 0, locals := 34 })).room s m #[.ref a0, .int x1] below meth c H locs 0 0 (MQ below (va_Qi (fun r (_ : Unit) => (fun r : Int32 => True) r) (fun _ => sgB (KT P) D vwCl base tys ad ks) (fun q : Nat => base ≤ q)) #[.ref a0, .int x1] s 0 0 (fun q : Nat => base ≤ q)) (F0 m 70 ls [.int w13_0, .int x1, .int 1]) := by
          intro locs ls w13_0 hS hl hw13_0
          refine lv_iload_n X.1 X.2.1 dX3_readCut_70 rfl (lv_at hl 0 rfl) ?_
          refine ca_X3_packed X hK hG hC (fun _ h => h) hS hb 1 x1 w13_0 f6 wl_4_26 hl.1 (rest := []) rfl (Nat.le_of_ble_eq_true rfl) ⟨Nat.le_of_ble_eq_true rfl, Nat.le_of_ble_eq_true rfl⟩ ⟨Nat.le_of_ble_eq_true rfl, Nat.le_of_ble_eq_true rfl⟩ dX3_readCut_71 (fun f14 locs hf14 hS => ?_)
          exact sg_iret X hr hlk hb hK hC hG hS trivial dX3_readCut_74
        refine lv_icmp_ne (tgt := 69) X.1 X.2.1 dX3_readCut_62 (by decide) (fun c12 => ?_) (fun c12 => ?_)
        · refine lv_iconst (v := 0) X.1 X.2.1 dX3_readCut_69 (by decide +kernel) ?_
          exact B13_70 _ _ 0 hS (lv_sub hl [0] rfl) (iv_of (iv_c 0 (a := 0) (b := 0) (by decide +kernel)) (a' := 0) (b' := 1) (by decide +kernel))
        · refine lv_iconst (v := 1) X.1 X.2.1 dX3_readCut_65 (by decide +kernel) ?_
          refine lv_goto (tgt := 70) X.1 X.2.1 dX3_readCut_66 (by decide) ?_
          exact B13_70 _ _ 1 hS (lv_sub hl [0] rfl) (iv_of (iv_c 1 (a := 1) (b := 1) (by decide +kernel)) (a' := 0) (b' := 1) (by decide +kernel))
      · exact B8_46 _ _ hS (lv_sub hl [1] rfl)
  refine lv_icmp_eq (tgt := 24) X.1 X.2.1 dX3_readCut_8 (by decide) (fun c2 => ?_) (fun c2 => ?_)
  · exact B3_24 _ _ hS (lv_sub hl [1, 2, 0] rfl)
  · refine lv_iload_n X.1 X.2.1 dX3_readCut_11 rfl (lv_at hl 0 rfl) ?_
    refine lv_bipush (v := 100) X.1 X.2.1 dX3_readCut_12 (by decide +kernel) ?_
    refine lv_icmp_eq (tgt := 24) X.1 X.2.1 dX3_readCut_14 (by decide) (fun c15 => ?_) (fun c15 => ?_)
    · exact B3_24 _ _ hS (lv_sub hl [1, 2, 0] rfl)
    · refine lv_aload_n X.1 X.2.1 dX3_readCut_17 rfl (lv_at hl 1 rfl) ?_
      refine ca_X10_wrong X hK hG hC hS hb a0 h0 wl_4_24 hl.1 (rest := []) rfl (Nat.le_of_ble_eq_true rfl) ⟨Nat.le_of_ble_eq_true rfl, Nat.le_of_ble_eq_true rfl⟩ ⟨Nat.le_of_ble_eq_true rfl, Nat.le_of_ble_eq_true rfl⟩ dX3_readCut_18 (fun f16 H locs hf16 hG hS => ?_)
      refine lv_pop X.1 X.2.1 dX3_readCut_21 rfl ?_
      refine lv_iconst (v := (-1)) X.1 X.2.1 dX3_readCut_22 (by decide +kernel) ?_
      exact sg_iret X hr hlk hb hK hC hG hS trivial dX3_readCut_23

theorem ca_X3_readCut   (X : CallFix p m c cc nL s args sg_tbl own) (hK : va_K D vwCl tys s) (hG : sgG (KT P) D vwCl (fun q : Nat => base ≤ q) tys ad ks H) (hC : sgC base s) (hS : va_S (fun q : Nat => base ≤ q) s.heap H locs) (hb : base ≤ s.heap.size) (a0 : Nat) (h0 : isK ad ks 10 a0) (x1 : Int32) (hl : Cond.methodLink own index yX3_readCut ∈ sg_tbl) (hsize : ls.size = nL) (hst : st0 = [.ref a0, .int x1].reverse ++ rest) (hW : (rest.map fun v => v.category).sum ≤ 8) (hR : 3 ≤ R.frames ∧ 57 ≤ R.locals) (hf : cells ≤ R.cells ∧ slots ≤ R.slots) (hdg : decode cc pc = .ok (.invokestatic index, 3)) (kk : ∀ (r : Int32) (H1 : Heap) (locs1 : List Loc), (fun r : Int32 => True) r → sgG (KT P) D vwCl (fun q : Nat => base ≤ q) tys ad ks H1 → va_S (fun q : Nat => base ≤ q) s.heap H1 locs1 → W p l e R s m args below meth c H1 locs1 cells slots Q (F0 m (pc + 3) ls (.int r :: rest))) : W p l e R s m args below meth c H locs cells slots Q (F0 m pc ls st0) :=
  sg_callSi X hK hG hC hS hb (m_X3_readCut l a0 h0 x1) wl_4_32 wl_1_4 wl_4_31 (n := 2) (by decide +kernel) rfl rfl rfl hl hsize hst hW hR hf hdg kk

set_option maxHeartbeats 8000000 in
set_option maxRecDepth 100000 in
theorem m_X3_readMove (l : Launch) {D : va_G} {base : Nat} {tys : List (ClassId × FieldType)} {ad ks : List Nat} {P : sgPm} (a0 : Nat) (h0 : isK ad ks 3 a0) (a1 : Nat) (h1 : isK ad ks 10 a1) : sgMi l (KT P) D vwCl base tys ad ks yX3_readMove cX3_readMove 4 (some .int) ({ frames := 3, cells := 0, slots := 0, locals := 57 }) [.ref a0, .ref a1] (fun r : Int32 => True) := by
  refine sg_ofW (by decide +kernel) (Nat.le_of_ble_eq_true rfl) (fun p e s m below meth c X hr hlk hb hK hC hG ls hl => ?_)
  have hS : va_S (fun q : Nat => base ≤ q) s.heap s.heap [] := va_S.rf
  have hl : lv_has ls 4 [(0, .ref a0), (1, .ref a1)] := hl
  refine lv_aload_n X.1 X.2.1 dX3_readMove_0 rfl (lv_at hl 1 rfl) ?_
  refine ca_X10_sign X hK hG hC (fun _ h => h) hS hb a1 h1 wl_4_23 hl.1 (rest := []) rfl (Nat.le_of_ble_eq_true rfl) ⟨Nat.le_of_ble_eq_true rfl, Nat.le_of_ble_eq_true rfl⟩ ⟨Nat.le_of_ble_eq_true rfl, Nat.le_of_ble_eq_true rfl⟩ dX3_readMove_1 (fun f1 locs hf1 hS => ?_)
  refine lv_istore_n (lv' := [(2, .int f1), (0, .ref a0), (1, .ref a1)]) X.1 X.2.1 dX3_readMove_4 rfl hl (by decide) rfl (fun ls hl => ?_)
  refine lv_iload_n X.1 X.2.1 dX3_readMove_5 rfl (lv_at hl 0 rfl) ?_
  refine lv_bipush (v := 103) X.1 X.2.1 dX3_readMove_6 (by decide +kernel) ?_
  have B3_36 : ∀ (locs : List Loc) (ls : Array Slot), va_S (fun q : Nat => base ≤ q) s.heap s.heap locs → lv_has ls 4 [(0, .ref a0), (1, .ref a1), (2, .int f1)] → W p l e (headSpec (Cond.code yX3_readMove cX3_readMove 4 (some .int) :: sg_tbl) ({ frames := 3, cells := 0, slots := 0, locals := 57 })).room s m #[.ref a0, .ref a1] below meth c s.heap locs 0 0 (MQ below (va_Qi (fun r (_ : Unit) => (fun r : Int32 => True) r) (fun _ => sgB (KT P) D vwCl base tys ad ks) (fun q : Nat => base ≤ q)) #[.ref a0, .ref a1] s 0 0 (fun q : Nat => base ≤ q)) (F0 m 36 ls []) := by
    intro locs ls hS hl
    refine lv_aload_n X.1 X.2.1 dX3_readMove_36 rfl (lv_at hl 1 rfl) ?_
    refine ca_X10_step X hK hG hC hS hb a1 h1 wl_4_25 hl.1 (rest := []) rfl (Nat.le_of_ble_eq_true rfl) ⟨Nat.le_of_ble_eq_true rfl, Nat.le_of_ble_eq_true rfl⟩ ⟨Nat.le_of_ble_eq_true rfl, Nat.le_of_ble_eq_true rfl⟩ dX3_readMove_37 (fun H locs hG hS => ?_)
    refine lv_iload_n X.1 X.2.1 dX3_readMove_40 rfl (lv_at hl 2 rfl) ?_
    refine lv_bipush (v := 120) X.1 X.2.1 dX3_readMove_41 (by decide +kernel) ?_
    refine lv_icmp_ne (tgt := 54) X.1 X.2.1 dX3_readMove_43 (by decide) (fun c5 => ?_) (fun c5 => ?_)
    · refine lv_iload_n X.1 X.2.1 dX3_readMove_54 rfl (lv_at hl 2 rfl) ?_
      refine lv_bipush (v := 103) X.1 X.2.1 dX3_readMove_55 (by decide +kernel) ?_
      have B7_91 : ∀ (locs : List Loc) (ls : Array Slot), va_S (fun q : Nat => base ≤ q) s.heap H locs → lv_has ls 4 [(1, .ref a1), (2, .int f1)] → W p l e (headSpec (Cond.code yX3_readMove cX3_readMove 4 (some .int) :: sg_tbl) ({ frames := 3, cells := 0, slots := 0, locals := 57 })).room s m #[.ref a0, .ref a1] below meth c H locs 0 0 (MQ below (va_Qi (fun r (_ : Unit) => (fun r : Int32 => True) r) (fun _ => sgB (KT P) D vwCl base tys ad ks) (fun q : Nat => base ≤ q)) #[.ref a0, .ref a1] s 0 0 (fun q : Nat => base ≤ q)) (F0 m 91 ls []) := by
        intro locs ls hS hl
        refine lv_aload_n X.1 X.2.1 dX3_readMove_91 rfl (lv_at hl 0 rfl) ?_
        refine lv_iconst (v := 2) X.1 X.2.1 dX3_readMove_92 (by decide +kernel) ?_
        refine lv_iconst (v := 0) X.1 X.2.1 dX3_readMove_93 (by decide +kernel) ?_
        refine lv_bipush (v := 29) X.1 X.2.1 dX3_readMove_94 (by decide +kernel) ?_
        refine ca_X10_number X hK hG hC hS hb a1 h1 2 0 29 wl_4_29 hl.1 (rest := []) rfl (Nat.le_of_ble_eq_true rfl) ⟨Nat.le_of_ble_eq_true rfl, Nat.le_of_ble_eq_true rfl⟩ ⟨Nat.le_of_ble_eq_true rfl, Nat.le_of_ble_eq_true rfl⟩ dX3_readMove_96 (fun f8 H locs hf8 hG hS => ?_)
        refine lv_istore_n (lv' := [(3, .int f8), (1, .ref a1), (2, .int f1)]) X.1 X.2.1 dX3_readMove_99 rfl hl (by decide) rfl (fun ls hl => ?_)
        refine lv_iload_n X.1 X.2.1 dX3_readMove_100 rfl (lv_at hl 0 rfl) ?_
        refine lv_iconst (v := (-1)) X.1 X.2.1 dX3_readMove_101 (by decide +kernel) ?_
        refine lv_icmp_ne (tgt := 107) X.1 X.2.1 dX3_readMove_102 (by decide) (fun c9 => ?_) (fun c9 => ?_)
        · refine lv_iload_n X.1 X.2.1 dX3_readMove_107 rfl (lv_at hl 2 rfl) ?_
          refine lv_bipush (v := 99) X.1 X.2.1 dX3_readMove_108 (by decide +kernel) ?_
          refine lv_icmp_ne (tgt := 119) X.1 X.2.1 dX3_readMove_110 (by decide) (fun c10 => ?_) (fun c10 => ?_)
          · refine lv_iload_n X.1 X.2.1 dX3_readMove_119 rfl (lv_at hl 2 rfl) ?_
            refine lv_bipush (v := 103) X.1 X.2.1 dX3_readMove_120 (by decide +kernel) ?_
            have B12_130 : ∀ (locs : List Loc) (ls : Array Slot) (w12_0 : Int32), va_S (fun q : Nat => base ≤ q) s.heap H locs → lv_has ls 4 [(3, .int f8)] → iv 0 2 w12_0 → W p l e (headSpec (Cond.code yX3_readMove cX3_readMove 4 (some .int) :: sg_tbl) ({ frames := 3, cells := 0, slots := 0, locals := 57 })).room s m #[.ref a0, .ref a1] below meth c H locs 0 0 (MQ below (va_Qi (fun r (_ : Unit) => (fun r : Int32 => True) r) (fun _ => sgB (KT P) D vwCl base tys ad ks) (fun q : Nat => base ≤ q)) #[.ref a0, .ref a1] s 0 0 (fun q : Nat => base ≤ q)) (F0 m 130 ls [.int w12_0]) := by
              intro locs ls w12_0 hS hl hw12_0
              refine lv_iload_n X.1 X.2.1 dX3_readMove_130 rfl (lv_at hl 0 rfl) ?_
              refine lv_iconst (v := 0) X.1 X.2.1 dX3_readMove_131 (by decide +kernel) ?_
              refine lv_iconst (v := 0) X.1 X.2.1 dX3_readMove_132 (by decide +kernel) ?_
              refine ca_X3_packed X hK hG hC (fun _ h => h) hS hb w12_0 f8 0 0 wl_4_26 hl.1 (rest := []) rfl (Nat.le_of_ble_eq_true rfl) ⟨Nat.le_of_ble_eq_true rfl, Nat.le_of_ble_eq_true rfl⟩ ⟨Nat.le_of_ble_eq_true rfl, Nat.le_of_ble_eq_true rfl⟩ dX3_readMove_133 (fun f13 locs hf13 hS => ?_)
              exact sg_iret X hr hlk hb hK hC hG hS trivial dX3_readMove_136
            refine lv_icmp_ne (tgt := 129) X.1 X.2.1 dX3_readMove_122 (by decide) (fun c11 => ?_) (fun c11 => ?_)
            · refine lv_iconst (v := 2) X.1 X.2.1 dX3_readMove_129 (by decide +kernel) ?_
              exact B12_130 _ _ 2 hS (lv_sub hl [0] rfl) (iv_of (iv_c 2 (a := 2) (b := 2) (by decide +kernel)) (a' := 0) (b' := 2) (by decide +kernel))
            · refine lv_iconst (v := 0) X.1 X.2.1 dX3_readMove_125 (by decide +kernel) ?_
              refine lv_goto (tgt := 130) X.1 X.2.1 dX3_readMove_126 (by decide) ?_
              exact B12_130 _ _ 0 hS (lv_sub hl [0] rfl) (iv_of (iv_c 0 (a := 0) (b := 0) (by decide +kernel)) (a' := 0) (b' := 2) (by decide +kernel))
          · refine lv_aload_n X.1 X.2.1 dX3_readMove_113 rfl (lv_at hl 1 rfl) ?_
            refine lv_iload_n X.1 X.2.1 dX3_readMove_114 rfl (lv_at hl 0 rfl) ?_
            refine ca_X3_readCut X hK hG hC hS hb a1 h1 f8 wl_4_30 hl.1 (rest := []) rfl (Nat.le_of_ble_eq_true rfl) ⟨Nat.le_of_ble_eq_true rfl, Nat.le_of_ble_eq_true rfl⟩ ⟨Nat.le_of_ble_eq_true rfl, Nat.le_of_ble_eq_true rfl⟩ dX3_readMove_115 (fun f14 H locs hf14 hG hS => ?_)
            exact sg_iret X hr hlk hb hK hC hG hS trivial dX3_readMove_118
        · refine lv_iconst (v := (-1)) X.1 X.2.1 dX3_readMove_105 (by decide +kernel) ?_
          exact sg_iret X hr hlk hb hK hC hG hS trivial dX3_readMove_106
      refine lv_icmp_ne (tgt := 91) X.1 X.2.1 dX3_readMove_57 (by decide) (fun c6 => ?_) (fun c6 => ?_)
      · exact B7_91 _ _ hS (lv_sub hl [1, 2] rfl)
      · refine lv_aload_n X.1 X.2.1 dX3_readMove_60 rfl (lv_at hl 1 rfl) ?_
        refine ca_X10_sign X hK hG hC (fun _ h => h) hS hb a1 h1 wl_4_23 hl.1 (rest := []) rfl (Nat.le_of_ble_eq_true rfl) ⟨Nat.le_of_ble_eq_true rfl, Nat.le_of_ble_eq_true rfl⟩ ⟨Nat.le_of_ble_eq_true rfl, Nat.le_of_ble_eq_true rfl⟩ dX3_readMove_61 (fun f15 locs hf15 hS => ?_)
        refine lv_bipush (v := 63) X.1 X.2.1 dX3_readMove_64 (by decide +kernel) ?_
        refine lv_icmp_ne (tgt := 91) X.1 X.2.1 dX3_readMove_66 (by decide) (fun c16 => ?_) (fun c16 => ?_)
        · exact B7_91 _ _ hS (lv_sub hl [1, 2] rfl)
        · refine lv_aload_n X.1 X.2.1 dX3_readMove_69 rfl (lv_at hl 1 rfl) ?_
          refine ca_X10_step X hK hG hC hS hb a1 h1 wl_4_25 hl.1 (rest := []) rfl (Nat.le_of_ble_eq_true rfl) ⟨Nat.le_of_ble_eq_true rfl, Nat.le_of_ble_eq_true rfl⟩ ⟨Nat.le_of_ble_eq_true rfl, Nat.le_of_ble_eq_true rfl⟩ dX3_readMove_70 (fun H locs hG hS => ?_)
          refine lv_aload_n X.1 X.2.1 dX3_readMove_73 rfl (lv_at hl 0 rfl) ?_
          refine lv_dup X.1 X.2.1 dX3_readMove_74 rfl ?_
          refine gf_X3_2 X hK hG h0 wl_1_100 dX3_readMove_75 (fun f18 hf18 kf18 => ?_)
          refine lv_iconst (v := 1) X.1 X.2.1 dX3_readMove_78 (by decide +kernel) ?_
          refine lv_iadd X.1 X.2.1 dX3_readMove_79 ?_
          refine lv_topi (fun f19 ef19 => ?_)
          refine pf_X3_2 X hK hG hS h0 wl_1_100 ⟨_, rfl, (iv_top _)⟩ dX3_readMove_80 (fun H locs hG hS ku20 ru20 => ?_)
          refine lv_iconst (v := 0) X.1 X.2.1 dX3_readMove_83 (by decide +kernel) ?_
          refine lv_iconst (v := (-1)) X.1 X.2.1 dX3_readMove_84 (by decide +kernel) ?_
          refine lv_iconst (v := 0) X.1 X.2.1 dX3_readMove_85 (by decide +kernel) ?_
          refine lv_iconst (v := 0) X.1 X.2.1 dX3_readMove_86 (by decide +kernel) ?_
          refine ca_X3_packed X hK hG hC (fun _ h => h) hS hb 0 (-1) 0 0 wl_4_26 hl.1 (rest := []) rfl (Nat.le_of_ble_eq_true rfl) ⟨Nat.le_of_ble_eq_true rfl, Nat.le_of_ble_eq_true rfl⟩ ⟨Nat.le_of_ble_eq_true rfl, Nat.le_of_ble_eq_true rfl⟩ dX3_readMove_87 (fun f21 locs hf21 hS => ?_)
          exact sg_iret X hr hlk hb hK hC hG hS trivial dX3_readMove_90
    · refine lv_iconst (v := 3) X.1 X.2.1 dX3_readMove_46 (by decide +kernel) ?_
      refine lv_iconst (v := (-1)) X.1 X.2.1 dX3_readMove_47 (by decide +kernel) ?_
      refine lv_iconst (v := 0) X.1 X.2.1 dX3_readMove_48 (by decide +kernel) ?_
      refine lv_iconst (v := 0) X.1 X.2.1 dX3_readMove_49 (by decide +kernel) ?_
      refine ca_X3_packed X hK hG hC (fun _ h => h) hS hb 3 (-1) 0 0 wl_4_26 hl.1 (rest := []) rfl (Nat.le_of_ble_eq_true rfl) ⟨Nat.le_of_ble_eq_true rfl, Nat.le_of_ble_eq_true rfl⟩ ⟨Nat.le_of_ble_eq_true rfl, Nat.le_of_ble_eq_true rfl⟩ dX3_readMove_50 (fun f22 locs hf22 hS => ?_)
      exact sg_iret X hr hlk hb hK hC hG hS trivial dX3_readMove_53
  refine lv_icmp_eq (tgt := 36) X.1 X.2.1 dX3_readMove_8 (by decide) (fun c2 => ?_) (fun c2 => ?_)
  · exact B3_36 _ _ hS (lv_sub hl [1, 2, 0] rfl)
  · refine lv_iload_n X.1 X.2.1 dX3_readMove_11 rfl (lv_at hl 0 rfl) ?_
    refine lv_bipush (v := 99) X.1 X.2.1 dX3_readMove_12 (by decide +kernel) ?_
    refine lv_icmp_eq (tgt := 36) X.1 X.2.1 dX3_readMove_14 (by decide) (fun c23 => ?_) (fun c23 => ?_)
    · exact B3_36 _ _ hS (lv_sub hl [1, 2, 0] rfl)
    · refine lv_iload_n X.1 X.2.1 dX3_readMove_17 rfl (lv_at hl 0 rfl) ?_
      refine lv_bipush (v := 109) X.1 X.2.1 dX3_readMove_18 (by decide +kernel) ?_
      refine lv_icmp_eq (tgt := 36) X.1 X.2.1 dX3_readMove_20 (by decide) (fun c24 => ?_) (fun c24 => ?_)
      · exact B3_36 _ _ hS (lv_sub hl [1, 2, 0] rfl)
      · refine lv_iload_n X.1 X.2.1 dX3_readMove_23 rfl (lv_at hl 0 rfl) ?_
        refine lv_bipush (v := 120) X.1 X.2.1 dX3_readMove_24 (by decide +kernel) ?_
        refine lv_icmp_eq (tgt := 36) X.1 X.2.1 dX3_readMove_26 (by decide) (fun c25 => ?_) (fun c25 => ?_)
        · exact B3_36 _ _ hS (lv_sub hl [1, 2, 0] rfl)
        · refine lv_aload_n X.1 X.2.1 dX3_readMove_29 rfl (lv_at hl 2 rfl) ?_
          refine ca_X10_wrong X hK hG hC hS hb a1 h1 wl_4_24 hl.1 (rest := []) rfl (Nat.le_of_ble_eq_true rfl) ⟨Nat.le_of_ble_eq_true rfl, Nat.le_of_ble_eq_true rfl⟩ ⟨Nat.le_of_ble_eq_true rfl, Nat.le_of_ble_eq_true rfl⟩ dX3_readMove_30 (fun f26 H locs hf26 hG hS => ?_)
          refine lv_pop X.1 X.2.1 dX3_readMove_33 rfl ?_
          refine lv_iconst (v := (-1)) X.1 X.2.1 dX3_readMove_34 (by decide +kernel) ?_
          exact sg_iret X hr hlk hb hK hC hG hS trivial dX3_readMove_35

theorem ca_X3_readMove   (X : CallFix p m c cc nL s args sg_tbl own) (hK : va_K D vwCl tys s) (hG : sgG (KT P) D vwCl (fun q : Nat => base ≤ q) tys ad ks H) (hC : sgC base s) (hS : va_S (fun q : Nat => base ≤ q) s.heap H locs) (hb : base ≤ s.heap.size) (a0 : Nat) (h0 : isK ad ks 3 a0) (a1 : Nat) (h1 : isK ad ks 10 a1) (hl : Cond.methodLink own index yX3_readMove ∈ sg_tbl) (hsize : ls.size = nL) (hst : st0 = [.ref a1].reverse ++ .ref a0 :: rest) (hW : (rest.map fun v => v.category).sum ≤ 8) (hR : 4 ≤ R.frames ∧ 80 ≤ R.locals) (hf : cells ≤ R.cells ∧ slots ≤ R.slots) (hdg : decode cc pc = .ok (.invokevirtual index, 3)) (kk : ∀ (r : Int32) (H1 : Heap) (locs1 : List Loc), (fun r : Int32 => True) r → sgG (KT P) D vwCl (fun q : Nat => base ≤ q) tys ad ks H1 → va_S (fun q : Nat => base ≤ q) s.heap H1 locs1 → W p l e R s m args below meth c H1 locs1 cells slots Q (F0 m (pc + 3) ls (.int r :: rest))) : W p l e R s m args below meth c H locs cells slots Q (F0 m pc ls st0) :=
  sg_callVi X hK hG hC hS hb (m_X3_readMove l a0 h0 a1 h1) h0 (k := 3) (ci := 3) rfl (C := RX3) (T := TX3) (N := 3) rfl wl_4_22 wl_1_4 wl_4_21 wl_0_17 (n := 1) (by decide +kernel) rfl rfl rfl hl hsize hst hW hR hf hdg kk

set_option maxHeartbeats 8000000 in
set_option maxRecDepth 100000 in
theorem m_X3_read (l : Launch) {D : va_G} {base : Nat} {tys : List (ClassId × FieldType)} {ad ks : List Nat} {P : sgPm} (a0 : Nat) (h0 : isK ad ks 3 a0) (a1 : Nat) (h1 : isK ad ks 10 a1) (hng : sgNg (sgGm P) a0) : sgMi l (KT P) D vwCl base tys ad ks yX3_read cX3_read 4 (some .boolean) ({ frames := 4, cells := 0, slots := 0, locals := 80 }) [.ref a0, .ref a1] (fun r : Int32 => iv 0 1 r) := by
  refine sg_ofW (by decide +kernel) (Nat.le_of_ble_eq_true rfl) (fun p e s m below meth c X hr hlk hb hK hC hG ls hl => ?_)
  have hS : va_S (fun q : Nat => base ≤ q) s.heap s.heap [] := va_S.rf
  have hl : lv_has ls 4 [(0, .ref a0), (1, .ref a1)] := hl
  refine lv_aload_n X.1 X.2.1 dX3_read_0 rfl (lv_at hl 1 rfl) ?_
  refine ca_X10_rewind X hK hG hC hS hb a1 h1 wl_4_18 hl.1 (rest := []) rfl (Nat.le_of_ble_eq_true rfl) ⟨Nat.le_of_ble_eq_true rfl, Nat.le_of_ble_eq_true rfl⟩ ⟨Nat.le_of_ble_eq_true rfl, Nat.le_of_ble_eq_true rfl⟩ dX3_read_1 (fun H locs hG hS => ?_)
  refine lv_aload_n X.1 X.2.1 dX3_read_4 rfl (lv_at hl 0 rfl) ?_
  refine lv_iconst (v := 0) X.1 X.2.1 dX3_read_5 (by decide +kernel) ?_
  refine pf_X3_2 X hK hG hS h0 wl_1_100 ⟨_, rfl, (iv_top _)⟩ dX3_read_6 (fun H locs hG hS ku2 ru2 => ?_)
  refine lv_aload_n X.1 X.2.1 dX3_read_9 rfl (lv_at hl 0 rfl) ?_
  refine lv_iconst (v := 0) X.1 X.2.1 dX3_read_10 (by decide +kernel) ?_
  refine pf_X3_1 (hgo := (ng_k hng)) X hK hG hS h0 wl_1_97 ⟨_, rfl, (iv_of (iv_c 0 (a := 0) (b := 0) (by decide +kernel)) (a' := 0) (b' := 16) (by decide +kernel))⟩ dX3_read_11 (fun H locs hG hS ku3 ru3 => ?_)
  refine lv_iconst (v := 0) X.1 X.2.1 dX3_read_14 (by decide +kernel) ?_
  refine lv_istore_n (lv' := [(2, .int 0), (0, .ref a0), (1, .ref a1)]) X.1 X.2.1 dX3_read_15 rfl hl (by decide) rfl (fun ls hl => ?_)
  have B4_16 : ∀ (N : Nat) (H : Heap) (locs : List Loc) (ls : Array Slot) (z4_2 : Int32), sgG (KT P) D vwCl (fun q : Nat => base ≤ q) tys ad ks H → va_S (fun q : Nat => base ≤ q) s.heap H locs → lv_has ls 4 [(0, .ref a0), (1, .ref a1), (2, .int z4_2)] → iv 0 16 z4_2 → (17 - z4_2.toInt).toNat ≤ N → W p l e (headSpec (Cond.code yX3_read cX3_read 4 (some .boolean) :: sg_tbl) ({ frames := 4, cells := 0, slots := 0, locals := 80 })).room s m #[.ref a0, .ref a1] below meth c H locs 0 0 (MQ below (va_Qi (fun r (_ : Unit) => (fun r : Int32 => iv 0 1 r) r) (fun _ => sgB (KT P) D vwCl base tys ad ks) (fun q : Nat => base ≤ q)) #[.ref a0, .ref a1] s 0 0 (fun q : Nat => base ≤ q)) (F0 m 16 ls []) := by
    intro N; induction N with
    | zero =>
      intro H locs ls z4_2 hG hS hl hz4_2 hN
      exact absurd hN (by have := iv_up hz4_2; omega)
    | succ N ih4 =>
      intro H locs ls z4_2 hG hS hl hz4_2 hN4
      refine lv_iload_n X.1 X.2.1 dX3_read_16 rfl (lv_at hl 2 rfl) ?_
      refine lv_bipush (v := 16) X.1 X.2.1 dX3_read_17 (by decide +kernel) ?_
      have B6_80 : ∀ (H : Heap) (locs : List Loc) (ls : Array Slot), sgG (KT P) D vwCl (fun q : Nat => base ≤ q) tys ad ks H → va_S (fun q : Nat => base ≤ q) s.heap H locs → lv_has ls 4 [(1, .ref a1)] → W p l e (headSpec (Cond.code yX3_read cX3_read 4 (some .boolean) :: sg_tbl) ({ frames := 4, cells := 0, slots := 0, locals := 80 })).room s m #[.ref a0, .ref a1] below meth c H locs 0 0 (MQ below (va_Qi (fun r (_ : Unit) => (fun r : Int32 => iv 0 1 r) r) (fun _ => sgB (KT P) D vwCl base tys ad ks) (fun q : Nat => base ≤ q)) #[.ref a0, .ref a1] s 0 0 (fun q : Nat => base ≤ q)) (F0 m 80 ls []) := by
        intro H locs ls hG hS hl
        refine lv_aload_n X.1 X.2.1 dX3_read_80 rfl (lv_at hl 0 rfl) ?_
        refine ca_X10_ended X hK hG hC hS hb a1 h1 wl_4_33 hl.1 (rest := []) rfl (Nat.le_of_ble_eq_true rfl) ⟨Nat.le_of_ble_eq_true rfl, Nat.le_of_ble_eq_true rfl⟩ ⟨Nat.le_of_ble_eq_true rfl, Nat.le_of_ble_eq_true rfl⟩ dX3_read_81 (fun f7 H locs hf7 hG hS => ?_)
        exact sg_zret X hr (sg_zn hf7) hlk hb hK hC hG hS hf7 dX3_read_84
      refine lv_icmp_ge (tgt := 80) X.1 X.2.1 dX3_read_19 (by decide) (fun c5 => ?_) (fun c5 => ?_)
      · exact B6_80 H _ _ hG hS (lv_sub hl [1] rfl)
      · refine lv_aload_n X.1 X.2.1 dX3_read_22 rfl (lv_at hl 0 rfl) ?_
        refine lv_aload_n X.1 X.2.1 dX3_read_23 rfl (lv_at hl 1 rfl) ?_
        refine ca_X3_readMove X hK hG hC hS hb a0 h0 a1 h1 wl_4_19 hl.1 (rest := []) rfl (Nat.le_of_ble_eq_true rfl) ⟨Nat.le_of_ble_eq_true rfl, Nat.le_of_ble_eq_true rfl⟩ ⟨Nat.le_of_ble_eq_true rfl, Nat.le_of_ble_eq_true rfl⟩ dX3_read_24 (fun f8 H locs hf8 hG hS => ?_)
        refine lv_istore_n (lv' := [(3, .int f8), (0, .ref a0), (1, .ref a1), (2, .int z4_2)]) X.1 X.2.1 dX3_read_27 rfl hl (by decide) rfl (fun ls hl => ?_)
        refine lv_iload_n X.1 X.2.1 dX3_read_28 rfl (lv_at hl 0 rfl) ?_
        refine lv_iconst (v := (-1)) X.1 X.2.1 dX3_read_29 (by decide +kernel) ?_
        refine lv_icmp_ne (tgt := 35) X.1 X.2.1 dX3_read_30 (by decide) (fun c9 => ?_) (fun c9 => ?_)
        · refine lv_aload_n X.1 X.2.1 dX3_read_35 rfl (lv_at hl 1 rfl) ?_
          refine gf_X3_0h X hK hG h0 wl_1_94 dX3_read_36 (fun q10 hq10 kq10 gq10 => ?_)
          refine lv_iload_n X.1 X.2.1 dX3_read_39 rfl (lv_at hl 3 rfl) ?_
          refine lv_iload_n X.1 X.2.1 dX3_read_40 rfl (lv_at hl 0 rfl) ?_
          refine as_20 (hgo := (ng_e hng gq10)) X hK hG hS hq10 (iv_vpin (iv_lt (b' := 15) (iv_gt_of c5) hz4_2 (iv_c 16 (a := 16) (b := 16) (by decide +kernel)) (by decide +kernel)) (by decide +kernel)) ⟨_, rfl, (iv_top _)⟩ dX3_read_41 (fun H locs hG hS ru11 => ?_)
          refine lv_aload_n X.1 X.2.1 dX3_read_42 rfl (lv_at hl 1 rfl) ?_
          refine lv_iload_n X.1 X.2.1 dX3_read_43 rfl (lv_at hl 3 rfl) ?_
          refine lv_iconst (v := 1) X.1 X.2.1 dX3_read_44 (by decide +kernel) ?_
          refine lv_iadd X.1 X.2.1 dX3_read_45 ?_
          refine lv_topi (fun f12 ef12 => ?_)
          refine pf_X3_1 (hgo := (ng_k hng)) X hK hG hS h0 wl_1_97 ⟨_, rfl, (iv_of (iv_add (a' := 1) (b' := 16) ef12 (iv_lt (b' := 15) (iv_gt_of c5) hz4_2 (iv_c 16 (a := 16) (b := 16) (by decide +kernel)) (by decide +kernel)) (iv_c 1 (a := 1) (b := 1) (by decide +kernel)) (by decide +kernel)) (a' := 0) (b' := 16) (by decide +kernel))⟩ dX3_read_46 (fun H locs hG hS ku13 ru13 => ?_)
          refine lv_aload_n X.1 X.2.1 dX3_read_49 rfl (lv_at hl 2 rfl) ?_
          refine ca_X10_sign X hK hG hC (fun _ h => h) hS hb a1 h1 wl_4_23 hl.1 (rest := []) rfl (Nat.le_of_ble_eq_true rfl) ⟨Nat.le_of_ble_eq_true rfl, Nat.le_of_ble_eq_true rfl⟩ ⟨Nat.le_of_ble_eq_true rfl, Nat.le_of_ble_eq_true rfl⟩ dX3_read_50 (fun f14 locs hf14 hS => ?_)
          refine lv_bipush (v := 59) X.1 X.2.1 dX3_read_53 (by decide +kernel) ?_
          refine lv_icmp_ne (tgt := 80) X.1 X.2.1 dX3_read_55 (by decide) (fun c15 => ?_) (fun c15 => ?_)
          · exact B6_80 H _ _ hG hS (lv_sub hl [2] rfl)
          · refine lv_aload_n X.1 X.2.1 dX3_read_58 rfl (lv_at hl 1 rfl) ?_
            refine gg_X3_1 X hK hG h0 wl_1_97 ku13 dX3_read_59 ?_
            refine lv_bipush (v := 16) X.1 X.2.1 dX3_read_62 (by decide +kernel) ?_
            refine lv_icmp_ne (tgt := 70) X.1 X.2.1 dX3_read_64 (by decide) (fun c16 => ?_) (fun c16 => ?_)
            · refine lv_aload_n X.1 X.2.1 dX3_read_70 rfl (lv_at hl 2 rfl) ?_
              refine ca_X10_step X hK hG hC hS hb a1 h1 wl_4_25 hl.1 (rest := []) rfl (Nat.le_of_ble_eq_true rfl) ⟨Nat.le_of_ble_eq_true rfl, Nat.le_of_ble_eq_true rfl⟩ ⟨Nat.le_of_ble_eq_true rfl, Nat.le_of_ble_eq_true rfl⟩ dX3_read_71 (fun H locs hG hS => ?_)
              obtain ⟨y18, ey18⟩ : ∃ y : Int32, y = z4_2 + Int32.ofInt 1 := ⟨_, rfl⟩
              refine lv_iinc (v := y18) (lv' := [(2, .int y18), (3, .int f8), (0, .ref a0), (1, .ref a1)]) X.1 X.2.1 dX3_read_74 hl (k := 3) rfl ey18.symm (by decide) rfl (fun ls hl => ?_)
              refine lv_goto (tgt := 16) X.1 X.2.1 dX3_read_77 (by decide) ?_
              exact ih4 H _ _ y18 hG hS (lv_sub hl [2, 3, 0] rfl) (iv_of (iv_add (a' := 1) (b' := 16) ey18 (iv_lt (b' := 15) (iv_gt_of c5) hz4_2 (iv_c 16 (a := 16) (b := 16) (by decide +kernel)) (by decide +kernel)) (iv_c _ (a := 1) (b := 1) (by decide +kernel)) (by decide +kernel)) (a' := 0) (b' := 16) (by decide +kernel)) (iv_stepU ey18 (iv_lt (b' := 15) (iv_gt_of c5) hz4_2 (iv_c 16 (a := 16) (b := 16) (by decide +kernel)) (by decide +kernel)) (by decide +kernel) hN4)
            · refine lv_goto (tgt := 80) X.1 X.2.1 dX3_read_67 (by decide) ?_
              exact B6_80 H _ _ hG hS (lv_sub hl [2] rfl)
        · refine lv_iconst (v := 0) X.1 X.2.1 dX3_read_33 (by decide +kernel) ?_
          exact sg_zret X hr (sg_zn (iv_of (iv_c 0 (a := 0) (b := 0) (by decide +kernel)) (a' := 0) (b' := 1) (by decide +kernel))) hlk hb hK hC hG hS (iv_of (iv_c 0 (a := 0) (b := 0) (by decide +kernel)) (a' := 0) (b' := 1) (by decide +kernel)) dX3_read_34
  exact B4_16 _ H _ _ 0 hG hS (lv_sub hl [1, 2, 0] rfl) (iv_of (iv_c 0 (a := 0) (b := 0) (by decide +kernel)) (a' := 0) (b' := 16) (by decide +kernel)) (Nat.le_refl _)

theorem ca_X3_read   (X : CallFix p m c cc nL s args sg_tbl own) (hK : va_K D vwCl tys s) (hG : sgG (KT P) D vwCl (fun q : Nat => base ≤ q) tys ad ks H) (hC : sgC base s) (hS : va_S (fun q : Nat => base ≤ q) s.heap H locs) (hb : base ≤ s.heap.size) (a0 : Nat) (h0 : isK ad ks 3 a0) (a1 : Nat) (h1 : isK ad ks 10 a1) (hng : sgNg (sgGm P) a0) (hl : Cond.methodLink own index yX3_read ∈ sg_tbl) (hsize : ls.size = nL) (hst : st0 = [.ref a1].reverse ++ .ref a0 :: rest) (hW : (rest.map fun v => v.category).sum ≤ 8) (hR : 5 ≤ R.frames ∧ 103 ≤ R.locals) (hf : cells ≤ R.cells ∧ slots ≤ R.slots) (hdg : decode cc pc = .ok (.invokevirtual index, 3)) (kk : ∀ (r : Int32) (H1 : Heap) (locs1 : List Loc), (fun r : Int32 => iv 0 1 r) r → sgG (KT P) D vwCl (fun q : Nat => base ≤ q) tys ad ks H1 → va_S (fun q : Nat => base ≤ q) s.heap H1 locs1 → W p l e R s m args below meth c H1 locs1 cells slots Q (F0 m (pc + 3) ls (.int r :: rest))) : W p l e R s m args below meth c H locs cells slots Q (F0 m pc ls st0) :=
  sg_callVi X hK hG hC hS hb (m_X3_read l a0 h0 a1 h1 hng) h0 (k := 3) (ci := 3) rfl (C := RX3) (T := TX3) (N := 3) rfl wl_4_17 wl_1_4 wl_4_15 wl_4_16 (n := 1) (by decide +kernel) rfl rfl rfl hl hsize hst hW hR hf hdg kk

set_option maxHeartbeats 8000000 in
set_option maxRecDepth 100000 in
theorem m_X4_mayCome (l : Launch) {D : va_G} {base : Nat} {tys : List (ClassId × FieldType)} {ad ks : List Nat} {P : sgPm} {Hx : Heap} (a0 : Nat) (h0 : isK ad ks 4 a0) (x1 : Int32) : sgPi l (KT P) D vwCl base tys ad ks Hx yX4_mayCome cX4_mayCome 2 (some .boolean) ({ frames := 0, cells := 0, slots := 0, locals := 0 }) [.ref a0, .int x1] (fun r : Int32 => iv 0 1 r) := by
  refine sg_ofP (Pq := fun Hx => va_Qi (fun r (_ : Unit) => (fun r : Int32 => iv 0 1 r) r) (fun _ t => t.heap = Hx) (fun _ : Nat => False)) (by decide +kernel) (Nat.le_of_ble_eq_true rfl) (fun p e s m below meth c X hr hlk hb hK hC hG ls hl => ?_)
  have hS : va_S (fun _ : Nat => False) s.heap s.heap [] := va_S.rf
  have hl : lv_has ls 2 [(0, .ref a0), (1, .int x1)] := hl
  refine lv_iload_n X.1 X.2.1 dX4_mayCome_0 rfl (lv_at hl 1 rfl) ?_
  refine lv_bipush (v := 115) X.1 X.2.1 dX4_mayCome_1 (by decide +kernel) ?_
  have B2_43 : ∀ (locs : List Loc) (ls : Array Slot), va_S (fun _ : Nat => False) s.heap s.heap locs → lv_has ls 2 [] → W p l e (headSpec (Cond.code yX4_mayCome cX4_mayCome 2 (some .boolean) :: sg_tbl) ({ frames := 0, cells := 0, slots := 0, locals := 0 })).room s m #[.ref a0, .int x1] below meth c s.heap locs 0 0 (MQ below (va_Qi (fun r (_ : Unit) => (fun r : Int32 => iv 0 1 r) r) (fun _ t => t.heap = s.heap) (fun _ : Nat => False)) #[.ref a0, .int x1] s 0 0 (fun _ : Nat => False)) (F0 m 43 ls []) := by
    intro locs ls hS hl
    refine lv_iconst (v := 1) X.1 X.2.1 dX4_mayCome_43 (by decide +kernel) ?_
    refine lv_goto (tgt := 48) X.1 X.2.1 dX4_mayCome_44 (by decide) ?_
    exact sg_zretP X hr (sg_zn (iv_of (iv_c 1 (a := 1) (b := 1) (by decide +kernel)) (a' := 0) (b' := 1) (by decide +kernel))) hlk hS (iv_of (iv_c 1 (a := 1) (b := 1) (by decide +kernel)) (a' := 0) (b' := 1) (by decide +kernel)) dX4_mayCome_48
  have B3_13 : ∀ (locs : List Loc) (ls : Array Slot), va_S (fun _ : Nat => False) s.heap s.heap locs → lv_has ls 2 [(0, .ref a0), (1, .int x1)] → W p l e (headSpec (Cond.code yX4_mayCome cX4_mayCome 2 (some .boolean) :: sg_tbl) ({ frames := 0, cells := 0, slots := 0, locals := 0 })).room s m #[.ref a0, .int x1] below meth c s.heap locs 0 0 (MQ below (va_Qi (fun r (_ : Unit) => (fun r : Int32 => iv 0 1 r) r) (fun _ t => t.heap = s.heap) (fun _ : Nat => False)) #[.ref a0, .int x1] s 0 0 (fun _ : Nat => False)) (F0 m 13 ls []) := by
    intro locs ls hS hl
    refine lv_iload_n X.1 X.2.1 dX4_mayCome_13 rfl (lv_at hl 1 rfl) ?_
    refine lv_bipush (v := 116) X.1 X.2.1 dX4_mayCome_14 (by decide +kernel) ?_
    have B5_28 : ∀ (locs : List Loc) (ls : Array Slot), va_S (fun _ : Nat => False) s.heap s.heap locs → lv_has ls 2 [(0, .ref a0), (1, .int x1)] → W p l e (headSpec (Cond.code yX4_mayCome cX4_mayCome 2 (some .boolean) :: sg_tbl) ({ frames := 0, cells := 0, slots := 0, locals := 0 })).room s m #[.ref a0, .int x1] below meth c s.heap locs 0 0 (MQ below (va_Qi (fun r (_ : Unit) => (fun r : Int32 => iv 0 1 r) r) (fun _ t => t.heap = s.heap) (fun _ : Nat => False)) #[.ref a0, .int x1] s 0 0 (fun _ : Nat => False)) (F0 m 28 ls []) := by
      intro locs ls hS hl
      refine lv_iload_n X.1 X.2.1 dX4_mayCome_28 rfl (lv_at hl 1 rfl) ?_
      refine lv_bipush (v := 98) X.1 X.2.1 dX4_mayCome_29 (by decide +kernel) ?_
      have B7_47 : ∀ (locs : List Loc) (ls : Array Slot), va_S (fun _ : Nat => False) s.heap s.heap locs → lv_has ls 2 [] → W p l e (headSpec (Cond.code yX4_mayCome cX4_mayCome 2 (some .boolean) :: sg_tbl) ({ frames := 0, cells := 0, slots := 0, locals := 0 })).room s m #[.ref a0, .int x1] below meth c s.heap locs 0 0 (MQ below (va_Qi (fun r (_ : Unit) => (fun r : Int32 => iv 0 1 r) r) (fun _ t => t.heap = s.heap) (fun _ : Nat => False)) #[.ref a0, .int x1] s 0 0 (fun _ : Nat => False)) (F0 m 47 ls []) := by
        intro locs ls hS hl
        refine lv_iconst (v := 0) X.1 X.2.1 dX4_mayCome_47 (by decide +kernel) ?_
        exact sg_zretP X hr (sg_zn (iv_of (iv_c 0 (a := 0) (b := 0) (by decide +kernel)) (a' := 0) (b' := 1) (by decide +kernel))) hlk hS (iv_of (iv_c 0 (a := 0) (b := 0) (by decide +kernel)) (a' := 0) (b' := 1) (by decide +kernel)) dX4_mayCome_48
      refine lv_icmp_ne (tgt := 47) X.1 X.2.1 dX4_mayCome_31 (by decide) (fun c6 => ?_) (fun c6 => ?_)
      · exact B7_47 _ _ hS (lv_sub hl [] rfl)
      · refine lv_aload_n X.1 X.2.1 dX4_mayCome_34 rfl (lv_at hl 0 rfl) ?_
        refine gf_X4_14 X hK hG h0 wl_1_237 dX4_mayCome_35 (fun f8 hf8 kf8 => ?_)
        refine lv_bipush (v := 8) X.1 X.2.1 dX4_mayCome_38 (by decide +kernel) ?_
        refine lv_icmp_ge (tgt := 47) X.1 X.2.1 dX4_mayCome_40 (by decide) (fun c9 => ?_) (fun c9 => ?_)
        · exact B7_47 _ _ hS (lv_sub hl [] rfl)
        · exact B2_43 _ _ hS (lv_sub hl [] rfl)
    refine lv_icmp_ne (tgt := 28) X.1 X.2.1 dX4_mayCome_16 (by decide) (fun c4 => ?_) (fun c4 => ?_)
    · exact B5_28 _ _ hS (lv_sub hl [0, 1] rfl)
    · refine lv_aload_n X.1 X.2.1 dX4_mayCome_19 rfl (lv_at hl 0 rfl) ?_
      refine gf_X4_13 X hK hG h0 wl_1_236 dX4_mayCome_20 (fun f10 hf10 kf10 => ?_)
      refine lv_bipush (v := 12) X.1 X.2.1 dX4_mayCome_23 (by decide +kernel) ?_
      refine lv_icmp_lt (tgt := 43) X.1 X.2.1 dX4_mayCome_25 (by decide) (fun c11 => ?_) (fun c11 => ?_)
      · exact B2_43 _ _ hS (lv_sub hl [] rfl)
      · exact B5_28 _ _ hS (lv_sub hl [0, 1] rfl)
  refine lv_icmp_ne (tgt := 13) X.1 X.2.1 dX4_mayCome_3 (by decide) (fun c1 => ?_) (fun c1 => ?_)
  · exact B3_13 _ _ hS (lv_sub hl [0, 1] rfl)
  · refine lv_aload_n X.1 X.2.1 dX4_mayCome_6 rfl (lv_at hl 0 rfl) ?_
    refine gf_X4_11 X hK hG h0 wl_1_234 dX4_mayCome_7 (fun f12 hf12 kf12 => ?_)
    refine lv_if_eq (tgt := 43) X.1 X.2.1 dX4_mayCome_10 (by decide) (fun c13 => ?_) (fun c13 => ?_)
    · exact B2_43 _ _ hS (lv_sub hl [] rfl)
    · exact B3_13 _ _ hS (lv_sub hl [0, 1] rfl)

theorem ca_X4_mayCome   (X : CallFix p m c cc nL s args sg_tbl own) (hK : va_K D vwCl tys s) (hG : sgG (KT P) D vwCl (fun q : Nat => base ≤ q) tys ad ks H) (hC : sgC base s) (hA : ∀ q : Nat, A q → base ≤ q) (hS : va_S A s.heap H locs) (hb : base ≤ s.heap.size) (a0 : Nat) (h0 : isK ad ks 4 a0) (x1 : Int32) (hl : Cond.methodLink own index yX4_mayCome ∈ sg_tbl) (hsize : ls.size = nL) (hst : st0 = [.int x1].reverse ++ .ref a0 :: rest) (hW : (rest.map fun v => v.category).sum ≤ 8) (hR : 1 ≤ R.frames ∧ 21 ≤ R.locals) (hf : cells ≤ R.cells ∧ slots ≤ R.slots) (hdg : decode cc pc = .ok (.invokevirtual index, 3)) (kk : ∀ (r : Int32) (locs1 : List Loc), (fun r : Int32 => iv 0 1 r) r → va_S A s.heap H locs1 → W p l e R s m args below meth c H locs1 cells slots Q (F0 m (pc + 3) ls (.int r :: rest))) : W p l e R s m args below meth c H locs cells slots Q (F0 m pc ls st0) :=
  sg_callPVi X hK hG hC hA hS hb (m_X4_mayCome l a0 h0 x1) h0 (k := 4) (ci := 4) rfl (C := RX4) (T := TX4) (N := 15) rfl wl_3_54 wl_1_7 wl_3_53 wl_0_2 (n := 1) (by decide +kernel) rfl rfl rfl hl hsize hst hW hR hf hdg kk

set_option maxHeartbeats 8000000 in
set_option maxRecDepth 100000 in
theorem m_X4_readSpot (l : Launch) {D : va_G} {base : Nat} {tys : List (ClassId × FieldType)} {ad ks : List Nat} {P : sgPm} (a0 : Nat) (h0 : isK ad ks 4 a0) (a1 : Nat) (h1 : isK ad ks 10 a1) (x2 : Int32) (h2 : iv 0 1 x2) : sgMi l (KT P) D vwCl base tys ad ks yX4_readSpot cX4_readSpot 5 (some .boolean) ({ frames := 2, cells := 0, slots := 0, locals := 34 }) [.ref a0, .ref a1, .int x2] (fun r : Int32 => iv 0 1 r) := by
  refine sg_ofW (by decide +kernel) (Nat.le_of_ble_eq_true rfl) (fun p e s m below meth c X hr hlk hb hK hC hG ls hl => ?_)
  have hS : va_S (fun q : Nat => base ≤ q) s.heap s.heap [] := va_S.rf
  have hl : lv_has ls 5 [(0, .ref a0), (1, .ref a1), (2, .int x2)] := hl
  refine lv_iconst (v := 0) X.1 X.2.1 dX4_readSpot_0 (by decide +kernel) ?_
  refine lv_istore_n (lv' := [(3, .int 0), (0, .ref a0), (1, .ref a1), (2, .int x2)]) X.1 X.2.1 dX4_readSpot_1 rfl hl (by decide) rfl (fun ls hl => ?_)
  refine lv_aload_n X.1 X.2.1 dX4_readSpot_2 rfl (lv_at hl 2 rfl) ?_
  refine ca_X10_sign X hK hG hC (fun _ h => h) hS hb a1 h1 wl_3_47 hl.1 (rest := []) rfl (Nat.le_of_ble_eq_true rfl) ⟨Nat.le_of_ble_eq_true rfl, Nat.le_of_ble_eq_true rfl⟩ ⟨Nat.le_of_ble_eq_true rfl, Nat.le_of_ble_eq_true rfl⟩ dX4_readSpot_3 (fun f1 locs hf1 hS => ?_)
  refine lv_bipush (v := 99) X.1 X.2.1 dX4_readSpot_6 (by decide +kernel) ?_
  have B3_31 : ∀ (H : Heap) (locs : List Loc) (ls : Array Slot) (z3_3 : Int32), sgG (KT P) D vwCl (fun q : Nat => base ≤ q) tys ad ks H → va_S (fun q : Nat => base ≤ q) s.heap H locs → lv_has ls 5 [(0, .ref a0), (2, .int x2), (3, .int z3_3)] → iv 0 29 z3_3 → W p l e (headSpec (Cond.code yX4_readSpot cX4_readSpot 5 (some .boolean) :: sg_tbl) ({ frames := 2, cells := 0, slots := 0, locals := 34 })).room s m #[.ref a0, .ref a1, .int x2] below meth c H locs 0 0 (MQ below (va_Qi (fun r (_ : Unit) => (fun r : Int32 => iv 0 1 r) r) (fun _ => sgB (KT P) D vwCl base tys ad ks) (fun q : Nat => base ≤ q)) #[.ref a0, .ref a1, .int x2] s 0 0 (fun q : Nat => base ≤ q)) (F0 m 31 ls []) := by
    intro H locs ls z3_3 hG hS hl hz3_3
    refine lv_iconst (v := 1) X.1 X.2.1 dX4_readSpot_31 (by decide +kernel) ?_
    refine lv_iload_n X.1 X.2.1 dX4_readSpot_32 rfl (lv_at hl 2 rfl) ?_
    refine lv_ishl X.1 X.2.1 dX4_readSpot_33 ?_
    refine lv_topi (fun f4 ef4 => ?_)
    refine lv_istore (lv' := [(4, .int f4), (0, .ref a0), (2, .int x2), (3, .int z3_3)]) X.1 X.2.1 dX4_readSpot_34 hl (by decide) rfl (fun ls hl => ?_)
    refine lv_aload_n X.1 X.2.1 dX4_readSpot_36 rfl (lv_at hl 1 rfl) ?_
    refine lv_dup X.1 X.2.1 dX4_readSpot_37 rfl ?_
    refine gf_X4_12 X hK hG h0 wl_1_235 dX4_readSpot_38 (fun f5 hf5 kf5 => ?_)
    refine lv_aload_n X.1 X.2.1 dX4_readSpot_41 rfl (lv_at hl 1 rfl) ?_
    refine gf_X4_9 X hK hG h0 wl_1_227 dX4_readSpot_42 (fun f6 hf6 kf6 => ?_)
    refine lv_aload_n X.1 X.2.1 dX4_readSpot_45 rfl (lv_at hl 1 rfl) ?_
    refine gf_X4_10 X hK hG h0 wl_1_230 dX4_readSpot_46 (fun f7 hf7 kf7 => ?_)
    refine lv_ior X.1 X.2.1 dX4_readSpot_49 ?_
    refine lv_topi (fun f8 ef8 => ?_)
    refine lv_iload X.1 X.2.1 dX4_readSpot_50 (lv_at hl 0 rfl) ?_
    refine lv_iand X.1 X.2.1 dX4_readSpot_52 ?_
    refine lv_topi (fun f9 ef9 => ?_)
    have B11_61 : ∀ (locs : List Loc) (ls : Array Slot) (w11_0 : Int32), va_S (fun q : Nat => base ≤ q) s.heap H locs → lv_has ls 5 [(0, .ref a0), (2, .int x2), (4, .int f4)] → iv 0 1 w11_0 → W p l e (headSpec (Cond.code yX4_readSpot cX4_readSpot 5 (some .boolean) :: sg_tbl) ({ frames := 2, cells := 0, slots := 0, locals := 34 })).room s m #[.ref a0, .ref a1, .int x2] below meth c H locs 0 0 (MQ below (va_Qi (fun r (_ : Unit) => (fun r : Int32 => iv 0 1 r) r) (fun _ => sgB (KT P) D vwCl base tys ad ks) (fun q : Nat => base ≤ q)) #[.ref a0, .ref a1, .int x2] s 0 0 (fun q : Nat => base ≤ q)) (F0 m 61 ls [.int w11_0, .int f5, .ref a0]) := by
      intro locs ls w11_0 hS hl hw11_0
      refine lv_ior X.1 X.2.1 dX4_readSpot_61 ?_
      refine lv_topi (fun f12 ef12 => ?_)
      refine pf_X4_12 X hK hG hS h0 wl_1_235 ⟨_, rfl, (iv_of (iv_or 1 ef12 hf5 hw11_0 (by decide +kernel)) (a' := 0) (b' := 1) (by decide +kernel))⟩ dX4_readSpot_62 (fun H locs hG hS ku13 ru13 => ?_)
      refine lv_iload_n X.1 X.2.1 dX4_readSpot_65 rfl (lv_at hl 1 rfl) ?_
      refine lv_if_eq (tgt := 93) X.1 X.2.1 dX4_readSpot_66 (by decide) (fun c14 => ?_) (fun c14 => ?_)
      · refine lv_aload_n X.1 X.2.1 dX4_readSpot_93 rfl (lv_at hl 0 rfl) ?_
        refine lv_dup X.1 X.2.1 dX4_readSpot_94 rfl ?_
        refine gg_X4_10 X hK hG h0 wl_1_230 (ru13 _ _ _ _ _ _ _ h0 rfl rfl (by decide) (fun z => absurd z.2 (by decide)) kf7) dX4_readSpot_95 ?_
        refine lv_iload X.1 X.2.1 dX4_readSpot_98 (lv_at hl 2 rfl) ?_
        refine lv_ior X.1 X.2.1 dX4_readSpot_100 ?_
        refine lv_topi (fun f15 ef15 => ?_)
        refine pf_X4_10 X hK hG hS h0 wl_1_230 ⟨_, rfl, (iv_top _)⟩ dX4_readSpot_101 (fun H locs hG hS ku16 ru16 => ?_)
        refine lv_aload_n X.1 X.2.1 dX4_readSpot_104 rfl (lv_at hl 0 rfl) ?_
        refine lv_dup X.1 X.2.1 dX4_readSpot_105 rfl ?_
        refine gf_X4_14 X hK hG h0 wl_1_237 dX4_readSpot_106 (fun f17 hf17 kf17 => ?_)
        refine lv_iconst (v := 1) X.1 X.2.1 dX4_readSpot_109 (by decide +kernel) ?_
        refine lv_iadd X.1 X.2.1 dX4_readSpot_110 ?_
        refine lv_topi (fun f18 ef18 => ?_)
        refine pf_X4_14 X hK hG hS h0 wl_1_237 ⟨_, rfl, (iv_top _)⟩ dX4_readSpot_111 (fun H locs hG hS ku19 ru19 => ?_)
        refine lv_iconst (v := 1) X.1 X.2.1 dX4_readSpot_114 (by decide +kernel) ?_
        exact sg_zret X hr (sg_zn (iv_of (iv_c 1 (a := 1) (b := 1) (by decide +kernel)) (a' := 0) (b' := 1) (by decide +kernel))) hlk hb hK hC hG hS (iv_of (iv_c 1 (a := 1) (b := 1) (by decide +kernel)) (a' := 0) (b' := 1) (by decide +kernel)) dX4_readSpot_115
      · refine lv_aload_n X.1 X.2.1 dX4_readSpot_69 rfl (lv_at hl 0 rfl) ?_
        refine lv_dup X.1 X.2.1 dX4_readSpot_70 rfl ?_
        refine gg_X4_9 X hK hG h0 wl_1_227 (ru13 _ _ _ _ _ _ _ h0 rfl rfl (by decide) (fun z => absurd z.2 (by decide)) kf6) dX4_readSpot_71 ?_
        refine lv_iload X.1 X.2.1 dX4_readSpot_74 (lv_at hl 2 rfl) ?_
        refine lv_ior X.1 X.2.1 dX4_readSpot_76 ?_
        refine lv_topi (fun f20 ef20 => ?_)
        refine pf_X4_9 X hK hG hS h0 wl_1_227 ⟨_, rfl, (iv_of (iv_or 30 ef20 hf6 (sg_shl1 ef4 hz3_3 (by decide +kernel)) (by decide +kernel)) (a' := 0) (b' := 1073741823) (by decide +kernel))⟩ dX4_readSpot_77 (fun H locs hG hS ku21 ru21 => ?_)
        refine lv_aload_n X.1 X.2.1 dX4_readSpot_80 rfl (lv_at hl 0 rfl) ?_
        refine lv_dup X.1 X.2.1 dX4_readSpot_81 rfl ?_
        refine gf_X4_13 X hK hG h0 wl_1_236 dX4_readSpot_82 (fun f22 hf22 kf22 => ?_)
        refine lv_iconst (v := 1) X.1 X.2.1 dX4_readSpot_85 (by decide +kernel) ?_
        refine lv_iadd X.1 X.2.1 dX4_readSpot_86 ?_
        refine lv_topi (fun f23 ef23 => ?_)
        refine pf_X4_13 X hK hG hS h0 wl_1_236 ⟨_, rfl, (iv_top _)⟩ dX4_readSpot_87 (fun H locs hG hS ku24 ru24 => ?_)
        refine lv_goto (tgt := 114) X.1 X.2.1 dX4_readSpot_90 (by decide) ?_
        refine lv_iconst (v := 1) X.1 X.2.1 dX4_readSpot_114 (by decide +kernel) ?_
        exact sg_zret X hr (sg_zn (iv_of (iv_c 1 (a := 1) (b := 1) (by decide +kernel)) (a' := 0) (b' := 1) (by decide +kernel))) hlk hb hK hC hG hS (iv_of (iv_c 1 (a := 1) (b := 1) (by decide +kernel)) (a' := 0) (b' := 1) (by decide +kernel)) dX4_readSpot_115
    refine lv_if_eq (tgt := 60) X.1 X.2.1 dX4_readSpot_53 (by decide) (fun c10 => ?_) (fun c10 => ?_)
    · refine lv_iconst (v := 0) X.1 X.2.1 dX4_readSpot_60 (by decide +kernel) ?_
      exact B11_61 _ _ 0 hS (lv_sub hl [1, 2, 0] rfl) (iv_of (iv_c 0 (a := 0) (b := 0) (by decide +kernel)) (a' := 0) (b' := 1) (by decide +kernel))
    · refine lv_iconst (v := 1) X.1 X.2.1 dX4_readSpot_56 (by decide +kernel) ?_
      refine lv_goto (tgt := 61) X.1 X.2.1 dX4_readSpot_57 (by decide) ?_
      exact B11_61 _ _ 1 hS (lv_sub hl [1, 2, 0] rfl) (iv_of (iv_c 1 (a := 1) (b := 1) (by decide +kernel)) (a' := 0) (b' := 1) (by decide +kernel))
  refine lv_icmp_ne (tgt := 31) X.1 X.2.1 dX4_readSpot_8 (by decide) (fun c2 => ?_) (fun c2 => ?_)
  · exact B3_31 s.heap _ _ 0 hG hS (lv_sub hl [1, 3, 0] rfl) (iv_of (iv_c 0 (a := 0) (b := 0) (by decide +kernel)) (a' := 0) (b' := 29) (by decide +kernel))
  · refine lv_aload_n X.1 X.2.1 dX4_readSpot_11 rfl (lv_at hl 2 rfl) ?_
    refine ca_X10_step X hK hG hC hS hb a1 h1 wl_3_59 hl.1 (rest := []) rfl (Nat.le_of_ble_eq_true rfl) ⟨Nat.le_of_ble_eq_true rfl, Nat.le_of_ble_eq_true rfl⟩ ⟨Nat.le_of_ble_eq_true rfl, Nat.le_of_ble_eq_true rfl⟩ dX4_readSpot_12 (fun H locs hG hS => ?_)
    refine lv_aload_n X.1 X.2.1 dX4_readSpot_15 rfl (lv_at hl 2 rfl) ?_
    refine lv_iconst (v := 2) X.1 X.2.1 dX4_readSpot_16 (by decide +kernel) ?_
    refine lv_iconst (v := 0) X.1 X.2.1 dX4_readSpot_17 (by decide +kernel) ?_
    refine lv_bipush (v := 29) X.1 X.2.1 dX4_readSpot_18 (by decide +kernel) ?_
    refine ca_X10_number X hK hG hC hS hb a1 h1 2 0 29 wl_3_159 hl.1 (rest := []) rfl (Nat.le_of_ble_eq_true rfl) ⟨Nat.le_of_ble_eq_true rfl, Nat.le_of_ble_eq_true rfl⟩ ⟨Nat.le_of_ble_eq_true rfl, Nat.le_of_ble_eq_true rfl⟩ dX4_readSpot_20 (fun f26 H locs hf26 hG hS => ?_)
    refine lv_istore_n (lv' := [(3, .int f26), (0, .ref a0), (1, .ref a1), (2, .int x2)]) X.1 X.2.1 dX4_readSpot_23 rfl hl (by decide) rfl (fun ls hl => ?_)
    refine lv_iload_n X.1 X.2.1 dX4_readSpot_24 rfl (lv_at hl 0 rfl) ?_
    refine lv_iconst (v := (-1)) X.1 X.2.1 dX4_readSpot_25 (by decide +kernel) ?_
    refine lv_icmp_ne (tgt := 31) X.1 X.2.1 dX4_readSpot_26 (by decide) (fun c27 => ?_) (fun c27 => ?_)
    · obtain ⟨rs1, rs2⟩ := sg_numb hf26 c27
      exact B3_31 H _ _ f26 hG hS (lv_sub hl [1, 3, 0] rfl) ⟨by omega, by omega⟩
    · refine lv_iconst (v := 0) X.1 X.2.1 dX4_readSpot_29 (by decide +kernel) ?_
      exact sg_zret X hr (sg_zn (iv_of (iv_c 0 (a := 0) (b := 0) (by decide +kernel)) (a' := 0) (b' := 1) (by decide +kernel))) hlk hb hK hC hG hS (iv_of (iv_c 0 (a := 0) (b := 0) (by decide +kernel)) (a' := 0) (b' := 1) (by decide +kernel)) dX4_readSpot_30

theorem ca_X4_readSpot   (X : CallFix p m c cc nL s args sg_tbl own) (hK : va_K D vwCl tys s) (hG : sgG (KT P) D vwCl (fun q : Nat => base ≤ q) tys ad ks H) (hC : sgC base s) (hS : va_S (fun q : Nat => base ≤ q) s.heap H locs) (hb : base ≤ s.heap.size) (a0 : Nat) (h0 : isK ad ks 4 a0) (a1 : Nat) (h1 : isK ad ks 10 a1) (x2 : Int32) (h2 : iv 0 1 x2) (hl : Cond.methodLink own index yX4_readSpot ∈ sg_tbl) (hsize : ls.size = nL) (hst : st0 = [.ref a1, .int x2].reverse ++ .ref a0 :: rest) (hW : (rest.map fun v => v.category).sum ≤ 8) (hR : 3 ≤ R.frames ∧ 58 ≤ R.locals) (hf : cells ≤ R.cells ∧ slots ≤ R.slots) (hdg : decode cc pc = .ok (.invokevirtual index, 3)) (kk : ∀ (r : Int32) (H1 : Heap) (locs1 : List Loc), (fun r : Int32 => iv 0 1 r) r → sgG (KT P) D vwCl (fun q : Nat => base ≤ q) tys ad ks H1 → va_S (fun q : Nat => base ≤ q) s.heap H1 locs1 → W p l e R s m args below meth c H1 locs1 cells slots Q (F0 m (pc + 3) ls (.int r :: rest))) : W p l e R s m args below meth c H locs cells slots Q (F0 m pc ls st0) :=
  sg_callVi X hK hG hC hS hb (m_X4_readSpot l a0 h0 a1 h1 x2 h2) h0 (k := 4) (ci := 4) rfl (C := RX4) (T := TX4) (N := 15) rfl wl_3_166 wl_1_7 wl_3_165 wl_0_4 (n := 2) (by decide +kernel) rfl rfl rfl hl hsize hst hW hR hf hdg kk
end
