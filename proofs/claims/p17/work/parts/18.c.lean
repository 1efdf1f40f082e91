abbrev cX4_clear : ByteArray := prog_6_method_3_code
def yX4_clear : MethodName := ⟨RX4, "clear", "()V"⟩
abbrev cX4_isWhole : ByteArray := prog_6_method_8_code
def yX4_isWhole : MethodName := ⟨RX4, "isWhole", "()Z"⟩
abbrev cX4_read : ByteArray := prog_6_method_2_code
def yX4_read : MethodName := ⟨RX4, "read", "(LLawnAhead$Tape;)Z"⟩
abbrev cX4_readClause : ByteArray := prog_6_method_4_code
def yX4_readClause : MethodName := ⟨RX4, "readClause", "(LLawnAhead$Tape;)Z"⟩
abbrev cX4_readRules : ByteArray := prog_6_method_6_code
def yX4_readRules : MethodName := ⟨RX4, "readRules", "(LLawnAhead$Tape;)Z"⟩
abbrev cX6_readAtom : ByteArray := prog_8_method_9_code
def yX6_readAtom : MethodName := ⟨RX6, "readAtom", "(LLawnAhead$Tape;I)Z"⟩
abbrev cX6_readComparison : ByteArray := prog_8_method_7_code
def yX6_readComparison : MethodName := ⟨RX6, "readComparison", "(LLawnAhead$Tape;I)Z"⟩
abbrev cX6_readCondition : ByteArray := prog_8_method_4_code
def yX6_readCondition : MethodName := ⟨RX6, "readCondition", "(LLawnAhead$Tape;IZ)Z"⟩
abbrev cX6_readSum : ByteArray := prog_8_method_8_code
def yX6_readSum : MethodName := ⟨RX6, "readSum", "(LLawnAhead$Tape;I)Z"⟩
abbrev cX6_readUnit : ByteArray := prog_8_method_5_code
def yX6_readUnit : MethodName := ⟨RX6, "readUnit", "(LLawnAhead$Tape;I)Z"⟩
theorem dX4_clear_0 : decode cX4_clear 0 = .ok (.getstatic 56, 3) := by decide +kernel
theorem dX4_clear_3 : decode cX4_clear 3 = .ok (.iconst 0, 1) := by decide +kernel
theorem dX4_clear_4 : decode cX4_clear 4 = .ok (.aload_n 0, 1) := by decide +kernel
theorem dX4_clear_5 : decode cX4_clear 5 = .ok (.getfield 11, 3) := by decide +kernel
theorem dX4_clear_8 : decode cX4_clear 8 = .ok (.iconst 0, 1) := by decide +kernel
theorem dX4_clear_9 : decode cX4_clear 9 = .ok (.bipush 7, 2) := by decide +kernel
theorem dX4_clear_11 : decode cX4_clear 11 = .ok (.invokestatic 59, 3) := by decide +kernel
theorem dX4_clear_14 : decode cX4_clear 14 = .ok (.aload_n 0, 1) := by decide +kernel
theorem dX4_clear_15 : decode cX4_clear 15 = .ok (.iconst 0, 1) := by decide +kernel
theorem dX4_clear_16 : decode cX4_clear 16 = .ok (.putfield 65, 3) := by decide +kernel
theorem dX4_clear_19 : decode cX4_clear 19 = .ok (.aload_n 0, 1) := by decide +kernel
theorem dX4_clear_20 : decode cX4_clear 20 = .ok (.iconst 0, 1) := by decide +kernel
theorem dX4_clear_21 : decode cX4_clear 21 = .ok (.putfield 69, 3) := by decide +kernel
theorem dX4_clear_24 : decode cX4_clear 24 = .ok (.aload_n 0, 1) := by decide +kernel
theorem dX4_clear_25 : decode cX4_clear 25 = .ok (.iconst 0, 1) := by decide +kernel
theorem dX4_clear_26 : decode cX4_clear 26 = .ok (.putfield 72, 3) := by decide +kernel
theorem dX4_clear_29 : decode cX4_clear 29 = .ok (.aload_n 0, 1) := by decide +kernel
theorem dX4_clear_30 : decode cX4_clear 30 = .ok (.iconst 0, 1) := by decide +kernel
theorem dX4_clear_31 : decode cX4_clear 31 = .ok (.putfield 76, 3) := by decide +kernel
theorem dX4_clear_34 : decode cX4_clear 34 = .ok (.aload_n 0, 1) := by decide +kernel
theorem dX4_clear_35 : decode cX4_clear 35 = .ok (.iconst 0, 1) := by decide +kernel
theorem dX4_clear_36 : decode cX4_clear 36 = .ok (.putfield 79, 3) := by decide +kernel
theorem dX4_clear_39 : decode cX4_clear 39 = .ok (.aload_n 0, 1) := by decide +kernel
theorem dX4_clear_40 : decode cX4_clear 40 = .ok (.iconst 0, 1) := by decide +kernel
theorem dX4_clear_41 : decode cX4_clear 41 = .ok (.putfield 82, 3) := by decide +kernel
theorem dX4_clear_44 : decode cX4_clear 44 = .ok (.return_, 1) := by decide +kernel
theorem dX4_isWhole_0 : decode cX4_isWhole 0 = .ok (.aload_n 0, 1) := by decide +kernel
theorem dX4_isWhole_1 : decode cX4_isWhole 1 = .ok (.aload_n 0, 1) := by decide +kernel
theorem dX4_isWhole_2 : decode cX4_isWhole 2 = .ok (.getfield 11, 3) := by decide +kernel
theorem dX4_isWhole_5 : decode cX4_isWhole 5 = .ok (.iconst 0, 1) := by decide +kernel
theorem dX4_isWhole_6 : decode cX4_isWhole 6 = .ok (.iaload, 1) := by decide +kernel
theorem dX4_isWhole_7 : decode cX4_isWhole 7 = .ok (.putfield 117, 3) := by decide +kernel
theorem dX4_isWhole_10 : decode cX4_isWhole 10 = .ok (.aload_n 0, 1) := by decide +kernel
theorem dX4_isWhole_11 : decode cX4_isWhole 11 = .ok (.aload_n 0, 1) := by decide +kernel
theorem dX4_isWhole_12 : decode cX4_isWhole 12 = .ok (.getfield 11, 3) := by decide +kernel
theorem dX4_isWhole_15 : decode cX4_isWhole 15 = .ok (.iconst 1, 1) := by decide +kernel
theorem dX4_isWhole_16 : decode cX4_isWhole 16 = .ok (.iaload, 1) := by decide +kernel
theorem dX4_isWhole_17 : decode cX4_isWhole 17 = .ok (.putfield 120, 3) := by decide +kernel
theorem dX4_isWhole_20 : decode cX4_isWhole 20 = .ok (.aload_n 0, 1) := by decide +kernel
theorem dX4_isWhole_21 : decode cX4_isWhole 21 = .ok (.aload_n 0, 1) := by decide +kernel
theorem dX4_isWhole_22 : decode cX4_isWhole 22 = .ok (.getfield 117, 3) := by decide +kernel
theorem dX4_isWhole_25 : decode cX4_isWhole 25 = .ok (.aload_n 0, 1) := by decide +kernel
theorem dX4_isWhole_26 : decode cX4_isWhole 26 = .ok (.getfield 120, 3) := by decide +kernel
theorem dX4_isWhole_29 : decode cX4_isWhole 29 = .ok (.imul, 1) := by decide +kernel
theorem dX4_isWhole_30 : decode cX4_isWhole 30 = .ok (.putfield 123, 3) := by decide +kernel
theorem dX4_isWhole_33 : decode cX4_isWhole 33 = .ok (.aload_n 0, 1) := by decide +kernel
theorem dX4_isWhole_34 : decode cX4_isWhole 34 = .ok (.iconst 1, 1) := by decide +kernel
theorem dX4_isWhole_35 : decode cX4_isWhole 35 = .ok (.aload_n 0, 1) := by decide +kernel
theorem dX4_isWhole_36 : decode cX4_isWhole 36 = .ok (.getfield 123, 3) := by decide +kernel
theorem dX4_isWhole_39 : decode cX4_isWhole 39 = .ok (.ishl, 1) := by decide +kernel
theorem dX4_isWhole_40 : decode cX4_isWhole 40 = .ok (.iconst 1, 1) := by decide +kernel
theorem dX4_isWhole_41 : decode cX4_isWhole 41 = .ok (.isub, 1) := by decide +kernel
theorem dX4_isWhole_42 : decode cX4_isWhole 42 = .ok (.putfield 126, 3) := by decide +kernel
theorem dX4_isWhole_45 : decode cX4_isWhole 45 = .ok (.aload_n 0, 1) := by decide +kernel
theorem dX4_isWhole_46 : decode cX4_isWhole 46 = .ok (.getfield 76, 3) := by decide +kernel
theorem dX4_isWhole_49 : decode cX4_isWhole 49 = .ok (.ifCond .ne 37, 3) := by decide +kernel
theorem dX4_isWhole_52 : decode cX4_isWhole 52 = .ok (.aload_n 0, 1) := by decide +kernel
theorem dX4_isWhole_53 : decode cX4_isWhole 53 = .ok (.getfield 65, 3) := by decide +kernel
theorem dX4_isWhole_56 : decode cX4_isWhole 56 = .ok (.aload_n 0, 1) := by decide +kernel
theorem dX4_isWhole_57 : decode cX4_isWhole 57 = .ok (.getfield 69, 3) := by decide +kernel
theorem dX4_isWhole_60 : decode cX4_isWhole 60 = .ok (.ior, 1) := by decide +kernel
theorem dX4_isWhole_61 : decode cX4_isWhole 61 = .ok (.aload_n 0, 1) := by decide +kernel
theorem dX4_isWhole_62 : decode cX4_isWhole 62 = .ok (.getfield 126, 3) := by decide +kernel
theorem dX4_isWhole_65 : decode cX4_isWhole 65 = .ok (.iconst (-1), 1) := by decide +kernel
theorem dX4_isWhole_66 : decode cX4_isWhole 66 = .ok (.ixor, 1) := by decide +kernel
theorem dX4_isWhole_67 : decode cX4_isWhole 67 = .ok (.iand, 1) := by decide +kernel
theorem dX4_isWhole_68 : decode cX4_isWhole 68 = .ok (.ifCond .ne 18, 3) := by decide +kernel
theorem dX4_isWhole_71 : decode cX4_isWhole 71 = .ok (.aload_n 0, 1) := by decide +kernel
theorem dX4_isWhole_72 : decode cX4_isWhole 72 = .ok (.getfield 11, 3) := by decide +kernel
theorem dX4_isWhole_75 : decode cX4_isWhole 75 = .ok (.iconst 4, 1) := by decide +kernel
theorem dX4_isWhole_76 : decode cX4_isWhole 76 = .ok (.iaload, 1) := by decide +kernel
theorem dX4_isWhole_77 : decode cX4_isWhole 77 = .ok (.aload_n 0, 1) := by decide +kernel
theorem dX4_isWhole_78 : decode cX4_isWhole 78 = .ok (.getfield 11, 3) := by decide +kernel
theorem dX4_isWhole_81 : decode cX4_isWhole 81 = .ok (.iconst 5, 1) := by decide +kernel
theorem dX4_isWhole_82 : decode cX4_isWhole 82 = .ok (.iaload, 1) := by decide +kernel
theorem dX4_isWhole_83 : decode cX4_isWhole 83 = .ok (.if_icmp .le 5, 3) := by decide +kernel
theorem dX4_isWhole_86 : decode cX4_isWhole 86 = .ok (.iconst 0, 1) := by decide +kernel
theorem dX4_isWhole_87 : decode cX4_isWhole 87 = .ok (.ireturn, 1) := by decide +kernel
theorem dX4_isWhole_88 : decode cX4_isWhole 88 = .ok (.aload_n 0, 1) := by decide +kernel
theorem dX4_isWhole_89 : decode cX4_isWhole 89 = .ok (.invokevirtual 129, 3) := by decide +kernel
theorem dX4_isWhole_92 : decode cX4_isWhole 92 = .ok (.aload_n 0, 1) := by decide +kernel
theorem dX4_isWhole_93 : decode cX4_isWhole 93 = .ok (.aload_n 0, 1) := by decide +kernel
theorem dX4_isWhole_94 : decode cX4_isWhole 94 = .ok (.getfield 65, 3) := by decide +kernel
theorem dX4_isWhole_97 : decode cX4_isWhole 97 = .ok (.invokevirtual 132, 3) := by decide +kernel
theorem dX4_isWhole_100 : decode cX4_isWhole 100 = .ok (.ifCond .ne 7, 3) := by decide +kernel
theorem dX4_isWhole_103 : decode cX4_isWhole 103 = .ok (.iconst 1, 1) := by decide +kernel
theorem dX4_isWhole_104 : decode cX4_isWhole 104 = .ok (.goto 4, 3) := by decide +kernel
theorem dX4_isWhole_107 : decode cX4_isWhole 107 = .ok (.iconst 0, 1) := by decide +kernel
theorem dX4_isWhole_108 : decode cX4_isWhole 108 = .ok (.ireturn, 1) := by decide +kernel
theorem dX4_read_0 : decode cX4_read 0 = .ok (.aload_n 1, 1) := by decide +kernel
theorem dX4_read_1 : decode cX4_read 1 = .ok (.invokevirtual 27, 3) := by decide +kernel
theorem dX4_read_4 : decode cX4_read 4 = .ok (.aload_n 0, 1) := by decide +kernel
theorem dX4_read_5 : decode cX4_read 5 = .ok (.invokevirtual 32, 3) := by decide +kernel
theorem dX4_read_8 : decode cX4_read 8 = .ok (.iconst 0, 1) := by decide +kernel
theorem dX4_read_9 : decode cX4_read 9 = .ok (.istore_n 2, 1) := by decide +kernel
theorem dX4_read_10 : decode cX4_read 10 = .ok (.iload_n 2, 1) := by decide +kernel
theorem dX4_read_11 : decode cX4_read 11 = .ok (.sipush 240, 3) := by decide +kernel
theorem dX4_read_14 : decode cX4_read 14 = .ok (.if_icmp .ge 35, 3) := by decide +kernel
theorem dX4_read_17 : decode cX4_read 17 = .ok (.aload_n 0, 1) := by decide +kernel
theorem dX4_read_18 : decode cX4_read 18 = .ok (.aload_n 1, 1) := by decide +kernel
theorem dX4_read_19 : decode cX4_read 19 = .ok (.invokevirtual 35, 3) := by decide +kernel
theorem dX4_read_22 : decode cX4_read 22 = .ok (.ifCond .ne 5, 3) := by decide +kernel
theorem dX4_read_25 : decode cX4_read 25 = .ok (.iconst 0, 1) := by decide +kernel
theorem dX4_read_26 : decode cX4_read 26 = .ok (.ireturn, 1) := by decide +kernel
theorem dX4_read_27 : decode cX4_read 27 = .ok (.aload_n 1, 1) := by decide +kernel
theorem dX4_read_28 : decode cX4_read 28 = .ok (.invokevirtual 39, 3) := by decide +kernel
theorem dX4_read_31 : decode cX4_read 31 = .ok (.bipush 59, 2) := by decide +kernel
theorem dX4_read_33 : decode cX4_read 33 = .ok (.if_icmp .eq 6, 3) := by decide +kernel
theorem dX4_read_36 : decode cX4_read 36 = .ok (.goto 13, 3) := by decide +kernel
theorem dX4_read_39 : decode cX4_read 39 = .ok (.aload_n 1, 1) := by decide +kernel
theorem dX4_read_40 : decode cX4_read 40 = .ok (.invokevirtual 43, 3) := by decide +kernel
theorem dX4_read_43 : decode cX4_read 43 = .ok (.iinc 2 1, 3) := by decide +kernel
theorem dX4_read_46 : decode cX4_read 46 = .ok (.goto (-36), 3) := by decide +kernel
theorem dX4_read_49 : decode cX4_read 49 = .ok (.aload_n 1, 1) := by decide +kernel
theorem dX4_read_50 : decode cX4_read 50 = .ok (.invokevirtual 46, 3) := by decide +kernel
theorem dX4_read_53 : decode cX4_read 53 = .ok (.ifCond .eq 21, 3) := by decide +kernel
theorem dX4_read_56 : decode cX4_read 56 = .ok (.aload_n 0, 1) := by decide +kernel
theorem dX4_read_57 : decode cX4_read 57 = .ok (.invokevirtual 50, 3) := by decide +kernel
theorem dX4_read_60 : decode cX4_read 60 = .ok (.ifCond .ne 10, 3) := by decide +kernel
theorem dX4_read_63 : decode cX4_read 63 = .ok (.aload_n 1, 1) := by decide +kernel
theorem dX4_read_64 : decode cX4_read 64 = .ok (.invokevirtual 53, 3) := by decide +kernel
theorem dX4_read_67 : decode cX4_read 67 = .ok (.ifCond .eq 7, 3) := by decide +kernel
theorem dX4_read_70 : decode cX4_read 70 = .ok (.iconst 1, 1) := by decide +kernel
theorem dX4_read_71 : decode cX4_read 71 = .ok (.goto 4, 3) := by decide +kernel
theorem dX4_read_74 : decode cX4_read 74 = .ok (.iconst 0, 1) := by decide +kernel
theorem dX4_read_75 : decode cX4_read 75 = .ok (.ireturn, 1) := by decide +kernel
theorem dX4_readClause_0 : decode cX4_readClause 0 = .ok (.aload_n 1, 1) := by decide +kernel
theorem dX4_readClause_1 : decode cX4_readClause 1 = .ok (.invokevirtual 39, 3) := by decide +kernel
theorem dX4_readClause_4 : decode cX4_readClause 4 = .ok (.istore_n 2, 1) := by decide +kernel
theorem dX4_readClause_5 : decode cX4_readClause 5 = .ok (.aload_n 0, 1) := by decide +kernel
theorem dX4_readClause_6 : decode cX4_readClause 6 = .ok (.iload_n 2, 1) := by decide +kernel
theorem dX4_readClause_7 : decode cX4_readClause 7 = .ok (.invokevirtual 85, 3) := by decide +kernel
theorem dX4_readClause_10 : decode cX4_readClause 10 = .ok (.ifCond .ne 8, 3) := by decide +kernel
theorem dX4_readClause_13 : decode cX4_readClause 13 = .ok (.aload_n 1, 1) := by decide +kernel
theorem dX4_readClause_14 : decode cX4_readClause 14 = .ok (.invokevirtual 89, 3) := by decide +kernel
theorem dX4_readClause_17 : decode cX4_readClause 17 = .ok (.ireturn, 1) := by decide +kernel
theorem dX4_readClause_18 : decode cX4_readClause 18 = .ok (.aload_n 1, 1) := by decide +kernel
theorem dX4_readClause_19 : decode cX4_readClause 19 = .ok (.invokevirtual 43, 3) := by decide +kernel
theorem dX4_readClause_22 : decode cX4_readClause 22 = .ok (.iload_n 2, 1) := by decide +kernel
theorem dX4_readClause_23 : decode cX4_readClause 23 = .ok (.bipush 115, 2) := by decide +kernel
theorem dX4_readClause_25 : decode cX4_readClause 25 = .ok (.if_icmp .ne 11, 3) := by decide +kernel
theorem dX4_readClause_28 : decode cX4_readClause 28 = .ok (.aload_n 0, 1) := by decide +kernel
theorem dX4_readClause_29 : decode cX4_readClause 29 = .ok (.aload_n 1, 1) := by decide +kernel
theorem dX4_readClause_30 : decode cX4_readClause 30 = .ok (.invokevirtual 92, 3) := by decide +kernel
theorem dX4_readClause_33 : decode cX4_readClause 33 = .ok (.goto 19, 3) := by decide +kernel
theorem dX4_readClause_36 : decode cX4_readClause 36 = .ok (.aload_n 0, 1) := by decide +kernel
theorem dX4_readClause_37 : decode cX4_readClause 37 = .ok (.aload_n 1, 1) := by decide +kernel
theorem dX4_readClause_38 : decode cX4_readClause 38 = .ok (.iload_n 2, 1) := by decide +kernel
theorem dX4_readClause_39 : decode cX4_readClause 39 = .ok (.bipush 116, 2) := by decide +kernel
theorem dX4_readClause_41 : decode cX4_readClause 41 = .ok (.if_icmp .ne 7, 3) := by decide +kernel
theorem dX4_readClause_44 : decode cX4_readClause 44 = .ok (.iconst 1, 1) := by decide +kernel
theorem dX4_readClause_45 : decode cX4_readClause 45 = .ok (.goto 4, 3) := by decide +kernel
theorem dX4_readClause_48 : decode cX4_readClause 48 = .ok (.iconst 0, 1) := by decide +kernel
theorem dX4_readClause_49 : decode cX4_readClause 49 = .ok (.invokevirtual 95, 3) := by decide +kernel
theorem dX4_readClause_52 : decode cX4_readClause 52 = .ok (.ireturn, 1) := by decide +kernel
theorem dX4_readRules_0 : decode cX4_readRules 0 = .ok (.aload_n 0, 1) := by decide +kernel
theorem dX4_readRules_1 : decode cX4_readRules 1 = .ok (.iconst 1, 1) := by decide +kernel
theorem dX4_readRules_2 : decode cX4_readRules 2 = .ok (.putfield 72, 3) := by decide +kernel
theorem dX4_readRules_5 : decode cX4_readRules 5 = .ok (.iconst 0, 1) := by decide +kernel
theorem dX4_readRules_6 : decode cX4_readRules 6 = .ok (.istore_n 2, 1) := by decide +kernel
theorem dX4_readRules_7 : decode cX4_readRules 7 = .ok (.iconst 0, 1) := by decide +kernel
theorem dX4_readRules_8 : decode cX4_readRules 8 = .ok (.istore_n 3, 1) := by decide +kernel
theorem dX4_readRules_9 : decode cX4_readRules 9 = .ok (.iload_n 3, 1) := by decide +kernel
theorem dX4_readRules_10 : decode cX4_readRules 10 = .ok (.bipush 7, 2) := by decide +kernel
theorem dX4_readRules_12 : decode cX4_readRules 12 = .ok (.if_icmp .gt 96, 3) := by decide +kernel
theorem dX4_readRules_15 : decode cX4_readRules 15 = .ok (.ldc 99, 2) := by decide +kernel
theorem dX4_readRules_17 : decode cX4_readRules 17 = .ok (.aload_n 1, 1) := by decide +kernel
theorem dX4_readRules_18 : decode cX4_readRules 18 = .ok (.invokevirtual 39, 3) := by decide +kernel
theorem dX4_readRules_21 : decode cX4_readRules 21 = .ok (.i2c, 1) := by decide +kernel
theorem dX4_readRules_22 : decode cX4_readRules 22 = .ok (.invokevirtual 101, 3) := by decide +kernel
theorem dX4_readRules_25 : decode cX4_readRules 25 = .ok (.istore 4, 2) := by decide +kernel
theorem dX4_readRules_27 : decode cX4_readRules 27 = .ok (.iload 4, 2) := by decide +kernel
theorem dX4_readRules_29 : decode cX4_readRules 29 = .ok (.ifCond .lt 10, 3) := by decide +kernel
theorem dX4_readRules_32 : decode cX4_readRules 32 = .ok (.iload 4, 2) := by decide +kernel
theorem dX4_readRules_34 : decode cX4_readRules 34 = .ok (.bipush 7, 2) := by decide +kernel
theorem dX4_readRules_36 : decode cX4_readRules 36 = .ok (.if_icmp .lt 5, 3) := by decide +kernel
theorem dX4_readRules_39 : decode cX4_readRules 39 = .ok (.iconst 1, 1) := by decide +kernel
theorem dX4_readRules_40 : decode cX4_readRules 40 = .ok (.ireturn, 1) := by decide +kernel
theorem dX4_readRules_41 : decode cX4_readRules 41 = .ok (.iload_n 2, 1) := by decide +kernel
theorem dX4_readRules_42 : decode cX4_readRules 42 = .ok (.iload 4, 2) := by decide +kernel
theorem dX4_readRules_44 : decode cX4_readRules 44 = .ok (.ishr, 1) := by decide +kernel
theorem dX4_readRules_45 : decode cX4_readRules 45 = .ok (.iconst 1, 1) := by decide +kernel
theorem dX4_readRules_46 : decode cX4_readRules 46 = .ok (.iand, 1) := by decide +kernel
theorem dX4_readRules_47 : decode cX4_readRules 47 = .ok (.ifCond .eq 8, 3) := by decide +kernel
theorem dX4_readRules_50 : decode cX4_readRules 50 = .ok (.aload_n 1, 1) := by decide +kernel
theorem dX4_readRules_51 : decode cX4_readRules 51 = .ok (.invokevirtual 89, 3) := by decide +kernel
theorem dX4_readRules_54 : decode cX4_readRules 54 = .ok (.ireturn, 1) := by decide +kernel
theorem dX4_readRules_55 : decode cX4_readRules 55 = .ok (.iload_n 2, 1) := by decide +kernel
theorem dX4_readRules_56 : decode cX4_readRules 56 = .ok (.iconst 1, 1) := by decide +kernel
theorem dX4_readRules_57 : decode cX4_readRules 57 = .ok (.iload 4, 2) := by decide +kernel
theorem dX4_readRules_59 : decode cX4_readRules 59 = .ok (.ishl, 1) := by decide +kernel
theorem dX4_readRules_60 : decode cX4_readRules 60 = .ok (.ior, 1) := by decide +kernel
theorem dX4_readRules_61 : decode cX4_readRules 61 = .ok (.istore_n 2, 1) := by decide +kernel
theorem dX4_readRules_62 : decode cX4_readRules 62 = .ok (.aload_n 1, 1) := by decide +kernel
theorem dX4_readRules_63 : decode cX4_readRules 63 = .ok (.invokevirtual 43, 3) := by decide +kernel
theorem dX4_readRules_66 : decode cX4_readRules 66 = .ok (.aload_n 1, 1) := by decide +kernel
theorem dX4_readRules_67 : decode cX4_readRules 67 = .ok (.iconst 2, 1) := by decide +kernel
theorem dX4_readRules_68 : decode cX4_readRules 68 = .ok (.getstatic 107, 3) := by decide +kernel
theorem dX4_readRules_71 : decode cX4_readRules 71 = .ok (.iload 4, 2) := by decide +kernel
theorem dX4_readRules_73 : decode cX4_readRules 73 = .ok (.iaload, 1) := by decide +kernel
theorem dX4_readRules_74 : decode cX4_readRules 74 = .ok (.getstatic 110, 3) := by decide +kernel
theorem dX4_readRules_77 : decode cX4_readRules 77 = .ok (.iload 4, 2) := by decide +kernel
theorem dX4_readRules_79 : decode cX4_readRules 79 = .ok (.iaload, 1) := by decide +kernel
theorem dX4_readRules_80 : decode cX4_readRules 80 = .ok (.invokevirtual 113, 3) := by decide +kernel
theorem dX4_readRules_83 : decode cX4_readRules 83 = .ok (.istore 5, 2) := by decide +kernel
theorem dX4_readRules_85 : decode cX4_readRules 85 = .ok (.iload 5, 2) := by decide +kernel
theorem dX4_readRules_87 : decode cX4_readRules 87 = .ok (.iconst (-1), 1) := by decide +kernel
theorem dX4_readRules_88 : decode cX4_readRules 88 = .ok (.if_icmp .ne 5, 3) := by decide +kernel
theorem dX4_readRules_91 : decode cX4_readRules 91 = .ok (.iconst 0, 1) := by decide +kernel
theorem dX4_readRules_92 : decode cX4_readRules 92 = .ok (.ireturn, 1) := by decide +kernel
theorem dX4_readRules_93 : decode cX4_readRules 93 = .ok (.aload_n 0, 1) := by decide +kernel
theorem dX4_readRules_94 : decode cX4_readRules 94 = .ok (.getfield 11, 3) := by decide +kernel
theorem dX4_readRules_97 : decode cX4_readRules 97 = .ok (.iload 4, 2) := by decide +kernel
theorem dX4_readRules_99 : decode cX4_readRules 99 = .ok (.iload 5, 2) := by decide +kernel
theorem dX4_readRules_101 : decode cX4_readRules 101 = .ok (.iastore, 1) := by decide +kernel
theorem dX4_readRules_102 : decode cX4_readRules 102 = .ok (.iinc 3 1, 3) := by decide +kernel
theorem dX4_readRules_105 : decode cX4_readRules 105 = .ok (.goto (-96), 3) := by decide +kernel
theorem dX4_readRules_108 : decode cX4_readRules 108 = .ok (.iconst 1, 1) := by decide +kernel
theorem dX4_readRules_109 : decode cX4_readRules 109 = .ok (.ireturn, 1) := by decide +kernel
theorem dX6_readAtom_0 : decode cX6_readAtom 0 = .ok (.aload_n 1, 1) := by decide +kernel
theorem dX6_readAtom_1 : decode cX6_readAtom 1 = .ok (.invokevirtual 44, 3) := by decide +kernel
theorem dX6_readAtom_4 : decode cX6_readAtom 4 = .ok (.istore_n 3, 1) := by decide +kernel
theorem dX6_readAtom_5 : decode cX6_readAtom 5 = .ok (.iload_n 3, 1) := by decide +kernel
theorem dX6_readAtom_6 : decode cX6_readAtom 6 = .ok (.bipush 91, 2) := by decide +kernel
theorem dX6_readAtom_8 : decode cX6_readAtom 8 = .ok (.if_icmp .ne 51, 3) := by decide +kernel
theorem dX6_readAtom_11 : decode cX6_readAtom 11 = .ok (.iload_n 2, 1) := by decide +kernel
theorem dX6_readAtom_12 : decode cX6_readAtom 12 = .ok (.bipush 6, 2) := by decide +kernel
theorem dX6_readAtom_14 : decode cX6_readAtom 14 = .ok (.if_icmp .lt 8, 3) := by decide +kernel
theorem dX6_readAtom_17 : decode cX6_readAtom 17 = .ok (.aload_n 1, 1) := by decide +kernel
theorem dX6_readAtom_18 : decode cX6_readAtom 18 = .ok (.invokevirtual 80, 3) := by decide +kernel
theorem dX6_readAtom_21 : decode cX6_readAtom 21 = .ok (.ireturn, 1) := by decide +kernel
theorem dX6_readAtom_22 : decode cX6_readAtom 22 = .ok (.aload_n 1, 1) := by decide +kernel
theorem dX6_readAtom_23 : decode cX6_readAtom 23 = .ok (.invokevirtual 48, 3) := by decide +kernel
theorem dX6_readAtom_26 : decode cX6_readAtom 26 = .ok (.aload_n 0, 1) := by decide +kernel
theorem dX6_readAtom_27 : decode cX6_readAtom 27 = .ok (.aload_n 1, 1) := by decide +kernel
theorem dX6_readAtom_28 : decode cX6_readAtom 28 = .ok (.iload_n 2, 1) := by decide +kernel
theorem dX6_readAtom_29 : decode cX6_readAtom 29 = .ok (.iconst 1, 1) := by decide +kernel
theorem dX6_readAtom_30 : decode cX6_readAtom 30 = .ok (.iadd, 1) := by decide +kernel
theorem dX6_readAtom_31 : decode cX6_readAtom 31 = .ok (.invokevirtual 59, 3) := by decide +kernel
theorem dX6_readAtom_34 : decode cX6_readAtom 34 = .ok (.ifCond .ne 5, 3) := by decide +kernel
theorem dX6_readAtom_37 : decode cX6_readAtom 37 = .ok (.iconst 0, 1) := by decide +kernel
theorem dX6_readAtom_38 : decode cX6_readAtom 38 = .ok (.ireturn, 1) := by decide +kernel
theorem dX6_readAtom_39 : decode cX6_readAtom 39 = .ok (.aload_n 1, 1) := by decide +kernel
theorem dX6_readAtom_40 : decode cX6_readAtom 40 = .ok (.invokevirtual 44, 3) := by decide +kernel
theorem dX6_readAtom_43 : decode cX6_readAtom 43 = .ok (.bipush 93, 2) := by decide +kernel
theorem dX6_readAtom_45 : decode cX6_readAtom 45 = .ok (.if_icmp .eq 8, 3) := by decide +kernel
theorem dX6_readAtom_48 : decode cX6_readAtom 48 = .ok (.aload_n 1, 1) := by decide +kernel
theorem dX6_readAtom_49 : decode cX6_readAtom 49 = .ok (.invokevirtual 80, 3) := by decide +kernel
theorem dX6_readAtom_52 : decode cX6_readAtom 52 = .ok (.ireturn, 1) := by decide +kernel
theorem dX6_readAtom_53 : decode cX6_readAtom 53 = .ok (.aload_n 1, 1) := by decide +kernel
theorem dX6_readAtom_54 : decode cX6_readAtom 54 = .ok (.invokevirtual 48, 3) := by decide +kernel
theorem dX6_readAtom_57 : decode cX6_readAtom 57 = .ok (.iconst 1, 1) := by decide +kernel
theorem dX6_readAtom_58 : decode cX6_readAtom 58 = .ok (.ireturn, 1) := by decide +kernel
theorem dX6_readAtom_59 : decode cX6_readAtom 59 = .ok (.ldc 86, 2) := by decide +kernel
theorem dX6_readAtom_61 : decode cX6_readAtom 61 = .ok (.iload_n 3, 1) := by decide +kernel
theorem dX6_readAtom_62 : decode cX6_readAtom 62 = .ok (.i2c, 1) := by decide +kernel
theorem dX6_readAtom_63 : decode cX6_readAtom 63 = .ok (.invokevirtual 88, 3) := by decide +kernel
theorem dX6_readAtom_66 : decode cX6_readAtom 66 = .ok (.istore 4, 2) := by decide +kernel
theorem dX6_readAtom_68 : decode cX6_readAtom 68 = .ok (.iload 4, 2) := by decide +kernel
theorem dX6_readAtom_70 : decode cX6_readAtom 70 = .ok (.ifCond .lt 37, 3) := by decide +kernel
theorem dX6_readAtom_73 : decode cX6_readAtom 73 = .ok (.aload_n 0, 1) := by decide +kernel
theorem dX6_readAtom_74 : decode cX6_readAtom 74 = .ok (.dup, 1) := by decide +kernel
theorem dX6_readAtom_75 : decode cX6_readAtom 75 = .ok (.getfield 33, 3) := by decide +kernel
theorem dX6_readAtom_78 : decode cX6_readAtom 78 = .ok (.iload 4, 2) := by decide +kernel
theorem dX6_readAtom_80 : decode cX6_readAtom 80 = .ok (.iconst 4, 1) := by decide +kernel
theorem dX6_readAtom_81 : decode cX6_readAtom 81 = .ok (.if_icmp .ne 7, 3) := by decide +kernel
theorem dX6_readAtom_84 : decode cX6_readAtom 84 = .ok (.iconst 1, 1) := by decide +kernel
theorem dX6_readAtom_85 : decode cX6_readAtom 85 = .ok (.goto 4, 3) := by decide +kernel
theorem dX6_readAtom_88 : decode cX6_readAtom 88 = .ok (.iconst 0, 1) := by decide +kernel
theorem dX6_readAtom_89 : decode cX6_readAtom 89 = .ok (.ior, 1) := by decide +kernel
theorem dX6_readAtom_90 : decode cX6_readAtom 90 = .ok (.putfield 33, 3) := by decide +kernel
theorem dX6_readAtom_93 : decode cX6_readAtom 93 = .ok (.aload_n 0, 1) := by decide +kernel
theorem dX6_readAtom_94 : decode cX6_readAtom 94 = .ok (.iconst (-1), 1) := by decide +kernel
theorem dX6_readAtom_95 : decode cX6_readAtom 95 = .ok (.iload 4, 2) := by decide +kernel
theorem dX6_readAtom_97 : decode cX6_readAtom 97 = .ok (.isub, 1) := by decide +kernel
theorem dX6_readAtom_98 : decode cX6_readAtom 98 = .ok (.invokevirtual 76, 3) := by decide +kernel
theorem dX6_readAtom_101 : decode cX6_readAtom 101 = .ok (.aload_n 1, 1) := by decide +kernel
theorem dX6_readAtom_102 : decode cX6_readAtom 102 = .ok (.invokevirtual 48, 3) := by decide +kernel
theorem dX6_readAtom_105 : decode cX6_readAtom 105 = .ok (.iconst 1, 1) := by decide +kernel
theorem dX6_readAtom_106 : decode cX6_readAtom 106 = .ok (.ireturn, 1) := by decide +kernel
theorem dX6_readAtom_107 : decode cX6_readAtom 107 = .ok (.aload_n 1, 1) := by decide +kernel
theorem dX6_readAtom_108 : decode cX6_readAtom 108 = .ok (.iconst 4, 1) := by decide +kernel
theorem dX6_readAtom_109 : decode cX6_readAtom 109 = .ok (.iconst 0, 1) := by decide +kernel
theorem dX6_readAtom_110 : decode cX6_readAtom 110 = .ok (.sipush 9999, 3) := by decide +kernel
theorem dX6_readAtom_113 : decode cX6_readAtom 113 = .ok (.invokevirtual 93, 3) := by decide +kernel
theorem dX6_readAtom_116 : decode cX6_readAtom 116 = .ok (.istore 5, 2) := by decide +kernel
theorem dX6_readAtom_118 : decode cX6_readAtom 118 = .ok (.aload_n 0, 1) := by decide +kernel
theorem dX6_readAtom_119 : decode cX6_readAtom 119 = .ok (.iload 5, 2) := by decide +kernel
theorem dX6_readAtom_121 : decode cX6_readAtom 121 = .ok (.iconst 0, 1) := by decide +kernel
theorem dX6_readAtom_122 : decode cX6_readAtom 122 = .ok (.invokestatic 97, 3) := by decide +kernel
theorem dX6_readAtom_125 : decode cX6_readAtom 125 = .ok (.invokevirtual 76, 3) := by decide +kernel
theorem dX6_readAtom_128 : decode cX6_readAtom 128 = .ok (.iload 5, 2) := by decide +kernel
theorem dX6_readAtom_130 : decode cX6_readAtom 130 = .ok (.iconst (-1), 1) := by decide +kernel
theorem dX6_readAtom_131 : decode cX6_readAtom 131 = .ok (.if_icmp .eq 7, 3) := by decide +kernel
theorem dX6_readAtom_134 : decode cX6_readAtom 134 = .ok (.iconst 1, 1) := by decide +kernel
theorem dX6_readAtom_135 : decode cX6_readAtom 135 = .ok (.goto 4, 3) := by decide +kernel
theorem dX6_readAtom_138 : decode cX6_readAtom 138 = .ok (.iconst 0, 1) := by decide +kernel
theorem dX6_readAtom_139 : decode cX6_readAtom 139 = .ok (.ireturn, 1) := by decide +kernel
theorem dX6_readComparison_0 : decode cX6_readComparison 0 = .ok (.aload_n 1, 1) := by decide +kernel
theorem dX6_readComparison_1 : decode cX6_readComparison 1 = .ok (.invokevirtual 44, 3) := by decide +kernel
theorem dX6_readComparison_4 : decode cX6_readComparison 4 = .ok (.invokestatic 62, 3) := by decide +kernel
theorem dX6_readComparison_7 : decode cX6_readComparison 7 = .ok (.istore_n 3, 1) := by decide +kernel
theorem dX6_readComparison_8 : decode cX6_readComparison 8 = .ok (.iload_n 3, 1) := by decide +kernel
theorem dX6_readComparison_9 : decode cX6_readComparison 9 = .ok (.ifCond .ne 8, 3) := by decide +kernel
theorem dX6_readComparison_12 : decode cX6_readComparison 12 = .ok (.aload_n 1, 1) := by decide +kernel
theorem dX6_readComparison_13 : decode cX6_readComparison 13 = .ok (.invokevirtual 80, 3) := by decide +kernel
theorem dX6_readComparison_16 : decode cX6_readComparison 16 = .ok (.ireturn, 1) := by decide +kernel
theorem dX6_readComparison_17 : decode cX6_readComparison 17 = .ok (.aload_n 1, 1) := by decide +kernel
theorem dX6_readComparison_18 : decode cX6_readComparison 18 = .ok (.invokevirtual 48, 3) := by decide +kernel
theorem dX6_readComparison_21 : decode cX6_readComparison 21 = .ok (.aload_n 0, 1) := by decide +kernel
theorem dX6_readComparison_22 : decode cX6_readComparison 22 = .ok (.aload_n 1, 1) := by decide +kernel
theorem dX6_readComparison_23 : decode cX6_readComparison 23 = .ok (.iload_n 2, 1) := by decide +kernel
theorem dX6_readComparison_24 : decode cX6_readComparison 24 = .ok (.invokevirtual 59, 3) := by decide +kernel
theorem dX6_readComparison_27 : decode cX6_readComparison 27 = .ok (.ifCond .ne 5, 3) := by decide +kernel
theorem dX6_readComparison_30 : decode cX6_readComparison 30 = .ok (.iconst 0, 1) := by decide +kernel
theorem dX6_readComparison_31 : decode cX6_readComparison 31 = .ok (.ireturn, 1) := by decide +kernel
theorem dX6_readComparison_32 : decode cX6_readComparison 32 = .ok (.aload_n 0, 1) := by decide +kernel
theorem dX6_readComparison_33 : decode cX6_readComparison 33 = .ok (.iload_n 3, 1) := by decide +kernel
theorem dX6_readComparison_34 : decode cX6_readComparison 34 = .ok (.invokevirtual 76, 3) := by decide +kernel
theorem dX6_readComparison_37 : decode cX6_readComparison 37 = .ok (.iconst 1, 1) := by decide +kernel
theorem dX6_readComparison_38 : decode cX6_readComparison 38 = .ok (.ireturn, 1) := by decide +kernel
theorem dX6_readCondition_0 : decode cX6_readCondition 0 = .ok (.iload_n 3, 1) := by decide +kernel
theorem dX6_readCondition_1 : decode cX6_readCondition 1 = .ok (.ifCond .ne 14, 3) := by decide +kernel
theorem dX6_readCondition_4 : decode cX6_readCondition 4 = .ok (.aload_n 0, 1) := by decide +kernel
theorem dX6_readCondition_5 : decode cX6_readCondition 5 = .ok (.aload_n 1, 1) := by decide +kernel
theorem dX6_readCondition_6 : decode cX6_readCondition 6 = .ok (.iload_n 2, 1) := by decide +kernel
theorem dX6_readCondition_7 : decode cX6_readCondition 7 = .ok (.invokevirtual 73, 3) := by decide +kernel
theorem dX6_readCondition_10 : decode cX6_readCondition 10 = .ok (.ifCond .ne 5, 3) := by decide +kernel
theorem dX6_readCondition_13 : decode cX6_readCondition 13 = .ok (.iconst 0, 1) := by decide +kernel
theorem dX6_readCondition_14 : decode cX6_readCondition 14 = .ok (.ireturn, 1) := by decide +kernel
theorem dX6_readCondition_15 : decode cX6_readCondition 15 = .ok (.iconst 0, 1) := by decide +kernel
theorem dX6_readCondition_16 : decode cX6_readCondition 16 = .ok (.istore 4, 2) := by decide +kernel
theorem dX6_readCondition_18 : decode cX6_readCondition 18 = .ok (.iconst 0, 1) := by decide +kernel
theorem dX6_readCondition_19 : decode cX6_readCondition 19 = .ok (.istore 5, 2) := by decide +kernel
theorem dX6_readCondition_21 : decode cX6_readCondition 21 = .ok (.iload 5, 2) := by decide +kernel
theorem dX6_readCondition_23 : decode cX6_readCondition 23 = .ok (.sipush 240, 3) := by decide +kernel
theorem dX6_readCondition_26 : decode cX6_readCondition 26 = .ok (.if_icmp .ge 83, 3) := by decide +kernel
theorem dX6_readCondition_29 : decode cX6_readCondition 29 = .ok (.aload_n 1, 1) := by decide +kernel
theorem dX6_readCondition_30 : decode cX6_readCondition 30 = .ok (.invokevirtual 44, 3) := by decide +kernel
theorem dX6_readCondition_33 : decode cX6_readCondition 33 = .ok (.istore 6, 2) := by decide +kernel
theorem dX6_readCondition_35 : decode cX6_readCondition 35 = .ok (.iload 6, 2) := by decide +kernel
theorem dX6_readCondition_37 : decode cX6_readCondition 37 = .ok (.bipush 38, 2) := by decide +kernel
theorem dX6_readCondition_39 : decode cX6_readCondition 39 = .ok (.if_icmp .eq 14, 3) := by decide +kernel
theorem dX6_readCondition_42 : decode cX6_readCondition 42 = .ok (.iload 4, 2) := by decide +kernel
theorem dX6_readCondition_44 : decode cX6_readCondition 44 = .ok (.ifCond .eq 9, 3) := by decide +kernel
theorem dX6_readCondition_47 : decode cX6_readCondition 47 = .ok (.aload_n 0, 1) := by decide +kernel
theorem dX6_readCondition_48 : decode cX6_readCondition 48 = .ok (.bipush (-18), 2) := by decide +kernel
theorem dX6_readCondition_50 : decode cX6_readCondition 50 = .ok (.invokevirtual 76, 3) := by decide +kernel
theorem dX6_readCondition_53 : decode cX6_readCondition 53 = .ok (.iload 6, 2) := by decide +kernel
theorem dX6_readCondition_55 : decode cX6_readCondition 55 = .ok (.bipush 38, 2) := by decide +kernel
theorem dX6_readCondition_57 : decode cX6_readCondition 57 = .ok (.if_icmp .eq 12, 3) := by decide +kernel
theorem dX6_readCondition_60 : decode cX6_readCondition 60 = .ok (.iload 6, 2) := by decide +kernel
theorem dX6_readCondition_62 : decode cX6_readCondition 62 = .ok (.bipush 124, 2) := by decide +kernel
theorem dX6_readCondition_64 : decode cX6_readCondition 64 = .ok (.if_icmp .eq 5, 3) := by decide +kernel
theorem dX6_readCondition_67 : decode cX6_readCondition 67 = .ok (.iconst 1, 1) := by decide +kernel
theorem dX6_readCondition_68 : decode cX6_readCondition 68 = .ok (.ireturn, 1) := by decide +kernel
theorem dX6_readCondition_69 : decode cX6_readCondition 69 = .ok (.aload_n 1, 1) := by decide +kernel
theorem dX6_readCondition_70 : decode cX6_readCondition 70 = .ok (.invokevirtual 48, 3) := by decide +kernel
theorem dX6_readCondition_73 : decode cX6_readCondition 73 = .ok (.aload_n 0, 1) := by decide +kernel
theorem dX6_readCondition_74 : decode cX6_readCondition 74 = .ok (.aload_n 1, 1) := by decide +kernel
theorem dX6_readCondition_75 : decode cX6_readCondition 75 = .ok (.iload_n 2, 1) := by decide +kernel
theorem dX6_readCondition_76 : decode cX6_readCondition 76 = .ok (.invokevirtual 73, 3) := by decide +kernel
theorem dX6_readCondition_79 : decode cX6_readCondition 79 = .ok (.ifCond .ne 5, 3) := by decide +kernel
theorem dX6_readCondition_82 : decode cX6_readCondition 82 = .ok (.iconst 0, 1) := by decide +kernel
theorem dX6_readCondition_83 : decode cX6_readCondition 83 = .ok (.ireturn, 1) := by decide +kernel
theorem dX6_readCondition_84 : decode cX6_readCondition 84 = .ok (.iload 6, 2) := by decide +kernel
theorem dX6_readCondition_86 : decode cX6_readCondition 86 = .ok (.bipush 38, 2) := by decide +kernel
theorem dX6_readCondition_88 : decode cX6_readCondition 88 = .ok (.if_icmp .ne 12, 3) := by decide +kernel
theorem dX6_readCondition_91 : decode cX6_readCondition 91 = .ok (.aload_n 0, 1) := by decide +kernel
theorem dX6_readCondition_92 : decode cX6_readCondition 92 = .ok (.bipush (-17), 2) := by decide +kernel
theorem dX6_readCondition_94 : decode cX6_readCondition 94 = .ok (.invokevirtual 76, 3) := by decide +kernel
theorem dX6_readCondition_97 : decode cX6_readCondition 97 = .ok (.goto 6, 3) := by decide +kernel
theorem dX6_readCondition_100 : decode cX6_readCondition 100 = .ok (.iconst 1, 1) := by decide +kernel
theorem dX6_readCondition_101 : decode cX6_readCondition 101 = .ok (.istore 4, 2) := by decide +kernel
theorem dX6_readCondition_103 : decode cX6_readCondition 103 = .ok (.iinc 5 1, 3) := by decide +kernel
theorem dX6_readCondition_106 : decode cX6_readCondition 106 = .ok (.goto (-85), 3) := by decide +kernel
theorem dX6_readCondition_109 : decode cX6_readCondition 109 = .ok (.aload_n 1, 1) := by decide +kernel
theorem dX6_readCondition_110 : decode cX6_readCondition 110 = .ok (.invokevirtual 80, 3) := by decide +kernel
theorem dX6_readCondition_113 : decode cX6_readCondition 113 = .ok (.ireturn, 1) := by decide +kernel
theorem dX6_readSum_0 : decode cX6_readSum 0 = .ok (.aload_n 0, 1) := by decide +kernel
theorem dX6_readSum_1 : decode cX6_readSum 1 = .ok (.aload_n 1, 1) := by decide +kernel
theorem dX6_readSum_2 : decode cX6_readSum 2 = .ok (.iload_n 2, 1) := by decide +kernel
theorem dX6_readSum_3 : decode cX6_readSum 3 = .ok (.invokevirtual 83, 3) := by decide +kernel
theorem dX6_readSum_6 : decode cX6_readSum 6 = .ok (.ifCond .ne 5, 3) := by decide +kernel
theorem dX6_readSum_9 : decode cX6_readSum 9 = .ok (.iconst 0, 1) := by decide +kernel
theorem dX6_readSum_10 : decode cX6_readSum 10 = .ok (.ireturn, 1) := by decide +kernel
theorem dX6_readSum_11 : decode cX6_readSum 11 = .ok (.iconst 0, 1) := by decide +kernel
theorem dX6_readSum_12 : decode cX6_readSum 12 = .ok (.istore_n 3, 1) := by decide +kernel
theorem dX6_readSum_13 : decode cX6_readSum 13 = .ok (.iconst 0, 1) := by decide +kernel
theorem dX6_readSum_14 : decode cX6_readSum 14 = .ok (.istore 4, 2) := by decide +kernel
theorem dX6_readSum_16 : decode cX6_readSum 16 = .ok (.iload 4, 2) := by decide +kernel
theorem dX6_readSum_18 : decode cX6_readSum 18 = .ok (.sipush 240, 3) := by decide +kernel
theorem dX6_readSum_21 : decode cX6_readSum 21 = .ok (.if_icmp .ge 127, 3) := by decide +kernel
theorem dX6_readSum_24 : decode cX6_readSum 24 = .ok (.aload_n 1, 1) := by decide +kernel
theorem dX6_readSum_25 : decode cX6_readSum 25 = .ok (.invokevirtual 44, 3) := by decide +kernel
theorem dX6_readSum_28 : decode cX6_readSum 28 = .ok (.istore 5, 2) := by decide +kernel
theorem dX6_readSum_30 : decode cX6_readSum 30 = .ok (.iload 5, 2) := by decide +kernel
theorem dX6_readSum_32 : decode cX6_readSum 32 = .ok (.bipush 42, 2) := by decide +kernel
theorem dX6_readSum_34 : decode cX6_readSum 34 = .ok (.if_icmp .eq 10, 3) := by decide +kernel
theorem dX6_readSum_37 : decode cX6_readSum 37 = .ok (.iload 5, 2) := by decide +kernel
theorem dX6_readSum_39 : decode cX6_readSum 39 = .ok (.bipush 47, 2) := by decide +kernel
theorem dX6_readSum_41 : decode cX6_readSum 41 = .ok (.if_icmp .ne 7, 3) := by decide +kernel
theorem dX6_readSum_44 : decode cX6_readSum 44 = .ok (.iconst 1, 1) := by decide +kernel
theorem dX6_readSum_45 : decode cX6_readSum 45 = .ok (.goto 4, 3) := by decide +kernel
theorem dX6_readSum_48 : decode cX6_readSum 48 = .ok (.iconst 0, 1) := by decide +kernel
theorem dX6_readSum_49 : decode cX6_readSum 49 = .ok (.istore 6, 2) := by decide +kernel
theorem dX6_readSum_51 : decode cX6_readSum 51 = .ok (.iload 6, 2) := by decide +kernel
theorem dX6_readSum_53 : decode cX6_readSum 53 = .ok (.ifCond .ne 12, 3) := by decide +kernel
theorem dX6_readSum_56 : decode cX6_readSum 56 = .ok (.iload_n 3, 1) := by decide +kernel
theorem dX6_readSum_57 : decode cX6_readSum 57 = .ok (.ifCond .eq 8, 3) := by decide +kernel
theorem dX6_readSum_60 : decode cX6_readSum 60 = .ok (.aload_n 0, 1) := by decide +kernel
theorem dX6_readSum_61 : decode cX6_readSum 61 = .ok (.iload_n 3, 1) := by decide +kernel
theorem dX6_readSum_62 : decode cX6_readSum 62 = .ok (.invokevirtual 76, 3) := by decide +kernel
theorem dX6_readSum_65 : decode cX6_readSum 65 = .ok (.iload 6, 2) := by decide +kernel
theorem dX6_readSum_67 : decode cX6_readSum 67 = .ok (.ifCond .ne 19, 3) := by decide +kernel
theorem dX6_readSum_70 : decode cX6_readSum 70 = .ok (.iload 5, 2) := by decide +kernel
theorem dX6_readSum_72 : decode cX6_readSum 72 = .ok (.bipush 43, 2) := by decide +kernel
theorem dX6_readSum_74 : decode cX6_readSum 74 = .ok (.if_icmp .eq 12, 3) := by decide +kernel
theorem dX6_readSum_77 : decode cX6_readSum 77 = .ok (.iload 5, 2) := by decide +kernel
theorem dX6_readSum_79 : decode cX6_readSum 79 = .ok (.bipush 45, 2) := by decide +kernel
theorem dX6_readSum_81 : decode cX6_readSum 81 = .ok (.if_icmp .eq 5, 3) := by decide +kernel
theorem dX6_readSum_84 : decode cX6_readSum 84 = .ok (.iconst 1, 1) := by decide +kernel
theorem dX6_readSum_85 : decode cX6_readSum 85 = .ok (.ireturn, 1) := by decide +kernel
theorem dX6_readSum_86 : decode cX6_readSum 86 = .ok (.aload_n 1, 1) := by decide +kernel
theorem dX6_readSum_87 : decode cX6_readSum 87 = .ok (.invokevirtual 48, 3) := by decide +kernel
theorem dX6_readSum_90 : decode cX6_readSum 90 = .ok (.aload_n 0, 1) := by decide +kernel
theorem dX6_readSum_91 : decode cX6_readSum 91 = .ok (.aload_n 1, 1) := by decide +kernel
theorem dX6_readSum_92 : decode cX6_readSum 92 = .ok (.iload_n 2, 1) := by decide +kernel
theorem dX6_readSum_93 : decode cX6_readSum 93 = .ok (.invokevirtual 83, 3) := by decide +kernel
theorem dX6_readSum_96 : decode cX6_readSum 96 = .ok (.ifCond .ne 5, 3) := by decide +kernel
theorem dX6_readSum_99 : decode cX6_readSum 99 = .ok (.iconst 0, 1) := by decide +kernel
theorem dX6_readSum_100 : decode cX6_readSum 100 = .ok (.ireturn, 1) := by decide +kernel
theorem dX6_readSum_101 : decode cX6_readSum 101 = .ok (.iload 6, 2) := by decide +kernel
theorem dX6_readSum_103 : decode cX6_readSum 103 = .ok (.ifCond .eq 24, 3) := by decide +kernel
theorem dX6_readSum_106 : decode cX6_readSum 106 = .ok (.aload_n 0, 1) := by decide +kernel
theorem dX6_readSum_107 : decode cX6_readSum 107 = .ok (.iload 5, 2) := by decide +kernel
theorem dX6_readSum_109 : decode cX6_readSum 109 = .ok (.bipush 42, 2) := by decide +kernel
theorem dX6_readSum_111 : decode cX6_readSum 111 = .ok (.if_icmp .ne 8, 3) := by decide +kernel
theorem dX6_readSum_114 : decode cX6_readSum 114 = .ok (.bipush (-12), 2) := by decide +kernel
theorem dX6_readSum_116 : decode cX6_readSum 116 = .ok (.goto 5, 3) := by decide +kernel
theorem dX6_readSum_119 : decode cX6_readSum 119 = .ok (.bipush (-13), 2) := by decide +kernel
theorem dX6_readSum_121 : decode cX6_readSum 121 = .ok (.invokevirtual 76, 3) := by decide +kernel
theorem dX6_readSum_124 : decode cX6_readSum 124 = .ok (.goto 18, 3) := by decide +kernel
theorem dX6_readSum_127 : decode cX6_readSum 127 = .ok (.iload 5, 2) := by decide +kernel
theorem dX6_readSum_129 : decode cX6_readSum 129 = .ok (.bipush 43, 2) := by decide +kernel
theorem dX6_readSum_131 : decode cX6_readSum 131 = .ok (.if_icmp .ne 8, 3) := by decide +kernel
theorem dX6_readSum_134 : decode cX6_readSum 134 = .ok (.bipush (-10), 2) := by decide +kernel
theorem dX6_readSum_136 : decode cX6_readSum 136 = .ok (.goto 5, 3) := by decide +kernel
theorem dX6_readSum_139 : decode cX6_readSum 139 = .ok (.bipush (-11), 2) := by decide +kernel
theorem dX6_readSum_141 : decode cX6_readSum 141 = .ok (.istore_n 3, 1) := by decide +kernel
theorem dX6_readSum_142 : decode cX6_readSum 142 = .ok (.iinc 4 1, 3) := by decide +kernel
theorem dX6_readSum_145 : decode cX6_readSum 145 = .ok (.goto (-129), 3) := by decide +kernel
theorem dX6_readSum_148 : decode cX6_readSum 148 = .ok (.aload_n 1, 1) := by decide +kernel
theorem dX6_readSum_149 : decode cX6_readSum 149 = .ok (.invokevirtual 80, 3) := by decide +kernel
theorem dX6_readSum_152 : decode cX6_readSum 152 = .ok (.ireturn, 1) := by decide +kernel
theorem dX6_readUnit_0 : decode cX6_readUnit 0 = .ok (.aload_n 1, 1) := by decide +kernel
theorem dX6_readUnit_1 : decode cX6_readUnit 1 = .ok (.invokevirtual 44, 3) := by decide +kernel
theorem dX6_readUnit_4 : decode cX6_readUnit 4 = .ok (.istore_n 3, 1) := by decide +kernel
theorem dX6_readUnit_5 : decode cX6_readUnit 5 = .ok (.iload_n 3, 1) := by decide +kernel
theorem dX6_readUnit_6 : decode cX6_readUnit 6 = .ok (.bipush 33, 2) := by decide +kernel
theorem dX6_readUnit_8 : decode cX6_readUnit 8 = .ok (.if_icmp .eq 33, 3) := by decide +kernel
theorem dX6_readUnit_11 : decode cX6_readUnit 11 = .ok (.iload_n 3, 1) := by decide +kernel
theorem dX6_readUnit_12 : decode cX6_readUnit 12 = .ok (.bipush 40, 2) := by decide +kernel
theorem dX6_readUnit_14 : decode cX6_readUnit 14 = .ok (.if_icmp .eq 27, 3) := by decide +kernel
theorem dX6_readUnit_17 : decode cX6_readUnit 17 = .ok (.aload_n 0, 1) := by decide +kernel
theorem dX6_readUnit_18 : decode cX6_readUnit 18 = .ok (.aload_n 1, 1) := by decide +kernel
theorem dX6_readUnit_19 : decode cX6_readUnit 19 = .ok (.iload_n 2, 1) := by decide +kernel
theorem dX6_readUnit_20 : decode cX6_readUnit 20 = .ok (.invokevirtual 59, 3) := by decide +kernel
theorem dX6_readUnit_23 : decode cX6_readUnit 23 = .ok (.ifCond .eq 16, 3) := by decide +kernel
theorem dX6_readUnit_26 : decode cX6_readUnit 26 = .ok (.aload_n 0, 1) := by decide +kernel
theorem dX6_readUnit_27 : decode cX6_readUnit 27 = .ok (.aload_n 1, 1) := by decide +kernel
theorem dX6_readUnit_28 : decode cX6_readUnit 28 = .ok (.iload_n 2, 1) := by decide +kernel
theorem dX6_readUnit_29 : decode cX6_readUnit 29 = .ok (.invokevirtual 66, 3) := by decide +kernel
theorem dX6_readUnit_32 : decode cX6_readUnit 32 = .ok (.ifCond .eq 7, 3) := by decide +kernel
theorem dX6_readUnit_35 : decode cX6_readUnit 35 = .ok (.iconst 1, 1) := by decide +kernel
theorem dX6_readUnit_36 : decode cX6_readUnit 36 = .ok (.goto 4, 3) := by decide +kernel
theorem dX6_readUnit_39 : decode cX6_readUnit 39 = .ok (.iconst 0, 1) := by decide +kernel
theorem dX6_readUnit_40 : decode cX6_readUnit 40 = .ok (.ireturn, 1) := by decide +kernel
theorem dX6_readUnit_41 : decode cX6_readUnit 41 = .ok (.iload_n 2, 1) := by decide +kernel
theorem dX6_readUnit_42 : decode cX6_readUnit 42 = .ok (.bipush 6, 2) := by decide +kernel
theorem dX6_readUnit_44 : decode cX6_readUnit 44 = .ok (.if_icmp .lt 8, 3) := by decide +kernel
theorem dX6_readUnit_47 : decode cX6_readUnit 47 = .ok (.aload_n 1, 1) := by decide +kernel
theorem dX6_readUnit_48 : decode cX6_readUnit 48 = .ok (.invokevirtual 80, 3) := by decide +kernel
theorem dX6_readUnit_51 : decode cX6_readUnit 51 = .ok (.ireturn, 1) := by decide +kernel
theorem dX6_readUnit_52 : decode cX6_readUnit 52 = .ok (.aload_n 1, 1) := by decide +kernel
theorem dX6_readUnit_53 : decode cX6_readUnit 53 = .ok (.invokevirtual 48, 3) := by decide +kernel
theorem dX6_readUnit_56 : decode cX6_readUnit 56 = .ok (.iload_n 3, 1) := by decide +kernel
theorem dX6_readUnit_57 : decode cX6_readUnit 57 = .ok (.bipush 40, 2) := by decide +kernel
theorem dX6_readUnit_59 : decode cX6_readUnit 59 = .ok (.if_icmp .ne 30, 3) := by decide +kernel
theorem dX6_readUnit_62 : decode cX6_readUnit 62 = .ok (.aload_n 0, 1) := by decide +kernel
theorem dX6_readUnit_63 : decode cX6_readUnit 63 = .ok (.aload_n 1, 1) := by decide +kernel
theorem dX6_readUnit_64 : decode cX6_readUnit 64 = .ok (.iload_n 2, 1) := by decide +kernel
theorem dX6_readUnit_65 : decode cX6_readUnit 65 = .ok (.iconst 1, 1) := by decide +kernel
theorem dX6_readUnit_66 : decode cX6_readUnit 66 = .ok (.iadd, 1) := by decide +kernel
theorem dX6_readUnit_67 : decode cX6_readUnit 67 = .ok (.iconst 0, 1) := by decide +kernel
theorem dX6_readUnit_68 : decode cX6_readUnit 68 = .ok (.invokevirtual 69, 3) := by decide +kernel
theorem dX6_readUnit_71 : decode cX6_readUnit 71 = .ok (.ifCond .eq 16, 3) := by decide +kernel
theorem dX6_readUnit_74 : decode cX6_readUnit 74 = .ok (.aload_n 1, 1) := by decide +kernel
theorem dX6_readUnit_75 : decode cX6_readUnit 75 = .ok (.bipush 41, 2) := by decide +kernel
theorem dX6_readUnit_77 : decode cX6_readUnit 77 = .ok (.invokevirtual 55, 3) := by decide +kernel
theorem dX6_readUnit_80 : decode cX6_readUnit 80 = .ok (.ifCond .eq 7, 3) := by decide +kernel
theorem dX6_readUnit_83 : decode cX6_readUnit 83 = .ok (.iconst 1, 1) := by decide +kernel
theorem dX6_readUnit_84 : decode cX6_readUnit 84 = .ok (.goto 4, 3) := by decide +kernel
theorem dX6_readUnit_87 : decode cX6_readUnit 87 = .ok (.iconst 0, 1) := by decide +kernel
theorem dX6_readUnit_88 : decode cX6_readUnit 88 = .ok (.ireturn, 1) := by decide +kernel
theorem dX6_readUnit_89 : decode cX6_readUnit 89 = .ok (.aload_n 0, 1) := by decide +kernel
theorem dX6_readUnit_90 : decode cX6_readUnit 90 = .ok (.aload_n 1, 1) := by decide +kernel
theorem dX6_readUnit_91 : decode cX6_readUnit 91 = .ok (.iload_n 2, 1) := by decide +kernel
theorem dX6_readUnit_92 : decode cX6_readUnit 92 = .ok (.iconst 1, 1) := by decide +kernel
theorem dX6_readUnit_93 : decode cX6_readUnit 93 = .ok (.iadd, 1) := by decide +kernel
theorem dX6_readUnit_94 : decode cX6_readUnit 94 = .ok (.invokevirtual 73, 3) := by decide +kernel
theorem dX6_readUnit_97 : decode cX6_readUnit 97 = .ok (.ifCond .ne 5, 3) := by decide +kernel
theorem dX6_readUnit_100 : decode cX6_readUnit 100 = .ok (.iconst 0, 1) := by decide +kernel
theorem dX6_readUnit_101 : decode cX6_readUnit 101 = .ok (.ireturn, 1) := by decide +kernel
theorem dX6_readUnit_102 : decode cX6_readUnit 102 = .ok (.aload_n 0, 1) := by decide +kernel
theorem dX6_readUnit_103 : decode cX6_readUnit 103 = .ok (.bipush (-19), 2) := by decide +kernel
theorem dX6_readUnit_105 : decode cX6_readUnit 105 = .ok (.invokevirtual 76, 3) := by decide +kernel
theorem dX6_readUnit_108 : decode cX6_readUnit 108 = .ok (.iconst 1, 1) := by decide +kernel
theorem dX6_readUnit_109 : decode cX6_readUnit 109 = .ok (.ireturn, 1) := by decide +kernel
theorem wl_3_177 : (.methodLink RX4 129 yX4_layOut : Cond) ∈ sg_tbl := tb_3 _ (List.mem_of_getElem? (i := 177) (by decide +kernel)) (by decide +kernel)
theorem wl_3_40 : (.methodLink RX4 59 arraycopyName : Cond) ∈ sg_tbl := tb_3 _ (List.mem_of_getElem? (i := 40) (by decide +kernel)) (by decide +kernel)
theorem wl_3_38 : (.fieldLink RX4 56 "LawnAhead$Ground" "USUAL" "[I" : Cond) ∈ sg_tbl := tb_3 _ (List.mem_of_getElem? (i := 38) (by decide +kernel)) (by decide +kernel)
theorem wl_3_71 : (.methodLink RX4 101 yJ0_indexOf_0f7a4 : Cond) ∈ sg_tbl := tb_3 _ (List.mem_of_getElem? (i := 71) (by decide +kernel)) (by decide +kernel)
theorem wl_3_155 : (.fieldLink RX4 107 "LawnAhead$Ground" "LEAST" "[I" : Cond) ∈ sg_tbl := tb_3 _ (List.mem_of_getElem? (i := 155) (by decide +kernel)) (by decide +kernel)
theorem wl_3_157 : (.fieldLink RX4 110 "LawnAhead$Ground" "MOST" "[I" : Cond) ∈ sg_tbl := tb_3 _ (List.mem_of_getElem? (i := 157) (by decide +kernel)) (by decide +kernel)
theorem wl_3_55 : (.methodLink RX4 89 yX10_wrong : Cond) ∈ sg_tbl := tb_3 _ (List.mem_of_getElem? (i := 55) (by decide +kernel)) (by decide +kernel)
theorem wl_3_51 : (.methodLink RX4 85 yX4_mayCome : Cond) ∈ sg_tbl := tb_3 _ (List.mem_of_getElem? (i := 51) (by decide +kernel)) (by decide +kernel)
theorem wl_3_163 : (.methodLink RX4 95 yX4_readSpot : Cond) ∈ sg_tbl := tb_3 _ (List.mem_of_getElem? (i := 163) (by decide +kernel)) (by decide +kernel)
theorem wl_3_66 : (.methodLink RX4 92 yX4_readRules : Cond) ∈ sg_tbl := tb_3 _ (List.mem_of_getElem? (i := 66) (by decide +kernel)) (by decide +kernel)
theorem wl_3_30 : (.methodLink RX4 27 yX10_rewind : Cond) ∈ sg_tbl := tb_3 _ (List.mem_of_getElem? (i := 30) (by decide +kernel)) (by decide +kernel)
theorem wl_3_34 : (.methodLink RX4 32 yX4_clear : Cond) ∈ sg_tbl := tb_3 _ (List.mem_of_getElem? (i := 34) (by decide +kernel)) (by decide +kernel)
theorem wl_3_167 : (.methodLink RX4 46 yX10_ended : Cond) ∈ sg_tbl := tb_3 _ (List.mem_of_getElem? (i := 167) (by decide +kernel)) (by decide +kernel)
theorem wl_3_173 : (.methodLink RX4 50 yX4_isWhole : Cond) ∈ sg_tbl := tb_3 _ (List.mem_of_getElem? (i := 173) (by decide +kernel)) (by decide +kernel)
theorem wl_3_201 : (.methodLink RX4 53 yX10_wrongAsWhole : Cond) ∈ sg_tbl := tb_3 _ (List.mem_of_getElem? (i := 201) (by decide +kernel)) (by decide +kernel)
theorem wl_3_43 : (.methodLink RX4 35 yX4_readClause : Cond) ∈ sg_tbl := tb_3 _ (List.mem_of_getElem? (i := 43) (by decide +kernel)) (by decide +kernel)
theorem wl_3_237 : (.methodLink RX6 97 Lib.Math.max.name : Cond) ∈ sg_tbl := tb_3 _ (List.mem_of_getElem? (i := 237) (by decide +kernel)) (by decide +kernel)
theorem wl_3_219 : (.methodLink RX6 44 yX10_sign : Cond) ∈ sg_tbl := tb_3 _ (List.mem_of_getElem? (i := 219) (by decide +kernel)) (by decide +kernel)
theorem wl_3_231 : (.methodLink RX6 88 yJ0_indexOf_0f7a4 : Cond) ∈ sg_tbl := tb_3 _ (List.mem_of_getElem? (i := 231) (by decide +kernel)) (by decide +kernel)
theorem wl_3_236 : (.methodLink RX6 93 yX10_number : Cond) ∈ sg_tbl := tb_3 _ (List.mem_of_getElem? (i := 236) (by decide +kernel)) (by decide +kernel)
theorem wl_3_232 : (.methodLink RX6 76 yX6_put : Cond) ∈ sg_tbl := tb_3 _ (List.mem_of_getElem? (i := 232) (by decide +kernel)) (by decide +kernel)
theorem wl_1_72 : (.fieldLink RX6 33 "LawnAhead$Law" "usesDay" "Z" : Cond) ∈ sg_tbl := tb_1 _ (List.mem_of_getElem? (i := 72) (by decide +kernel)) (by decide +kernel)
theorem wl_3_229 : (.methodLink RX6 48 yX10_step : Cond) ∈ sg_tbl := tb_3 _ (List.mem_of_getElem? (i := 229) (by decide +kernel)) (by decide +kernel)
theorem wl_3_228 : (.methodLink RX6 80 yX10_wrong : Cond) ∈ sg_tbl := tb_3 _ (List.mem_of_getElem? (i := 228) (by decide +kernel)) (by decide +kernel)
theorem wl_3_224 : (.methodLink RX6 83 yX6_readAtom : Cond) ∈ sg_tbl := tb_3 _ (List.mem_of_getElem? (i := 224) (by decide +kernel)) (by decide +kernel)
theorem wl_3_238 : (.methodLink RX6 62 yX6_comparison : Cond) ∈ sg_tbl := tb_3 _ (List.mem_of_getElem? (i := 238) (by decide +kernel)) (by decide +kernel)
theorem wl_3_220 : (.methodLink RX6 59 yX6_readSum : Cond) ∈ sg_tbl := tb_3 _ (List.mem_of_getElem? (i := 220) (by decide +kernel)) (by decide +kernel)
theorem wl_4_1 : (.methodLink RX6 66 yX6_readComparison : Cond) ∈ sg_tbl := tb_4 _ (List.mem_of_getElem? (i := 1) (by decide +kernel)) (by decide +kernel)
theorem wl_4_9 : (.methodLink RX6 73 yX6_readUnit : Cond) ∈ sg_tbl := tb_4 _ (List.mem_of_getElem? (i := 9) (by decide +kernel)) (by decide +kernel)
theorem wl_4_5 : (.methodLink RX6 69 yX6_readCondition : Cond) ∈ sg_tbl := tb_4 _ (List.mem_of_getElem? (i := 5) (by decide +kernel)) (by decide +kernel)
theorem wl_3_214 : (.methodLink RX6 55 yX10_demand : Cond) ∈ sg_tbl := tb_3 _ (List.mem_of_getElem? (i := 214) (by decide +kernel)) (by decide +kernel)
theorem wl_3_176 : (.code yX4_isWhole cX4_isWhole 1 (some .boolean) : Cond) ∈ sg_tbl := tb_3 _ (List.mem_of_getElem? (i := 176) (by decide +kernel)) (by decide +kernel)
theorem wl_3_175 : (.instanceMethod yX4_isWhole : Cond) ∈ sg_tbl := tb_3 _ (List.mem_of_getElem? (i := 175) (by decide +kernel)) (by decide +kernel)
theorem wl_0_5 : (.selects RX4 yX4_isWhole yX4_isWhole : Cond) ∈ sg_tbl := tb_0 _ (List.mem_of_getElem? (i := 5) (by decide +kernel)) (by decide +kernel)
theorem wl_3_37 : (.code yX4_clear cX4_clear 1 none : Cond) ∈ sg_tbl := tb_3 _ (List.mem_of_getElem? (i := 37) (by decide +kernel)) (by decide +kernel)
theorem wl_3_36 : (.instanceMethod yX4_clear : Cond) ∈ sg_tbl := tb_3 _ (List.mem_of_getElem? (i := 36) (by decide +kernel)) (by decide +kernel)
theorem wl_0_0 : (.selects RX4 yX4_clear yX4_clear : Cond) ∈ sg_tbl := tb_0 _ (List.mem_of_getElem? (i := 0) (by decide +kernel)) (by decide +kernel)
theorem wl_3_69 : (.code yX4_readRules cX4_readRules 6 (some .boolean) : Cond) ∈ sg_tbl := tb_3 _ (List.mem_of_getElem? (i := 69) (by decide +kernel)) (by decide +kernel)
theorem wl_3_68 : (.instanceMethod yX4_readRules : Cond) ∈ sg_tbl := tb_3 _ (List.mem_of_getElem? (i := 68) (by decide +kernel)) (by decide +kernel)
theorem wl_0_3 : (.selects RX4 yX4_readRules yX4_readRules : Cond) ∈ sg_tbl := tb_0 _ (List.mem_of_getElem? (i := 3) (by decide +kernel)) (by decide +kernel)
theorem wl_3_46 : (.code yX4_readClause cX4_readClause 3 (some .boolean) : Cond) ∈ sg_tbl := tb_3 _ (List.mem_of_getElem? (i := 46) (by decide +kernel)) (by decide +kernel)
theorem wl_3_45 : (.instanceMethod yX4_readClause : Cond) ∈ sg_tbl := tb_3 _ (List.mem_of_getElem? (i := 45) (by decide +kernel)) (by decide +kernel)
theorem wl_0_1 : (.selects RX4 yX4_readClause yX4_readClause : Cond) ∈ sg_tbl := tb_0 _ (List.mem_of_getElem? (i := 1) (by decide +kernel)) (by decide +kernel)
theorem wl_3_29 : (.code yX4_read cX4_read 3 (some .boolean) : Cond) ∈ sg_tbl := tb_3 _ (List.mem_of_getElem? (i := 29) (by decide +kernel)) (by decide +kernel)
theorem wl_3_27 : (.instanceMethod yX4_read : Cond) ∈ sg_tbl := tb_3 _ (List.mem_of_getElem? (i := 27) (by decide +kernel)) (by decide +kernel)
theorem wl_3_28 : (.selects RX4 yX4_read yX4_read : Cond) ∈ sg_tbl := tb_3 _ (List.mem_of_getElem? (i := 28) (by decide +kernel)) (by decide +kernel)
theorem wl_3_227 : (.code yX6_readAtom cX6_readAtom 6 (some .boolean) : Cond) ∈ sg_tbl := tb_3 _ (List.mem_of_getElem? (i := 227) (by decide +kernel)) (by decide +kernel)
theorem wl_3_226 : (.instanceMethod yX6_readAtom : Cond) ∈ sg_tbl := tb_3 _ (List.mem_of_getElem? (i := 226) (by decide +kernel)) (by decide +kernel)
theorem wl_0_12 : (.selects RX6 yX6_readAtom yX6_readAtom : Cond) ∈ sg_tbl := tb_0 _ (List.mem_of_getElem? (i := 12) (by decide +kernel)) (by decide +kernel)
theorem wl_3_223 : (.code yX6_readSum cX6_readSum 7 (some .boolean) : Cond) ∈ sg_tbl := tb_3 _ (List.mem_of_getElem? (i := 223) (by decide +kernel)) (by decide +kernel)
theorem wl_3_222 : (.instanceMethod yX6_readSum : Cond) ∈ sg_tbl := tb_3 _ (List.mem_of_getElem? (i := 222) (by decide +kernel)) (by decide +kernel)
theorem wl_0_11 : (.selects RX6 yX6_readSum yX6_readSum : Cond) ∈ sg_tbl := tb_0 _ (List.mem_of_getElem? (i := 11) (by decide +kernel)) (by decide +kernel)
theorem wl_4_4 : (.code yX6_readComparison cX6_readComparison 4 (some .boolean) : Cond) ∈ sg_tbl := tb_4 _ (List.mem_of_getElem? (i := 4) (by decide +kernel)) (by decide +kernel)
theorem wl_4_3 : (.instanceMethod yX6_readComparison : Cond) ∈ sg_tbl := tb_4 _ (List.mem_of_getElem? (i := 3) (by decide +kernel)) (by decide +kernel)
theorem wl_0_14 : (.selects RX6 yX6_readComparison yX6_readComparison : Cond) ∈ sg_tbl := tb_0 _ (List.mem_of_getElem? (i := 14) (by decide +kernel)) (by decide +kernel)
theorem wl_4_12 : (.code yX6_readUnit cX6_readUnit 4 (some .boolean) : Cond) ∈ sg_tbl := tb_4 _ (List.mem_of_getElem? (i := 12) (by decide +kernel)) (by decide +kernel)
theorem wl_4_11 : (.instanceMethod yX6_readUnit : Cond) ∈ sg_tbl := tb_4 _ (List.mem_of_getElem? (i := 11) (by decide +kernel)) (by decide +kernel)
theorem wl_0_16 : (.selects RX6 yX6_readUnit yX6_readUnit : Cond) ∈ sg_tbl := tb_0 _ (List.mem_of_getElem? (i := 16) (by decide +kernel)) (by decide +kernel)
theorem wl_4_8 : (.code yX6_readCondition cX6_readCondition 7 (some .boolean) : Cond) ∈ sg_tbl := tb_4 _ (List.mem_of_getElem? (i := 8) (by decide +kernel)) (by decide +kernel)
theorem wl_4_7 : (.instanceMethod yX6_readCondition : Cond) ∈ sg_tbl := tb_4 _ (List.mem_of_getElem? (i := 7) (by decide +kernel)) (by decide +kernel)
theorem wl_0_15 : (.selects RX6 yX6_readCondition yX6_readCondition : Cond) ∈ sg_tbl := tb_0 _ (List.mem_of_getElem? (i := 15) (by decide +kernel)) (by decide +kernel)
section
variable {p : Program} {l : Launch} {e : Env} {R : Room} {s : State} {m : MethodId} {args : Array Value} {below : List Frame} {meth : Method} {c : Code} {H : Heap} {locs : List Loc} {cells slots : Nat} {Q : State → Prop} {cc : ByteArray} {nL pc : Nat} {ls : Array Slot} {rest : List Value} {own : String} {D : va_G} {A : Nat → Prop} {tys : List (ClassId × FieldType)} {ad ks : List Nat} {P : sgPm} {H0 : Heap} {index : Nat} {base : Nat} {st0 : List Value} {a : Nat}
theorem gf_X4_0h   (X : CallFix p m c cc nL s args sg_tbl own) (hK : va_K D vwCl tys s) (hG : sgG (KT P) D vwCl A tys ad ks H) (ha : isK ad ks 4 a) (hl : Cond.fieldLink own index "LawnAhead$Ground" "rules" "[I" ∈ sg_tbl) (hdg : decode cc pc = .ok (.getfield index, 3)) (kk : ∀ x : Nat, isK ad ks 21 x → fld D H 4 a 0 (.ref x) → gof (KT P) 4 a 0 (.ref x) → W p l e R s m args below meth c H locs cells slots Q (F0 m (pc + 3) ls (.ref x :: rest))) : W p l e R s m args below meth c H locs cells slots Q (F0 m pc ls (.ref a :: rest)) :=
  sg_getH X hK hG ha (k := 4) (ci := 4) rfl (C := RX4) (T := TX4) (N := 15) rfl inL_X4 0 (by decide) rfl hl (fun _ h => h) hdg (fun v hv hf hg => by
    obtain ⟨h1, -⟩ | ⟨x, rfl, hx⟩ := hv
    · cases h1
    · exact kk x hx hf hg)
theorem gg_X4_6   (X : CallFix p m c cc nL s args sg_tbl own) (hK : va_K D vwCl tys s) (hG : sgG (KT P) D vwCl A tys ad ks H) (ha : isK ad ks 4 a) (hl : Cond.fieldLink own index "LawnAhead$Ground" "all" "I" ∈ sg_tbl) {v : Value} (hf : fld D H 4 a 6 v) (hdg : decode cc pc = .ok (.getfield index, 3)) (kk : W p l e R s m args below meth c H locs cells slots Q (F0 m (pc + 3) ls (v :: rest))) : W p l e R s m args below meth c H locs cells slots Q (F0 m pc ls (.ref a :: rest)) :=
  sg_getf X hK hG ha (k := 4) (ci := 4) rfl (C := RX4) (T := TX4) (N := 15) rfl inL_X4 6 (by decide) (show 6 < 15 by decide) hl (fun _ h => h) hf hdg kk
theorem gg_X4_8   (X : CallFix p m c cc nL s args sg_tbl own) (hK : va_K D vwCl tys s) (hG : sgG (KT P) D vwCl A tys ad ks H) (ha : isK ad ks 4 a) (hl : Cond.fieldLink own index "LawnAhead$Ground" "height" "I" ∈ sg_tbl) {v : Value} (hf : fld D H 4 a 8 v) (hdg : decode cc pc = .ok (.getfield index, 3)) (kk : W p l e R s m args below meth c H locs cells slots Q (F0 m (pc + 3) ls (v :: rest))) : W p l e R s m args below meth c H locs cells slots Q (F0 m pc ls (.ref a :: rest)) :=
  sg_getf X hK hG ha (k := 4) (ci := 4) rfl (C := RX4) (T := TX4) (N := 15) rfl inL_X4 8 (by decide) (show 8 < 15 by decide) hl (fun _ h => h) hf hdg kk
theorem pf_X4_11  {x : Int32}  (X : CallFix p m c cc nL s args sg_tbl own) (hK : va_K D vwCl tys s) (hG : sgG (KT P) D vwCl A tys ad ks H) (hS : va_S A H0 H locs) (ha : isK ad ks 4 a) (hl : Cond.fieldLink own index "LawnAhead$Ground" "ruled" "Z" ∈ sg_tbl) (hv : okV ad ks (.inl (0, 1)) (.int x)) (hdg : decode cc pc = .ok (.putfield index, 3)) (kk : ∀ (H1 : Heap) (locs1 : List Loc), sgG (KT P) D vwCl A tys ad ks H1 → va_S A H0 H1 locs1 → fld D H1 4 a 11 (.int x) → sgFr (KT P) D vwCl ad ks H H1 (fun a' j' => a' = a ∧ j' = 11) → W p l e R s m args below meth c H1 locs1 cells slots Q (F0 m (pc + 3) ls rest)) : W p l e R s m args below meth c H locs cells slots Q (F0 m pc ls (.int x :: .ref a :: rest)) :=
  sg_put X hK hG hS ha (k := 4) (ci := 4) rfl (C := RX4) (T := TX4) (N := 15) rfl inL_X4 tyX4 tyX4_ok nmX4 11 (by decide) rfl hl (fun _ h => h) rfl (ty := .boolean) rfl (by obtain ⟨y, h1, h2⟩ := hv; cases h1; exact sg_zn h2) (by obtain ⟨y, h1, h2⟩ := hv; cases h1; rcases iv_01 h2 with rfl | rfl <;> rfl) hv hdg kk
theorem pf_X4_5  {x : Int32}  (X : CallFix p m c cc nL s args sg_tbl own) (hK : va_K D vwCl tys s) (hG : sgG (KT P) D vwCl A tys ad ks H) (hS : va_S A H0 H locs) (ha : isK ad ks 4 a) (hl : Cond.fieldLink own index "LawnAhead$Ground" "cells" "I" ∈ sg_tbl) (hv : okV ad ks (.inl (0, 30)) (.int x)) (hgo : gof (KT P) 4 a 5 (.int x)) (hdg : decode cc pc = .ok (.putfield index, 3)) (kk : ∀ (H1 : Heap) (locs1 : List Loc), sgG (KT P) D vwCl A tys ad ks H1 → va_S A H0 H1 locs1 → fld D H1 4 a 5 (.int x) → sgFr (KT P) D vwCl ad ks H H1 (fun a' j' => a' = a ∧ j' = 5) → W p l e R s m args below meth c H1 locs1 cells slots Q (F0 m (pc + 3) ls rest)) : W p l e R s m args below meth c H locs cells slots Q (F0 m pc ls (.int x :: .ref a :: rest)) :=
  sg_put (hgo := hgo) X hK hG hS ha (k := 4) (ci := 4) rfl (C := RX4) (T := TX4) (N := 15) rfl inL_X4 tyX4 tyX4_ok nmX4 5 (by decide) rfl hl (fun _ h => h) rfl (ty := .int) rfl rfl rfl hv hdg kk
theorem pf_X4_6  {x : Int32}  (X : CallFix p m c cc nL s args sg_tbl own) (hK : va_K D vwCl tys s) (hG : sgG (KT P) D vwCl A tys ad ks H) (hS : va_S A H0 H locs) (ha : isK ad ks 4 a) (hl : Cond.fieldLink own index "LawnAhead$Ground" "all" "I" ∈ sg_tbl) (hv : okV ad ks (.inl ((-2147483648), 2147483647)) (.int x)) (hdg : decode cc pc = .ok (.putfield index, 3)) (kk : ∀ (H1 : Heap) (locs1 : List Loc), sgG (KT P) D vwCl A tys ad ks H1 → va_S A H0 H1 locs1 → fld D H1 4 a 6 (.int x) → sgFr (KT P) D vwCl ad ks H H1 (fun a' j' => a' = a ∧ j' = 6) → W p l e R s m args below meth c H1 locs1 cells slots Q (F0 m (pc + 3) ls rest)) : W p l e R s m args below meth c H locs cells slots Q (F0 m pc ls (.int x :: .ref a :: rest)) :=
  sg_put X hK hG hS ha (k := 4) (ci := 4) rfl (C := RX4) (T := TX4) (N := 15) rfl inL_X4 tyX4 tyX4_ok nmX4 6 (by decide) rfl hl (fun _ h => h) rfl (ty := .int) rfl rfl rfl hv hdg kk
theorem pf_X4_7  {x : Int32}  (X : CallFix p m c cc nL s args sg_tbl own) (hK : va_K D vwCl tys s) (hG : sgG (KT P) D vwCl A tys ad ks H) (hS : va_S A H0 H locs) (ha : isK ad ks 4 a) (hl : Cond.fieldLink own index "LawnAhead$Ground" "width" "I" ∈ sg_tbl) (hv : okV ad ks (.inl ((-2147483648), 2147483647)) (.int x)) (hdg : decode cc pc = .ok (.putfield index, 3)) (kk : ∀ (H1 : Heap) (locs1 : List Loc), sgG (KT P) D vwCl A tys ad ks H1 → va_S A H0 H1 locs1 → fld D H1 4 a 7 (.int x) → sgFr (KT P) D vwCl ad ks H H1 (fun a' j' => a' = a ∧ j' = 7) → W p l e R s m args below meth c H1 locs1 cells slots Q (F0 m (pc + 3) ls rest)) : W p l e R s m args below meth c H locs cells slots Q (F0 m pc ls (.int x :: .ref a :: rest)) :=
  sg_put X hK hG hS ha (k := 4) (ci := 4) rfl (C := RX4) (T := TX4) (N := 15) rfl inL_X4 tyX4 tyX4_ok nmX4 7 (by decide) rfl hl (fun _ h => h) rfl (ty := .int) rfl rfl rfl hv hdg kk
theorem pf_X4_8  {x : Int32}  (X : CallFix p m c cc nL s args sg_tbl own) (hK : va_K D vwCl tys s) (hG : sgG (KT P) D vwCl A tys ad ks H) (hS : va_S A H0 H locs) (ha : isK ad ks 4 a) (hl : Cond.fieldLink own index "LawnAhead$Ground" "height" "I" ∈ sg_tbl) (hv : okV ad ks (.inl ((-2147483648), 2147483647)) (.int x)) (hdg : decode cc pc = .ok (.putfield index, 3)) (kk : ∀ (H1 : Heap) (locs1 : List Loc), sgG (KT P) D vwCl A tys ad ks H1 → va_S A H0 H1 locs1 → fld D H1 4 a 8 (.int x) → sgFr (KT P) D vwCl ad ks H H1 (fun a' j' => a' = a ∧ j' = 8) → W p l e R s m args below meth c H1 locs1 cells slots Q (F0 m (pc + 3) ls rest)) : W p l e R s m args below meth c H locs cells slots Q (F0 m pc ls (.int x :: .ref a :: rest)) :=
  sg_put X hK hG hS ha (k := 4) (ci := 4) rfl (C := RX4) (T := TX4) (N := 15) rfl inL_X4 tyX4 tyX4_ok nmX4 8 (by decide) rfl hl (fun _ h => h) rfl (ty := .int) rfl rfl rfl hv hdg kk
theorem pf_X6_6  {x : Int32}  (X : CallFix p m c cc nL s args sg_tbl own) (hK : va_K D vwCl tys s) (hG : sgG (KT P) D vwCl A tys ad ks H) (hS : va_S A H0 H locs) (ha : isK ad ks 6 a) (hl : Cond.fieldLink own index "LawnAhead$Law" "usesDay" "Z" ∈ sg_tbl) (hv : okV ad ks (.inl (0, 1)) (.int x)) (hdg : decode cc pc = .ok (.putfield index, 3)) (kk : ∀ (H1 : Heap) (locs1 : List Loc), sgG (KT P) D vwCl A tys ad ks H1 → va_S A H0 H1 locs1 → fld D H1 6 a 6 (.int x) → sgFr (KT P) D vwCl ad ks H H1 (fun a' j' => a' = a ∧ j' = 6) → W p l e R s m args below meth c H1 locs1 cells slots Q (F0 m (pc + 3) ls rest)) : W p l e R s m args below meth c H locs cells slots Q (F0 m pc ls (.int x :: .ref a :: rest)) :=
  sg_put X hK hG hS ha (k := 6) (ci := 6) rfl (C := RX6) (T := TX6) (N := 7) rfl inL_X6 tyX6 tyX6_ok nmX6 6 (by decide) rfl hl (fun _ h => h) rfl (ty := .boolean) rfl (by obtain ⟨y, h1, h2⟩ := hv; cases h1; exact sg_zn h2) (by obtain ⟨y, h1, h2⟩ := hv; cases h1; rcases iv_01 h2 with rfl | rfl <;> rfl) hv hdg kk
theorem as_21  {i : Int32} {x : Int32}  (X : CallFix p m c cc nL s args sg_tbl own) (hK : va_K D vwCl tys s) (hG : sgG (KT P) D vwCl A tys ad ks H) (hS : va_S A H0 H locs) (ha : isK ad ks 21 a) (hin : vp_in i 7) (hv : okV ad ks ((fun i => if i = 0 then .inl (0, 6) else if i = 1 then .inl (0, 5) else if i = 2 then .inl (0, 5) else if i = 3 then .inl (0, 5) else if i = 6 then .inl (0, 1) else .inl (0, 8) : Nat → sgT) i.toNatClampNeg) (.int x)) (hgo : gof (KT P) 21 a i.toNatClampNeg (.int x)) (hdg : decode cc pc = .ok (.iastore, 1)) (kk : ∀ (H1 : Heap) (locs1 : List Loc), sgG (KT P) D vwCl A tys ad ks H1 → va_S A H0 H1 locs1 → sgFr (KT P) D vwCl ad ks H H1 (fun _ _ => False) → W p l e R s m args below meth c H1 locs1 cells slots Q (F0 m (pc + 1) ls rest)) : W p l e R s m args below meth c H locs cells slots Q (F0 m pc ls (.int x :: .int i :: .ref a :: rest)) :=
  sg_iast (hgo := hgo) X hK hG hS ha (k := 21) rfl hin hv hdg kk
set_option maxHeartbeats 8000000 in
set_option maxRecDepth 100000 in
theorem m_X4_isWhole (l : Launch) {D : va_G} {base : Nat} {tys : List (ClassId × FieldType)} {ad ks : List Nat} {P : sgPm} (a0 : Nat) (h0 : isK ad ks 4 a0) (hnp : sgNp (sgGm P) a0) : sgMi l (KT P) D vwCl base tys ad ks yX4_isWhole cX4_isWhole 1 (some .boolean) ({ frames := 2, cells := 0, slots := 0, locals := 48 }) [.ref a0] (fun r : Int32 => iv 0 1 r) := by
  refine sg_ofW (by decide +kernel) (Nat.le_of_ble_eq_true rfl) (fun p e s m below meth c X hr hlk hb hK hC hG ls hl => ?_)
  have hS : va_S (fun q : Nat => base ≤ q) s.heap s.heap [] := va_S.rf
  have hl : lv_has ls 1 [(0, .ref a0)] := hl
  refine lv_aload_n X.1 X.2.1 dX4_isWhole_0 rfl (lv_at hl 0 rfl) ?_
  refine lv_aload_n X.1 X.2.1 dX4_isWhole_1 rfl (lv_at hl 0 rfl) ?_
  refine gf_X4_0h X hK hG h0 wl_1_209 dX4_isWhole_2 (fun q1 hq1 kq1 gq1 => ?_)
  refine lv_iconst (v := 0) X.1 X.2.1 dX4_isWhole_5 (by decide +kernel) ?_
  refine al_21 X hK hG hq1 (iv_vpin (iv_c 0 (a := 0) (b := 0) (by decide +kernel)) (by decide +kernel)) dX4_isWhole_6 (fun f2 hf2 => ?_)
  have of2 := hf2
  have hf2 : iv 0 6 f2 := sg_sp_rules hf2 (iv_c 0 (a := 0) (b := 0) (by decide +kernel)) (by decide +kernel) rfl
  refine pf_X4_7 X hK hG hS h0 wl_1_225 ⟨_, rfl, (iv_top _)⟩ dX4_isWhole_7 (fun H locs hG hS ku3 ru3 => ?_)
  refine lv_aload_n X.1 X.2.1 dX4_isWhole_10 rfl (lv_at hl 0 rfl) ?_
  refine lv_aload_n X.1 X.2.1 dX4_isWhole_11 rfl (lv_at hl 0 rfl) ?_
  refine gg_X4_0 X hK hG h0 wl_1_209 (ru3 _ _ _ _ _ _ _ h0 rfl rfl (by decide) (fun z => absurd z.2 (by decide)) kq1) dX4_isWhole_12 ?_
  refine lv_iconst (v := 1) X.1 X.2.1 dX4_isWhole_15 (by decide +kernel) ?_
  refine al_21 X hK hG hq1 (iv_vpin (iv_c 1 (a := 1) (b := 1) (by decide +kernel)) (by decide +kernel)) dX4_isWhole_16 (fun f4 hf4 => ?_)
  have of4 := hf4
  have hf4 : iv 0 5 f4 := sg_sp_rules hf4 (iv_c 1 (a := 1) (b := 1) (by decide +kernel)) (by decide +kernel) rfl
  refine pf_X4_8 X hK hG hS h0 wl_1_226 ⟨_, rfl, (iv_top _)⟩ dX4_isWhole_17 (fun H locs hG hS ku5 ru5 => ?_)
  refine lv_aload_n X.1 X.2.1 dX4_isWhole_20 rfl (lv_at hl 0 rfl) ?_
  refine lv_aload_n X.1 X.2.1 dX4_isWhole_21 rfl (lv_at hl 0 rfl) ?_
  refine gg_X4_7 X hK hG h0 wl_1_225 (ru5 _ _ _ _ _ _ _ h0 rfl rfl (by decide) (fun z => absurd z.2 (by decide)) ku3) dX4_isWhole_22 ?_
  refine lv_aload_n X.1 X.2.1 dX4_isWhole_25 rfl (lv_at hl 0 rfl) ?_
  refine gg_X4_8 X hK hG h0 wl_1_226 ku5 dX4_isWhole_26 ?_
  refine lv_imul X.1 X.2.1 dX4_isWhole_29 ?_
  refine lv_topi (fun f6 ef6 => ?_)
  refine pf_X4_5 (hgo := (np_c hnp)) X hK hG hS h0 wl_1_221 ⟨_, rfl, (iv_mul (a' := 0) (b' := 30) ef6 hf2 hf4 (by decide +kernel))⟩ dX4_isWhole_30 (fun H locs hG hS ku7 ru7 => ?_)
  refine lv_aload_n X.1 X.2.1 dX4_isWhole_33 rfl (lv_at hl 0 rfl) ?_
  refine lv_iconst (v := 1) X.1 X.2.1 dX4_isWhole_34 (by decide +kernel) ?_
  refine lv_aload_n X.1 X.2.1 dX4_isWhole_35 rfl (lv_at hl 0 rfl) ?_
  refine gg_X4_5 X hK hG h0 wl_1_221 ku7 dX4_isWhole_36 ?_
  refine lv_ishl X.1 X.2.1 dX4_isWhole_39 ?_
  refine lv_topi (fun f8 ef8 => ?_)
  refine lv_iconst (v := 1) X.1 X.2.1 dX4_isWhole_40 (by decide +kernel) ?_
  refine lv_isub X.1 X.2.1 dX4_isWhole_41 ?_
  refine lv_topi (fun f9 ef9 => ?_)
  refine pf_X4_6 X hK hG hS h0 wl_1_222 ⟨_, rfl, (iv_top _)⟩ dX4_isWhole_42 (fun H locs hG hS ku10 ru10 => ?_)
  refine lv_aload_n X.1 X.2.1 dX4_isWhole_45 rfl (lv_at hl 0 rfl) ?_
  refine gf_X4_12 X hK hG h0 wl_1_235 dX4_isWhole_46 (fun f11 hf11 kf11 => ?_)
  refine lv_if_ne (tgt := 86) X.1 X.2.1 dX4_isWhole_49 (by decide) (fun c12 => ?_) (fun c12 => ?_)
  · refine lv_iconst (v := 0) X.1 X.2.1 dX4_isWhole_86 (by decide +kernel) ?_
    exact sg_zret X hr (sg_zn (iv_of (iv_c 0 (a := 0) (b := 0) (by decide +kernel)) (a' := 0) (b' := 1) (by decide +kernel))) hlk hb hK hC hG hS (iv_of (iv_c 0 (a := 0) (b := 0) (by decide +kernel)) (a' := 0) (b' := 1) (by decide +kernel)) dX4_isWhole_87
  · refine lv_aload_n X.1 X.2.1 dX4_isWhole_52 rfl (lv_at hl 0 rfl) ?_
    refine gf_X4_9 X hK hG h0 wl_1_227 dX4_isWhole_53 (fun f13 hf13 kf13 => ?_)
    refine lv_aload_n X.1 X.2.1 dX4_isWhole_56 rfl (lv_at hl 0 rfl) ?_
    refine gf_X4_10 X hK hG h0 wl_1_230 dX4_isWhole_57 (fun f14 hf14 kf14 => ?_)
    refine lv_ior X.1 X.2.1 dX4_isWhole_60 ?_
    refine lv_topi (fun f15 ef15 => ?_)
    refine lv_aload_n X.1 X.2.1 dX4_isWhole_61 rfl (lv_at hl 0 rfl) ?_
    refine gg_X4_6 X hK hG h0 wl_1_222 ku10 dX4_isWhole_62 ?_
    refine lv_iconst (v := (-1)) X.1 X.2.1 dX4_isWhole_65 (by decide +kernel) ?_
    refine lv_ixor X.1 X.2.1 dX4_isWhole_66 ?_
    refine lv_topi (fun f16 ef16 => ?_)
    refine lv_iand X.1 X.2.1 dX4_isWhole_67 ?_
    refine lv_topi (fun f17 ef17 => ?_)
    refine lv_if_ne (tgt := 86) X.1 X.2.1 dX4_isWhole_68 (by decide) (fun c18 => ?_) (fun c18 => ?_)
    · refine lv_iconst (v := 0) X.1 X.2.1 dX4_isWhole_86 (by decide +kernel) ?_
      exact sg_zret X hr (sg_zn (iv_of (iv_c 0 (a := 0) (b := 0) (by decide +kernel)) (a' := 0) (b' := 1) (by decide +kernel))) hlk hb hK hC hG hS (iv_of (iv_c 0 (a := 0) (b := 0) (by decide +kernel)) (a' := 0) (b' := 1) (by decide +kernel)) dX4_isWhole_87
    · refine lv_aload_n X.1 X.2.1 dX4_isWhole_71 rfl (lv_at hl 0 rfl) ?_
      refine gg_X4_0 X hK hG h0 wl_1_209 (ru10 _ _ _ _ _ _ _ h0 rfl rfl (by decide) (fun z => absurd z.2 (by decide)) (ru7 _ _ _ _ _ _ _ h0 rfl rfl (by decide) (fun z => absurd z.2 (by decide)) (ru5 _ _ _ _ _ _ _ h0 rfl rfl (by decide) (fun z => absurd z.2 (by decide)) (ru3 _ _ _ _ _ _ _ h0 rfl rfl (by decide) (fun z => absurd z.2 (by decide)) kq1)))) dX4_isWhole_72 ?_
      refine lv_iconst (v := 4) X.1 X.2.1 dX4_isWhole_75 (by decide +kernel) ?_
      refine al_21 X hK hG hq1 (iv_vpin (iv_c 4 (a := 4) (b := 4) (by decide +kernel)) (by decide +kernel)) dX4_isWhole_76 (fun f19 hf19 => ?_)
      have of19 := hf19
      have hf19 : iv 0 8 f19 := sg_sp_rules hf19 (iv_c 4 (a := 4) (b := 4) (by decide +kernel)) (by decide +kernel) rfl
      refine lv_aload_n X.1 X.2.1 dX4_isWhole_77 rfl (lv_at hl 0 rfl) ?_
      refine gg_X4_0 X hK hG h0 wl_1_209 (ru10 _ _ _ _ _ _ _ h0 rfl rfl (by decide) (fun z => absurd z.2 (by decide)) (ru7 _ _ _ _ _ _ _ h0 rfl rfl (by decide) (fun z => absurd z.2 (by decide)) (ru5 _ _ _ _ _ _ _ h0 rfl rfl (by decide) (fun z => absurd z.2 (by decide)) (ru3 _ _ _ _ _ _ _ h0 rfl rfl (by decide) (fun z => absurd z.2 (by decide)) kq1)))) dX4_isWhole_78 ?_
      refine lv_iconst (v := 5) X.1 X.2.1 dX4_isWhole_81 (by decide +kernel) ?_
      refine al_21 X hK hG hq1 (iv_vpin (iv_c 5 (a := 5) (b := 5) (by decide +kernel)) (by decide +kernel)) dX4_isWhole_82 (fun f20 hf20 => ?_)
      have of20 := hf20
      have hf20 : iv 0 8 f20 := sg_sp_rules hf20 (iv_c 5 (a := 5) (b := 5) (by decide +kernel)) (by decide +kernel) rfl
      refine lv_icmp_le (tgt := 88) X.1 X.2.1 dX4_isWhole_83 (by decide) (fun c21 => ?_) (fun c21 => ?_)
      · refine lv_aload_n X.1 X.2.1 dX4_isWhole_88 rfl (lv_at hl 0 rfl) ?_
        refine ca_X4_layOut X hK hG hC hS hb a0 h0 wl_3_177 hl.1 (rest := []) rfl (Nat.le_of_ble_eq_true rfl) ⟨Nat.le_of_ble_eq_true rfl, Nat.le_of_ble_eq_true rfl⟩ ⟨Nat.le_of_ble_eq_true rfl, Nat.le_of_ble_eq_true rfl⟩ dX4_isWhole_89 (fun H locs hG hS => ?_)
        refine lv_aload_n X.1 X.2.1 dX4_isWhole_92 rfl (lv_at hl 0 rfl) ?_
        refine lv_aload_n X.1 X.2.1 dX4_isWhole_93 rfl (lv_at hl 0 rfl) ?_
        refine gf_X4_9 X hK hG h0 wl_1_227 dX4_isWhole_94 (fun f23 hf23 kf23 => ?_)
        refine ca_X4_hasLine X hK hG hC (fun _ h => h) hS hb a0 h0 f23 wl_3_193 hl.1 (rest := []) rfl (Nat.le_of_ble_eq_true rfl) ⟨Nat.le_of_ble_eq_true rfl, Nat.le_of_ble_eq_true rfl⟩ ⟨Nat.le_of_ble_eq_true rfl, Nat.le_of_ble_eq_true rfl⟩ dX4_isWhole_97 (fun f24 locs hf24 hS => ?_)
        refine lv_if_ne (tgt := 107) X.1 X.2.1 dX4_isWhole_100 (by decide) (fun c25 => ?_) (fun c25 => ?_)
        · refine lv_iconst (v := 0) X.1 X.2.1 dX4_isWhole_107 (by decide +kernel) ?_
          exact sg_zret X hr (sg_zn (iv_of (iv_c 0 (a := 0) (b := 0) (by decide +kernel)) (a' := 0) (b' := 1) (by decide +kernel))) hlk hb hK hC hG hS (iv_of (iv_c 0 (a := 0) (b := 0) (by decide +kernel)) (a' := 0) (b' := 1) (by decide +kernel)) dX4_isWhole_108
        · refine lv_iconst (v := 1) X.1 X.2.1 dX4_isWhole_103 (by decide +kernel) ?_
          refine lv_goto (tgt := 108) X.1 X.2.1 dX4_isWhole_104 (by decide) ?_
          exact sg_zret X hr (sg_zn (iv_of (iv_c 1 (a := 1) (b := 1) (by decide +kernel)) (a' := 0) (b' := 1) (by decide +kernel))) hlk hb hK hC hG hS (iv_of (iv_c 1 (a := 1) (b := 1) (by decide +kernel)) (a' := 0) (b' := 1) (by decide +kernel)) dX4_isWhole_108
      · refine lv_iconst (v := 0) X.1 X.2.1 dX4_isWhole_86 (by decide +kernel) ?_
        exact sg_zret X hr (sg_zn (iv_of (iv_c 0 (a := 0) (b := 0) (by decide +kernel)) (a' := 0) (b' := 1) (by decide +kernel))) hlk hb hK hC hG hS (iv_of (iv_c 0 (a := 0) (b := 0) (by decide +kernel)) (a' := 0) (b' := 1) (by decide +kernel)) dX4_isWhole_87

theorem ca_X4_isWhole   (X : CallFix p m c cc nL s args sg_tbl own) (hK : va_K D vwCl tys s) (hG : sgG (KT P) D vwCl (fun q : Nat => base ≤ q) tys ad ks H) (hC : sgC base s) (hS : va_S (fun q : Nat => base ≤ q) s.heap H locs) (hb : base ≤ s.heap.size) (a0 : Nat) (h0 : isK ad ks 4 a0) (hnp : sgNp (sgGm P) a0) (hl : Cond.methodLink own index yX4_isWhole ∈ sg_tbl) (hsize : ls.size = nL) (hst : st0 = [].reverse ++ .ref a0 :: rest) (hW : (rest.map fun v => v.category).sum ≤ 8) (hR : 3 ≤ R.frames ∧ 68 ≤ R.locals) (hf : cells ≤ R.cells ∧ slots ≤ R.slots) (hdg : decode cc pc = .ok (.invokevirtual index, 3)) (kk : ∀ (r : Int32) (H1 : Heap) (locs1 : List Loc), (fun r : Int32 => iv 0 1 r) r → sgG (KT P) D vwCl (fun q : Nat => base ≤ q) tys ad ks H1 → va_S (fun q : Nat => base ≤ q) s.heap H1 locs1 → W p l e R s m args below meth c H1 locs1 cells slots Q (F0 m (pc + 3) ls (.int r :: rest))) : W p l e R s m args below meth c H locs cells slots Q (F0 m pc ls st0) :=
  sg_callVi X hK hG hC hS hb (m_X4_isWhole l a0 h0 hnp) h0 (k := 4) (ci := 4) rfl (C := RX4) (T := TX4) (N := 15) rfl wl_3_176 wl_1_7 wl_3_175 wl_0_5 (n := 0) (by decide +kernel) rfl rfl rfl hl hsize hst hW hR hf hdg kk

set_option maxHeartbeats 8000000 in
set_option maxRecDepth 100000 in
theorem m_X4_clear (l : Launch) {D : va_G} {base : Nat} {tys : List (ClassId × FieldType)} {ad ks : List Nat} {P : sgPm} (a0 : Nat) (h0 : isK ad ks 4 a0) (hnp : sgNp (sgGm P) a0) : sgMv l (KT P) D vwCl base tys ad ks yX4_clear cX4_clear 1 none ({ frames := 1, cells := 0, slots := 0, locals := 60 }) [.ref a0] := by
  refine sg_ofW (by decide +kernel) (Nat.le_of_ble_eq_true rfl) (fun p e s m below meth c X hr hlk hb hK hC hG ls hl => ?_)
  have hS : va_S (fun q : Nat => base ≤ q) s.heap s.heap [] := va_S.rf
  have hl : lv_has ls 1 [(0, .ref a0)] := hl
  obtain ⟨t1, zt1, nt1⟩ := hC.1.2.2.2.2
  refine va_gets (v := .ref t1) X.1 X.2.1 zt1 hS X.2.2.2.1 (X.2.2.2.2 _ wl_3_38) (fun _ h9 => h9) dX4_clear_0 ?_
  refine lv_iconst (v := 0) X.1 X.2.1 dX4_clear_3 (by decide +kernel) ?_
  refine lv_aload_n X.1 X.2.1 dX4_clear_4 rfl (lv_at hl 0 rfl) ?_
  refine gf_X4_0h X hK hG h0 wl_1_209 dX4_clear_5 (fun q2 hq2 kq2 gq2 => ?_)
  refine lv_iconst (v := 0) X.1 X.2.1 dX4_clear_8 (by decide +kernel) ?_
  refine lv_bipush (v := 7) X.1 X.2.1 dX4_clear_9 (by decide +kernel) ?_
  refine sg_copyT (hgo := (fun _ _ => np_e hnp gq2)) X hl.1 hK hG hS nt1 hq2 (k := 21) rfl sg_usual (by decide +kernel) (by decide +kernel) wl_3_40 wl_3_42 wl_3_41 wl_1_14 (Nat.le_of_ble_eq_true rfl) (Nat.le_of_ble_eq_true rfl) dX4_clear_11 (fun H locs hG hS ru3 => ?_)
  refine lv_aload_n X.1 X.2.1 dX4_clear_14 rfl (lv_at hl 0 rfl) ?_
  refine lv_iconst (v := 0) X.1 X.2.1 dX4_clear_15 (by decide +kernel) ?_
  refine pf_X4_9 X hK hG hS h0 wl_1_227 ⟨_, rfl, (iv_of (iv_c 0 (a := 0) (b := 0) (by decide +kernel)) (a' := 0) (b' := 1073741823) (by decide +kernel))⟩ dX4_clear_16 (fun H locs hG hS ku4 ru4 => ?_)
  refine lv_aload_n X.1 X.2.1 dX4_clear_19 rfl (lv_at hl 0 rfl) ?_
  refine lv_iconst (v := 0) X.1 X.2.1 dX4_clear_20 (by decide +kernel) ?_
  refine pf_X4_10 X hK hG hS h0 wl_1_230 ⟨_, rfl, (iv_top _)⟩ dX4_clear_21 (fun H locs hG hS ku5 ru5 => ?_)
  refine lv_aload_n X.1 X.2.1 dX4_clear_24 rfl (lv_at hl 0 rfl) ?_
  refine lv_iconst (v := 0) X.1 X.2.1 dX4_clear_25 (by decide +kernel) ?_
  refine pf_X4_11 X hK hG hS h0 wl_1_234 ⟨_, rfl, (iv_of (iv_c 0 (a := 0) (b := 0) (by decide +kernel)) (a' := 0) (b' := 1) (by decide +kernel))⟩ dX4_clear_26 (fun H locs hG hS ku6 ru6 => ?_)
  refine lv_aload_n X.1 X.2.1 dX4_clear_29 rfl (lv_at hl 0 rfl) ?_
  refine lv_iconst (v := 0) X.1 X.2.1 dX4_clear_30 (by decide +kernel) ?_
  refine pf_X4_12 X hK hG hS h0 wl_1_235 ⟨_, rfl, (iv_of (iv_c 0 (a := 0) (b := 0) (by decide +kernel)) (a' := 0) (b' := 1) (by decide +kernel))⟩ dX4_clear_31 (fun H locs hG hS ku7 ru7 => ?_)
  refine lv_aload_n X.1 X.2.1 dX4_clear_34 rfl (lv_at hl 0 rfl) ?_
  refine lv_iconst (v := 0) X.1 X.2.1 dX4_clear_35 (by decide +kernel) ?_
  refine pf_X4_13 X hK hG hS h0 wl_1_236 ⟨_, rfl, (iv_top _)⟩ dX4_clear_36 (fun H locs hG hS ku8 ru8 => ?_)
  refine lv_aload_n X.1 X.2.1 dX4_clear_39 rfl (lv_at hl 0 rfl) ?_
  refine lv_iconst (v := 0) X.1 X.2.1 dX4_clear_40 (by decide +kernel) ?_
  refine pf_X4_14 X hK hG hS h0 wl_1_237 ⟨_, rfl, (iv_top _)⟩ dX4_clear_41 (fun H locs hG hS ku9 ru9 => ?_)
  exact sg_vret X hr hlk hb hK hC hG hS dX4_clear_44

theorem ca_X4_clear   (X : CallFix p m c cc nL s args sg_tbl own) (hK : va_K D vwCl tys s) (hG : sgG (KT P) D vwCl (fun q : Nat => base ≤ q) tys ad ks H) (hC : sgC base s) (hS : va_S (fun q : Nat => base ≤ q) s.heap H locs) (hb : base ≤ s.heap.size) (a0 : Nat) (h0 : isK ad ks 4 a0) (hnp : sgNp (sgGm P) a0) (hl : Cond.methodLink own index yX4_clear ∈ sg_tbl) (hsize : ls.size = nL) (hst : st0 = [].reverse ++ .ref a0 :: rest) (hW : (rest.map fun v => v.category).sum ≤ 8) (hR : 2 ≤ R.frames ∧ 80 ≤ R.locals) (hf : cells ≤ R.cells ∧ slots ≤ R.slots) (hdg : decode cc pc = .ok (.invokevirtual index, 3)) (kk : ∀ (H1 : Heap) (locs1 : List Loc), sgG (KT P) D vwCl (fun q : Nat => base ≤ q) tys ad ks H1 → va_S (fun q : Nat => base ≤ q) s.heap H1 locs1 → W p l e R s m args below meth c H1 locs1 cells slots Q (F0 m (pc + 3) ls rest)) : W p l e R s m args below meth c H locs cells slots Q (F0 m pc ls st0) :=
  sg_callVv X hK hG hC hS hb (m_X4_clear l a0 h0 hnp) h0 (k := 4) (ci := 4) rfl (C := RX4) (T := TX4) (N := 15) rfl wl_3_37 wl_1_7 wl_3_36 wl_0_0 (n := 0) (by decide +kernel) rfl rfl rfl hl hsize hst hW hR hf hdg kk

set_option maxHeartbeats 8000000 in
set_option maxRecDepth 100000 in
theorem m_X4_readRules (l : Launch) {D : va_G} {base : Nat} {tys : List (ClassId × FieldType)} {ad ks : List Nat} {P : sgPm} (a0 : Nat) (h0 : isK ad ks 4 a0) (a1 : Nat) (h1 : isK ad ks 10 a1) (hnp : sgNp (sgGm P) a0) : sgMi l (KT P) D vwCl base tys ad ks yX4_readRules cX4_readRules 6 (some .boolean) ({ frames := 4, cells := 0, slots := 0, locals := 91 }) [.ref a0, .ref a1] (fun r : Int32 => iv 0 1 r) := by
  refine sg_ofW (by decide +kernel) (Nat.le_of_ble_eq_true rfl) (fun p e s m below meth c X hr hlk hb hK hC hG ls hl => ?_)
  have hS : va_S (fun q : Nat => base ≤ q) s.heap s.heap [] := va_S.rf
  have hl : lv_has ls 6 [(0, .ref a0), (1, .ref a1)] := hl
  refine lv_aload_n X.1 X.2.1 dX4_readRules_0 rfl (lv_at hl 0 rfl) ?_
  refine lv_iconst (v := 1) X.1 X.2.1 dX4_readRules_1 (by decide +kernel) ?_
  refine pf_X4_11 X hK hG hS h0 wl_1_234 ⟨_, rfl, (iv_of (iv_c 1 (a := 1) (b := 1) (by decide +kernel)) (a' := 0) (b' := 1) (by decide +kernel))⟩ dX4_readRules_2 (fun H locs hG hS ku1 ru1 => ?_)
  refine lv_iconst (v := 0) X.1 X.2.1 dX4_readRules_5 (by decide +kernel) ?_
  refine lv_istore_n (lv' := [(2, .int 0), (0, .ref a0), (1, .ref a1)]) X.1 X.2.1 dX4_readRules_6 rfl hl (by decide) rfl (fun ls hl => ?_)
  refine lv_iconst (v := 0) X.1 X.2.1 dX4_readRules_7 (by decide +kernel) ?_
  refine lv_istore_n (lv' := [(3, .int 0), (2, .int 0), (0, .ref a0), (1, .ref a1)]) X.1 X.2.1 dX4_readRules_8 rfl hl (by decide) rfl (fun ls hl => ?_)
  have B2_9 : ∀ (N : Nat) (H : Heap) (locs : List Loc) (ls : Array Slot) (z2_2 : Int32) (z2_3 : Int32), sgG (KT P) D vwCl (fun q : Nat => base ≤ q) tys ad ks H → va_S (fun q : Nat => base ≤ q) s.heap H locs → lv_has ls 6 [(0, .ref a0), (1, .ref a1), (2, .int z2_2), (3, .int z2_3)] → iv 0 127 z2_2 → iv 0 8 z2_3 → (9 - z2_3.toInt).toNat ≤ N → W p l e (headSpec (Cond.code yX4_readRules cX4_readRules 6 (some .boolean) :: sg_tbl) ({ frames := 4, cells := 0, slots := 0, locals := 91 })).room s m #[.ref a0, .ref a1] below meth c H locs 0 0 (MQ below (va_Qi (fun r (_ : Unit) => (fun r : Int32 => iv 0 1 r) r) (fun _ => sgB (KT P) D vwCl base tys ad ks) (fun q : Nat => base ≤ q)) #[.ref a0, .ref a1] s 0 0 (fun q : Nat => base ≤ q)) (F0 m 9 ls []) := by
    intro N; induction N with
    | zero =>
      intro H locs ls z2_2 z2_3 hG hS hl hz2_2 hz2_3 hN
      exact absurd hN (by have := iv_up hz2_3; omega)
    | succ N ih2 =>
      intro H locs ls z2_2 z2_3 hG hS hl hz2_2 hz2_3 hN2
      refine lv_iload_n X.1 X.2.1 dX4_readRules_9 rfl (lv_at hl 3 rfl) ?_
      refine lv_bipush (v := 7) X.1 X.2.1 dX4_readRules_10 (by decide +kernel) ?_
      refine lv_icmp_gt (tgt := 108) X.1 X.2.1 dX4_readRules_12 (by decide) (fun c3 => ?_) (fun c3 => ?_)
      · refine lv_iconst (v := 1) X.1 X.2.1 dX4_readRules_108 (by decide +kernel) ?_
        exact sg_zret X hr (sg_zn (iv_of (iv_c 1 (a := 1) (b := 1) (by decide +kernel)) (a' := 0) (b' := 1) (by decide +kernel))) hlk hb hK hC hG hS (iv_of (iv_c 1 (a := 1) (b := 1) (by decide +kernel)) (a' := 0) (b' := 1) (by decide +kernel)) dX4_readRules_109
      · obtain ⟨t4, vt4, pt4, rt4⟩ := hC.1.1
        refine va_ldcS X.1 X.2.1 X.2.2.2.1 rt4 dX4_readRules_15 ?_
        refine lv_aload_n X.1 X.2.1 dX4_readRules_17 rfl (lv_at hl 1 rfl) ?_
        refine ca_X10_sign X hK hG hC (fun _ h => h) hS hb a1 h1 wl_3_47 hl.1 (rest := [.ref t4]) rfl (Nat.le_of_ble_eq_true rfl) ⟨Nat.le_of_ble_eq_true rfl, Nat.le_of_ble_eq_true rfl⟩ ⟨Nat.le_of_ble_eq_true rfl, Nat.le_of_ble_eq_true rfl⟩ dX4_readRules_18 (fun f5 locs hf5 hS => ?_)
        obtain ⟨f6, ef6⟩ : ∃ y : Int32, y = ((f5 : Int32).toUInt32 % 65536).toInt32 := ⟨_, rfl⟩
        refine lv_i2c (v := f6) X.1 X.2.1 dX4_readRules_21 ef6.symm ?_
        refine ca_J0_indexOf_0f7a4_7 X hK hG hC (fun _ h => h) hS hb pt4 f6 wl_3_71 hl.1 (rest := []) rfl (Nat.le_of_ble_eq_true rfl) ⟨Nat.le_of_ble_eq_true rfl, Nat.le_of_ble_eq_true rfl⟩ ⟨Nat.le_of_ble_eq_true rfl, Nat.le_of_ble_eq_true rfl⟩ dX4_readRules_22 (fun f7 locs hf7 hS => ?_)
        refine lv_istore (lv' := [(4, .int f7), (0, .ref a0), (1, .ref a1), (2, .int z2_2), (3, .int z2_3)]) X.1 X.2.1 dX4_readRules_25 hl (by decide) rfl (fun ls hl => ?_)
        refine lv_iload X.1 X.2.1 dX4_readRules_27 (lv_at hl 0 rfl) ?_
        refine lv_if_lt (tgt := 39) X.1 X.2.1 dX4_readRules_29 (by decide) (fun c8 => ?_) (fun c8 => ?_)
        · refine lv_iconst (v := 1) X.1 X.2.1 dX4_readRules_39 (by decide +kernel) ?_
          exact sg_zret X hr (sg_zn (iv_of (iv_c 1 (a := 1) (b := 1) (by decide +kernel)) (a' := 0) (b' := 1) (by decide +kernel))) hlk hb hK hC hG hS (iv_of (iv_c 1 (a := 1) (b := 1) (by decide +kernel)) (a' := 0) (b' := 1) (by decide +kernel)) dX4_readRules_40
        · refine lv_iload X.1 X.2.1 dX4_readRules_32 (lv_at hl 0 rfl) ?_
          refine lv_bipush (v := 7) X.1 X.2.1 dX4_readRules_34 (by decide +kernel) ?_
          refine lv_icmp_lt (tgt := 41) X.1 X.2.1 dX4_readRules_36 (by decide) (fun c9 => ?_) (fun c9 => ?_)
          · refine lv_iload_n X.1 X.2.1 dX4_readRules_41 rfl (lv_at hl 3 rfl) ?_
            refine lv_iload X.1 X.2.1 dX4_readRules_42 (lv_at hl 0 rfl) ?_
            refine lv_ishr X.1 X.2.1 dX4_readRules_44 ?_
            refine lv_topi (fun f10 ef10 => ?_)
            refine lv_iconst (v := 1) X.1 X.2.1 dX4_readRules_45 (by decide +kernel) ?_
            refine lv_iand X.1 X.2.1 dX4_readRules_46 ?_
            refine lv_topi (fun f11 ef11 => ?_)
            refine lv_if_eq (tgt := 55) X.1 X.2.1 dX4_readRules_47 (by decide) (fun c12 => ?_) (fun c12 => ?_)
            · refine lv_iload_n X.1 X.2.1 dX4_readRules_55 rfl (lv_at hl 3 rfl) ?_
              refine lv_iconst (v := 1) X.1 X.2.1 dX4_readRules_56 (by decide +kernel) ?_
              refine lv_iload X.1 X.2.1 dX4_readRules_57 (lv_at hl 0 rfl) ?_
              refine lv_ishl X.1 X.2.1 dX4_readRules_59 ?_
              refine lv_topi (fun f13 ef13 => ?_)
              refine lv_ior X.1 X.2.1 dX4_readRules_60 ?_
              refine lv_topi (fun f14 ef14 => ?_)
              refine lv_istore_n (lv' := [(2, .int f14), (4, .int f7), (0, .ref a0), (1, .ref a1), (3, .int z2_3)]) X.1 X.2.1 dX4_readRules_61 rfl hl (by decide) rfl (fun ls hl => ?_)
              refine lv_aload_n X.1 X.2.1 dX4_readRules_62 rfl (lv_at hl 3 rfl) ?_
              refine ca_X10_step X hK hG hC hS hb a1 h1 wl_3_59 hl.1 (rest := []) rfl (Nat.le_of_ble_eq_true rfl) ⟨Nat.le_of_ble_eq_true rfl, Nat.le_of_ble_eq_true rfl⟩ ⟨Nat.le_of_ble_eq_true rfl, Nat.le_of_ble_eq_true rfl⟩ dX4_readRules_63 (fun H locs hG hS => ?_)
              refine lv_aload_n X.1 X.2.1 dX4_readRules_66 rfl (lv_at hl 3 rfl) ?_
              refine lv_iconst (v := 2) X.1 X.2.1 dX4_readRules_67 (by decide +kernel) ?_
              obtain ⟨t16, zt16, nt16⟩ := hC.1.2.2.1
              refine va_gets (v := .ref t16) X.1 X.2.1 zt16 hS X.2.2.2.1 (X.2.2.2.2 _ wl_3_155) (fun _ h9 => h9) dX4_readRules_68 ?_
              refine lv_iload X.1 X.2.1 dX4_readRules_71 (lv_at hl 1 rfl) ?_
              refine va_ti X.1 X.2.1 nt16 hS (i := f7) (iv_vpin (iv_lt (b' := 6) c9 (iv_ler (c' := 0) (iv_ge_of c8) (iv_c 0 (a := 0) (b := 0) (by decide +kernel)) (iv_top f7) (by decide +kernel)) (iv_c 7 (a := 7) (b := 7) (by decide +kernel)) (by decide +kernel)) (by decide +kernel)) rfl dX4_readRules_73 ?_
              refine lv_topi (fun f17 ef17 => ?_)
              obtain ⟨t18, zt18, nt18⟩ := hC.1.2.2.2.1
              refine va_gets (v := .ref t18) X.1 X.2.1 zt18 hS X.2.2.2.1 (X.2.2.2.2 _ wl_3_157) (fun _ h9 => h9) dX4_readRules_74 ?_
              refine lv_iload X.1 X.2.1 dX4_readRules_77 (lv_at hl 1 rfl) ?_
              refine va_ti X.1 X.2.1 nt18 hS (i := f7) (iv_vpin (iv_lt (b' := 6) c9 (iv_ler (c' := 0) (iv_ge_of c8) (iv_c 0 (a := 0) (b := 0) (by decide +kernel)) (iv_top f7) (by decide +kernel)) (iv_c 7 (a := 7) (b := 7) (by decide +kernel)) (by decide +kernel)) (by decide +kernel)) rfl dX4_readRules_79 ?_
              refine lv_topi (fun f19 ef19 => ?_)
              refine ca_X10_number X hK hG hC hS hb a1 h1 2 f17 f19 wl_3_159 hl.1 (rest := []) rfl (Nat.le_of_ble_eq_true rfl) ⟨Nat.le_of_ble_eq_true rfl, Nat.le_of_ble_eq_true rfl⟩ ⟨Nat.le_of_ble_eq_true rfl, Nat.le_of_ble_eq_true rfl⟩ dX4_readRules_80 (fun f20 H locs hf20 hG hS => ?_)
              refine lv_istore (lv' := [(5, .int f20), (2, .int f14), (4, .int f7), (0, .ref a0), (1, .ref a1), (3, .int z2_3)]) X.1 X.2.1 dX4_readRules_83 hl (by decide) rfl (fun ls hl => ?_)
              refine lv_iload X.1 X.2.1 dX4_readRules_85 (lv_at hl 0 rfl) ?_
              refine lv_iconst (v := (-1)) X.1 X.2.1 dX4_readRules_87 (by decide +kernel) ?_
              refine lv_icmp_ne (tgt := 93) X.1 X.2.1 dX4_readRules_88 (by decide) (fun c21 => ?_) (fun c21 => ?_)
              · refine lv_aload_n X.1 X.2.1 dX4_readRules_93 rfl (lv_at hl 3 rfl) ?_
                refine gf_X4_0h X hK hG h0 wl_1_209 dX4_readRules_94 (fun q22 hq22 kq22 gq22 => ?_)
                refine lv_iload X.1 X.2.1 dX4_readRules_97 (lv_at hl 2 rfl) ?_
                refine lv_iload X.1 X.2.1 dX4_readRules_99 (lv_at hl 0 rfl) ?_
                refine as_21 (hgo := (np_e hnp gq22)) X hK hG hS hq22 (iv_vpin (iv_lt (b' := 6) c9 (iv_ler (c' := 0) (iv_ge_of c8) (iv_c 0 (a := 0) (b := 0) (by decide +kernel)) (iv_top f7) (by decide +kernel)) (iv_c 7 (a := 7) (b := 7) (by decide +kernel)) (by decide +kernel)) (by decide +kernel)) (sg_ruleok (iv_lt (b' := 6) c9 (iv_ler (c' := 0) (iv_ge_of c8) (iv_c 0 (a := 0) (b := 0) (by decide +kernel)) (iv_top f7) (by decide +kernel)) (iv_c 7 (a := 7) (b := 7) (by decide +kernel)) (by decide +kernel)) ef17 ef19 hf20 c21) dX4_readRules_101 (fun H locs hG hS ru23 => ?_)
                obtain ⟨y24, ey24⟩ : ∃ y : Int32, y = z2_3 + Int32.ofInt 1 := ⟨_, rfl⟩
                refine lv_iinc (v := y24) (lv' := [(3, .int y24), (5, .int f20), (2, .int f14), (4, .int f7), (0, .ref a0), (1, .ref a1)]) X.1 X.2.1 dX4_readRules_102 hl (k := 5) rfl ey24.symm (by decide) rfl (fun ls hl => ?_)
                refine lv_goto (tgt := 9) X.1 X.2.1 dX4_readRules_105 (by decide) ?_
                exact ih2 H _ _ f14 y24 hG hS (lv_sub hl [4, 5, 2, 0] rfl) (iv_of (iv_or 7 ef14 hz2_2 (sg_shl1 ef13 (iv_lt (b' := 6) c9 (iv_ler (c' := 0) (iv_ge_of c8) (iv_c 0 (a := 0) (b := 0) (by decide +kernel)) (iv_top f7) (by decide +kernel)) (iv_c 7 (a := 7) (b := 7) (by decide +kernel)) (by decide +kernel)) (by decide +kernel)) (by decide +kernel)) (a' := 0) (b' := 127) (by decide +kernel)) (iv_of (iv_add (a' := 1) (b' := 8) ey24 (iv_le (b' := 7) (iv_ge_of c3) hz2_3 (iv_c 7 (a := 7) (b := 7) (by decide +kernel)) (by decide +kernel)) (iv_c _ (a := 1) (b := 1) (by decide +kernel)) (by decide +kernel)) (a' := 0) (b' := 8) (by decide +kernel)) (iv_stepU ey24 (iv_le (b' := 7) (iv_ge_of c3) hz2_3 (iv_c 7 (a := 7) (b := 7) (by decide +kernel)) (by decide +kernel)) (by decide +kernel) hN2)
              · refine lv_iconst (v := 0) X.1 X.2.1 dX4_readRules_91 (by decide +kernel) ?_
                exact sg_zret X hr (sg_zn (iv_of (iv_c 0 (a := 0) (b := 0) (by decide +kernel)) (a' := 0) (b' := 1) (by decide +kernel))) hlk hb hK hC hG hS (iv_of (iv_c 0 (a := 0) (b := 0) (by decide +kernel)) (a' := 0) (b' := 1) (by decide +kernel)) dX4_readRules_92
            · refine lv_aload_n X.1 X.2.1 dX4_readRules_50 rfl (lv_at hl 2 rfl) ?_
              refine ca_X10_wrong X hK hG hC hS hb a1 h1 wl_3_55 hl.1 (rest := []) rfl (Nat.le_of_ble_eq_true rfl) ⟨Nat.le_of_ble_eq_true rfl, Nat.le_of_ble_eq_true rfl⟩ ⟨Nat.le_of_ble_eq_true rfl, Nat.le_of_ble_eq_true rfl⟩ dX4_readRules_51 (fun f25 H locs hf25 hG hS => ?_)
              exact sg_zret X hr (sg_zn hf25) hlk hb hK hC hG hS hf25 dX4_readRules_54
          · refine lv_iconst (v := 1) X.1 X.2.1 dX4_readRules_39 (by decide +kernel) ?_
            exact sg_zret X hr (sg_zn (iv_of (iv_c 1 (a := 1) (b := 1) (by decide +kernel)) (a' := 0) (b' := 1) (by decide +kernel))) hlk hb hK hC hG hS (iv_of (iv_c 1 (a := 1) (b := 1) (by decide +kernel)) (a' := 0) (b' := 1) (by decide +kernel)) dX4_readRules_40
  exact B2_9 _ H _ _ 0 0 hG hS (lv_sub hl [2, 3, 1, 0] rfl) (iv_of (iv_c 0 (a := 0) (b := 0) (by decide +kernel)) (a' := 0) (b' := 127) (by decide +kernel)) (iv_of (iv_c 0 (a := 0) (b := 0) (by decide +kernel)) (a' := 0) (b' := 8) (by decide +kernel)) (Nat.le_refl _)

theorem ca_X4_readRules   (X : CallFix p m c cc nL s args sg_tbl own) (hK : va_K D vwCl tys s) (hG : sgG (KT P) D vwCl (fun q : Nat => base ≤ q) tys ad ks H) (hC : sgC base s) (hS : va_S (fun q : Nat => base ≤ q) s.heap H locs) (hb : base ≤ s.heap.size) (a0 : Nat) (h0 : isK ad ks 4 a0) (a1 : Nat) (h1 : isK ad ks 10 a1) (hnp : sgNp (sgGm P) a0) (hl : Cond.methodLink own index yX4_readRules ∈ sg_tbl) (hsize : ls.size = nL) (hst : st0 = [.ref a1].reverse ++ .ref a0 :: rest) (hW : (rest.map fun v => v.category).sum ≤ 8) (hR : 5 ≤ R.frames ∧ 116 ≤ R.locals) (hf : cells ≤ R.cells ∧ slots ≤ R.slots) (hdg : decode cc pc = .ok (.invokevirtual index, 3)) (kk : ∀ (r : Int32) (H1 : Heap) (locs1 : List Loc), (fun r : Int32 => iv 0 1 r) r → sgG (KT P) D vwCl (fun q : Nat => base ≤ q) tys ad ks H1 → va_S (fun q : Nat => base ≤ q) s.heap H1 locs1 → W p l e R s m args below meth c H1 locs1 cells slots Q (F0 m (pc + 3) ls (.int r :: rest))) : W p l e R s m args below meth c H locs cells slots Q (F0 m pc ls st0) :=
  sg_callVi X hK hG hC hS hb (m_X4_readRules l a0 h0 a1 h1 hnp) h0 (k := 4) (ci := 4) rfl (C := RX4) (T := TX4) (N := 15) rfl wl_3_69 wl_1_7 wl_3_68 wl_0_3 (n := 1) (by decide +kernel) rfl rfl rfl hl hsize hst hW hR hf hdg kk

set_option maxHeartbeats 8000000 in
set_option maxRecDepth 100000 in
theorem m_X4_readClause (l : Launch) {D : va_G} {base : Nat} {tys : List (ClassId × FieldType)} {ad ks : List Nat} {P : sgPm} (a0 : Nat) (h0 : isK ad ks 4 a0) (a1 : Nat) (h1 : isK ad ks 10 a1) (hnp : sgNp (sgGm P) a0) : sgMi l (KT P) D vwCl base tys ad ks yX4_readClause cX4_readClause 3 (some .boolean) ({ frames := 5, cells := 0, slots := 0, locals := 116 }) [.ref a0, .ref a1] (fun r : Int32 => iv 0 1 r) := by
  refine sg_ofW (by decide +kernel) (Nat.le_of_ble_eq_true rfl) (fun p e s m below meth c X hr hlk hb hK hC hG ls hl => ?_)
  have hS : va_S (fun q : Nat => base ≤ q) s.heap s.heap [] := va_S.rf
  have hl : lv_has ls 3 [(0, .ref a0), (1, .ref a1)] := hl
  refine lv_aload_n X.1 X.2.1 dX4_readClause_0 rfl (lv_at hl 1 rfl) ?_
  refine ca_X10_sign X hK hG hC (fun _ h => h) hS hb a1 h1 wl_3_47 hl.1 (rest := []) rfl (Nat.le_of_ble_eq_true rfl) ⟨Nat.le_of_ble_eq_true rfl, Nat.le_of_ble_eq_true rfl⟩ ⟨Nat.le_of_ble_eq_true rfl, Nat.le_of_ble_eq_true rfl⟩ dX4_readClause_1 (fun f1 locs hf1 hS => ?_)
  refine lv_istore_n (lv' := [(2, .int f1), (0, .ref a0), (1, .ref a1)]) X.1 X.2.1 dX4_readClause_4 rfl hl (by decide) rfl (fun ls hl => ?_)
  refine lv_aload_n X.1 X.2.1 dX4_readClause_5 rfl (lv_at hl 1 rfl) ?_
  refine lv_iload_n X.1 X.2.1 dX4_readClause_6 rfl (lv_at hl 0 rfl) ?_
  refine ca_X4_mayCome X hK hG hC (fun _ h => h) hS hb a0 h0 f1 wl_3_51 hl.1 (rest := []) rfl (Nat.le_of_ble_eq_true rfl) ⟨Nat.le_of_ble_eq_true rfl, Nat.le_of_ble_eq_true rfl⟩ ⟨Nat.le_of_ble_eq_true rfl, Nat.le_of_ble_eq_true rfl⟩ dX4_readClause_7 (fun f2 locs hf2 hS => ?_)
  refine lv_if_ne (tgt := 18) X.1 X.2.1 dX4_readClause_10 (by decide) (fun c3 => ?_) (fun c3 => ?_)
  · refine lv_aload_n X.1 X.2.1 dX4_readClause_18 rfl (lv_at hl 2 rfl) ?_
    refine ca_X10_step X hK hG hC hS hb a1 h1 wl_3_59 hl.1 (rest := []) rfl (Nat.le_of_ble_eq_true rfl) ⟨Nat.le_of_ble_eq_true rfl, Nat.le_of_ble_eq_true rfl⟩ ⟨Nat.le_of_ble_eq_true rfl, Nat.le_of_ble_eq_true rfl⟩ dX4_readClause_19 (fun H locs hG hS => ?_)
    refine lv_iload_n X.1 X.2.1 dX4_readClause_22 rfl (lv_at hl 0 rfl) ?_
    refine lv_bipush (v := 115) X.1 X.2.1 dX4_readClause_23 (by decide +kernel) ?_
    refine lv_icmp_ne (tgt := 36) X.1 X.2.1 dX4_readClause_25 (by decide) (fun c5 => ?_) (fun c5 => ?_)
    · refine lv_aload_n X.1 X.2.1 dX4_readClause_36 rfl (lv_at hl 1 rfl) ?_
      refine lv_aload_n X.1 X.2.1 dX4_readClause_37 rfl (lv_at hl 2 rfl) ?_
      refine lv_iload_n X.1 X.2.1 dX4_readClause_38 rfl (lv_at hl 0 rfl) ?_
      refine lv_bipush (v := 116) X.1 X.2.1 dX4_readClause_39 (by decide +kernel) ?_
      have B7_49 : ∀ (locs : List Loc) (ls : Array Slot) (w7_0 : Int32), va_S (fun q : Nat => base ≤ q) s.heap H locs → lv_has ls 3 [] → iv 0 1 w7_0 → W p l e (headSpec (Cond.code yX4_readClause cX4_readClause 3 (some .boolean) :: sg_tbl) ({ frames := 5, cells := 0, slots := 0, locals := 116 })).room s m #[.ref a0, .ref a1] below meth c H locs 0 0 (MQ below (va_Qi (fun r (_ : Unit) => (fun r : Int32 => iv 0 1 r) r) (fun _ => sgB (KT P) D vwCl base tys ad ks) (fun q : Nat => base ≤ q)) #[.ref a0, .ref a1] s 0 0 (fun q : Nat => base ≤ q)) (F0 m 49 ls [.int w7_0, .ref a1, .ref a0]) := by
        intro locs ls w7_0 hS hl hw7_0
        refine ca_X4_readSpot X hK hG hC hS hb a0 h0 a1 h1 w7_0 hw7_0 wl_3_163 hl.1 (rest := []) rfl (Nat.le_of_ble_eq_true rfl) ⟨Nat.le_of_ble_eq_true rfl, Nat.le_of_ble_eq_true rfl⟩ ⟨Nat.le_of_ble_eq_true rfl, Nat.le_of_ble_eq_true rfl⟩ dX4_readClause_49 (fun f8 H locs hf8 hG hS => ?_)
        exact sg_zret X hr (sg_zn hf8) hlk hb hK hC hG hS hf8 dX4_readClause_52
      refine lv_icmp_ne (tgt := 48) X.1 X.2.1 dX4_readClause_41 (by decide) (fun c6 => ?_) (fun c6 => ?_)
      · refine lv_iconst (v := 0) X.1 X.2.1 dX4_readClause_48 (by decide +kernel) ?_
        exact B7_49 _ _ 0 hS (lv_sub hl [] rfl) (iv_of (iv_c 0 (a := 0) (b := 0) (by decide +kernel)) (a' := 0) (b' := 1) (by decide +kernel))
      · refine lv_iconst (v := 1) X.1 X.2.1 dX4_readClause_44 (by decide +kernel) ?_
        refine lv_goto (tgt := 49) X.1 X.2.1 dX4_readClause_45 (by decide) ?_
        exact B7_49 _ _ 1 hS (lv_sub hl [] rfl) (iv_of (iv_c 1 (a := 1) (b := 1) (by decide +kernel)) (a' := 0) (b' := 1) (by decide +kernel))
    · refine lv_aload_n X.1 X.2.1 dX4_readClause_28 rfl (lv_at hl 1 rfl) ?_
      refine lv_aload_n X.1 X.2.1 dX4_readClause_29 rfl (lv_at hl 2 rfl) ?_
      refine ca_X4_readRules X hK hG hC hS hb a0 h0 a1 h1 hnp wl_3_66 hl.1 (rest := []) rfl (Nat.le_of_ble_eq_true rfl) ⟨Nat.le_of_ble_eq_true rfl, Nat.le_of_ble_eq_true rfl⟩ ⟨Nat.le_of_ble_eq_true rfl, Nat.le_of_ble_eq_true rfl⟩ dX4_readClause_30 (fun f9 H locs hf9 hG hS => ?_)
      refine lv_goto (tgt := 52) X.1 X.2.1 dX4_readClause_33 (by decide) ?_
      exact sg_zret X hr (sg_zn hf9) hlk hb hK hC hG hS hf9 dX4_readClause_52
  · refine lv_aload_n X.1 X.2.1 dX4_readClause_13 rfl (lv_at hl 2 rfl) ?_
    refine ca_X10_wrong X hK hG hC hS hb a1 h1 wl_3_55 hl.1 (rest := []) rfl (Nat.le_of_ble_eq_true rfl) ⟨Nat.le_of_ble_eq_true rfl, Nat.le_of_ble_eq_true rfl⟩ ⟨Nat.le_of_ble_eq_true rfl, Nat.le_of_ble_eq_true rfl⟩ dX4_readClause_14 (fun f10 H locs hf10 hG hS => ?_)
    exact sg_zret X hr (sg_zn hf10) hlk hb hK hC hG hS hf10 dX4_readClause_17

theorem ca_X4_readClause   (X : CallFix p m c cc nL s args sg_tbl own) (hK : va_K D vwCl tys s) (hG : sgG (KT P) D vwCl (fun q : Nat => base ≤ q) tys ad ks H) (hC : sgC base s) (hS : va_S (fun q : Nat => base ≤ q) s.heap H locs) (hb : base ≤ s.heap.size) (a0 : Nat) (h0 : isK ad ks 4 a0) (a1 : Nat) (h1 : isK ad ks 10 a1) (hnp : sgNp (sgGm P) a0) (hl : Cond.methodLink own index yX4_readClause ∈ sg_tbl) (hsize : ls.size = nL) (hst : st0 = [.ref a1].reverse ++ .ref a0 :: rest) (hW : (rest.map fun v => v.category).sum ≤ 8) (hR : 6 ≤ R.frames ∧ 138 ≤ R.locals) (hf : cells ≤ R.cells ∧ slots ≤ R.slots) (hdg : decode cc pc = .ok (.invokevirtual index, 3)) (kk : ∀ (r : Int32) (H1 : Heap) (locs1 : List Loc), (fun r : Int32 => iv 0 1 r) r → sgG (KT P) D vwCl (fun q : Nat => base ≤ q) tys ad ks H1 → va_S (fun q : Nat => base ≤ q) s.heap H1 locs1 → W p l e R s m args below meth c H1 locs1 cells slots Q (F0 m (pc + 3) ls (.int r :: rest))) : W p l e R s m args below meth c H locs cells slots Q (F0 m pc ls st0) :=
  sg_callVi X hK hG hC hS hb (m_X4_readClause l a0 h0 a1 h1 hnp) h0 (k := 4) (ci := 4) rfl (C := RX4) (T := TX4) (N := 15) rfl wl_3_46 wl_1_7 wl_3_45 wl_0_1 (n := 1) (by decide +kernel) rfl rfl rfl hl hsize hst hW hR hf hdg kk

set_option maxHeartbeats 8000000 in
set_option maxRecDepth 100000 in
theorem m_X4_read (l : Launch) {D : va_G} {base : Nat} {tys : List (ClassId × FieldType)} {ad ks : List Nat} {P : sgPm} (a0 : Nat) (h0 : isK ad ks 4 a0) (a1 : Nat) (h1 : isK ad ks 10 a1) (hnp : sgNp (sgGm P) a0) : sgMi l (KT P) D vwCl base tys ad ks yX4_read cX4_read 3 (some .boolean) ({ frames := 6, cells := 0, slots := 0, locals := 138 }) [.ref a0, .ref a1] (fun r : Int32 => iv 0 1 r) := by
  refine sg_ofW (by decide +kernel) (Nat.le_of_ble_eq_true rfl) (fun p e s m below meth c X hr hlk hb hK hC hG ls hl => ?_)
  have hS : va_S (fun q : Nat => base ≤ q) s.heap s.heap [] := va_S.rf
  have hl : lv_has ls 3 [(0, .ref a0), (1, .ref a1)] := hl
  refine lv_aload_n X.1 X.2.1 dX4_read_0 rfl (lv_at hl 1 rfl) ?_
  refine ca_X10_rewind X hK hG hC hS hb a1 h1 wl_3_30 hl.1 (rest := []) rfl (Nat.le_of_ble_eq_true rfl) ⟨Nat.le_of_ble_eq_true rfl, Nat.le_of_ble_eq_true rfl⟩ ⟨Nat.le_of_ble_eq_true rfl, Nat.le_of_ble_eq_true rfl⟩ dX4_read_1 (fun H locs hG hS => ?_)
  refine lv_aload_n X.1 X.2.1 dX4_read_4 rfl (lv_at hl 0 rfl) ?_
  refine ca_X4_clear X hK hG hC hS hb a0 h0 hnp wl_3_34 hl.1 (rest := []) rfl (Nat.le_of_ble_eq_true rfl) ⟨Nat.le_of_ble_eq_true rfl, Nat.le_of_ble_eq_true rfl⟩ ⟨Nat.le_of_ble_eq_true rfl, Nat.le_of_ble_eq_true rfl⟩ dX4_read_5 (fun H locs hG hS => ?_)
  refine lv_iconst (v := 0) X.1 X.2.1 dX4_read_8 (by decide +kernel) ?_
  refine lv_istore_n (lv' := [(2, .int 0), (0, .ref a0), (1, .ref a1)]) X.1 X.2.1 dX4_read_9 rfl hl (by decide) rfl (fun ls hl => ?_)
  have B3_10 : ∀ (N : Nat) (H : Heap) (locs : List Loc) (ls : Array Slot) (z3_2 : Int32), sgG (KT P) D vwCl (fun q : Nat => base ≤ q) tys ad ks H → va_S (fun q : Nat => base ≤ q) s.heap H locs → lv_has ls 3 [(0, .ref a0), (1, .ref a1), (2, .int z3_2)] → iv 0 240 z3_2 → (241 - z3_2.toInt).toNat ≤ N → W p l e (headSpec (Cond.code yX4_read cX4_read 3 (some .boolean) :: sg_tbl) ({ frames := 6, cells := 0, slots := 0, locals := 138 })).room s m #[.ref a0, .ref a1] below meth c H locs 0 0 (MQ below (va_Qi (fun r (_ : Unit) => (fun r : Int32 => iv 0 1 r) r) (fun _ => sgB (KT P) D vwCl base tys ad ks) (fun q : Nat => base ≤ q)) #[.ref a0, .ref a1] s 0 0 (fun q : Nat => base ≤ q)) (F0 m 10 ls []) := by
    intro N; induction N with
    | zero =>
      intro H locs ls z3_2 hG hS hl hz3_2 hN
      exact absurd hN (by have := iv_up hz3_2; omega)
    | succ N ih3 =>
      intro H locs ls z3_2 hG hS hl hz3_2 hN3
      refine lv_iload_n X.1 X.2.1 dX4_read_10 rfl (lv_at hl 2 rfl) ?_
      refine lv_sipush (v := 240) X.1 X.2.1 dX4_read_11 (by decide +kernel) ?_
      have B5_49 : ∀ (H : Heap) (locs : List Loc) (ls : Array Slot), sgG (KT P) D vwCl (fun q : Nat => base ≤ q) tys ad ks H → va_S (fun q : Nat => base ≤ q) s.heap H locs → lv_has ls 3 [(0, .ref a0), (1, .ref a1)] → W p l e (headSpec (Cond.code yX4_read cX4_read 3 (some .boolean) :: sg_tbl) ({ frames := 6, cells := 0, slots := 0, locals := 138 })).room s m #[.ref a0, .ref a1] below meth c H locs 0 0 (MQ below (va_Qi (fun r (_ : Unit) => (fun r : Int32 => iv 0 1 r) r) (fun _ => sgB (KT P) D vwCl base tys ad ks) (fun q : Nat => base ≤ q)) #[.ref a0, .ref a1] s 0 0 (fun q : Nat => base ≤ q)) (F0 m 49 ls []) := by
        intro H locs ls hG hS hl
        refine lv_aload_n X.1 X.2.1 dX4_read_49 rfl (lv_at hl 1 rfl) ?_
        refine ca_X10_ended X hK hG hC hS hb a1 h1 wl_3_167 hl.1 (rest := []) rfl (Nat.le_of_ble_eq_true rfl) ⟨Nat.le_of_ble_eq_true rfl, Nat.le_of_ble_eq_true rfl⟩ ⟨Nat.le_of_ble_eq_true rfl, Nat.le_of_ble_eq_true rfl⟩ dX4_read_50 (fun f6 H locs hf6 hG hS => ?_)
        have B8_74 : ∀ (H : Heap) (locs : List Loc) (ls : Array Slot), sgG (KT P) D vwCl (fun q : Nat => base ≤ q) tys ad ks H → va_S (fun q : Nat => base ≤ q) s.heap H locs → lv_has ls 3 [] → W p l e (headSpec (Cond.code yX4_read cX4_read 3 (some .boolean) :: sg_tbl) ({ frames := 6, cells := 0, slots := 0, locals := 138 })).room s m #[.ref a0, .ref a1] below meth c H locs 0 0 (MQ below (va_Qi (fun r (_ : Unit) => (fun r : Int32 => iv 0 1 r) r) (fun _ => sgB (KT P) D vwCl base tys ad ks) (fun q : Nat => base ≤ q)) #[.ref a0, .ref a1] s 0 0 (fun q : Nat => base ≤ q)) (F0 m 74 ls []) := by
          intro H locs ls hG hS hl
          refine lv_iconst (v := 0) X.1 X.2.1 dX4_read_74 (by decide +kernel) ?_
          exact sg_zret X hr (sg_zn (iv_of (iv_c 0 (a := 0) (b := 0) (by decide +kernel)) (a' := 0) (b' := 1) (by decide +kernel))) hlk hb hK hC hG hS (iv_of (iv_c 0 (a := 0) (b := 0) (by decide +kernel)) (a' := 0) (b' := 1) (by decide +kernel)) dX4_read_75
        refine lv_if_eq (tgt := 74) X.1 X.2.1 dX4_read_53 (by decide) (fun c7 => ?_) (fun c7 => ?_)
        · exact B8_74 H _ _ hG hS (lv_sub hl [] rfl)
        · refine lv_aload_n X.1 X.2.1 dX4_read_56 rfl (lv_at hl 0 rfl) ?_
          refine ca_X4_isWhole X hK hG hC hS hb a0 h0 hnp wl_3_173 hl.1 (rest := []) rfl (Nat.le_of_ble_eq_true rfl) ⟨Nat.le_of_ble_eq_true rfl, Nat.le_of_ble_eq_true rfl⟩ ⟨Nat.le_of_ble_eq_true rfl, Nat.le_of_ble_eq_true rfl⟩ dX4_read_57 (fun f9 H locs hf9 hG hS => ?_)
          have B11_70 : ∀ (H : Heap) (locs : List Loc) (ls : Array Slot), sgG (KT P) D vwCl (fun q : Nat => base ≤ q) tys ad ks H → va_S (fun q : Nat => base ≤ q) s.heap H locs → lv_has ls 3 [] → W p l e (headSpec (Cond.code yX4_read cX4_read 3 (some .boolean) :: sg_tbl) ({ frames := 6, cells := 0, slots := 0, locals := 138 })).room s m #[.ref a0, .ref a1] below meth c H locs 0 0 (MQ below (va_Qi (fun r (_ : Unit) => (fun r : Int32 => iv 0 1 r) r) (fun _ => sgB (KT P) D vwCl base tys ad ks) (fun q : Nat => base ≤ q)) #[.ref a0, .ref a1] s 0 0 (fun q : Nat => base ≤ q)) (F0 m 70 ls []) := by
            intro H locs ls hG hS hl
            refine lv_iconst (v := 1) X.1 X.2.1 dX4_read_70 (by decide +kernel) ?_
            refine lv_goto (tgt := 75) X.1 X.2.1 dX4_read_71 (by decide) ?_
            exact sg_zret X hr (sg_zn (iv_of (iv_c 1 (a := 1) (b := 1) (by decide +kernel)) (a' := 0) (b' := 1) (by decide +kernel))) hlk hb hK hC hG hS (iv_of (iv_c 1 (a := 1) (b := 1) (by decide +kernel)) (a' := 0) (b' := 1) (by decide +kernel)) dX4_read_75
          refine lv_if_ne (tgt := 70) X.1 X.2.1 dX4_read_60 (by decide) (fun c10 => ?_) (fun c10 => ?_)
          · exact B11_70 H _ _ hG hS (lv_sub hl [] rfl)
          · refine lv_aload_n X.1 X.2.1 dX4_read_63 rfl (lv_at hl 1 rfl) ?_
            refine ca_X10_wrongAsWhole X hK hG hC hS hb a1 h1 wl_3_201 hl.1 (rest := []) rfl (Nat.le_of_ble_eq_true rfl) ⟨Nat.le_of_ble_eq_true rfl, Nat.le_of_ble_eq_true rfl⟩ ⟨Nat.le_of_ble_eq_true rfl, Nat.le_of_ble_eq_true rfl⟩ dX4_read_64 (fun f12 H locs hf12 hG hS => ?_)
            refine lv_if_eq (tgt := 74) X.1 X.2.1 dX4_read_67 (by decide) (fun c13 => ?_) (fun c13 => ?_)
            · exact B8_74 H _ _ hG hS (lv_sub hl [] rfl)
            · exact B11_70 H _ _ hG hS (lv_sub hl [] rfl)
      refine lv_icmp_ge (tgt := 49) X.1 X.2.1 dX4_read_14 (by decide) (fun c4 => ?_) (fun c4 => ?_)
      · exact B5_49 H _ _ hG hS (lv_sub hl [0, 1] rfl)
      · refine lv_aload_n X.1 X.2.1 dX4_read_17 rfl (lv_at hl 0 rfl) ?_
        refine lv_aload_n X.1 X.2.1 dX4_read_18 rfl (lv_at hl 1 rfl) ?_
        refine ca_X4_readClause X hK hG hC hS hb a0 h0 a1 h1 hnp wl_3_43 hl.1 (rest := []) rfl (Nat.le_of_ble_eq_true rfl) ⟨Nat.le_of_ble_eq_true rfl, Nat.le_of_ble_eq_true rfl⟩ ⟨Nat.le_of_ble_eq_true rfl, Nat.le_of_ble_eq_true rfl⟩ dX4_read_19 (fun f14 H locs hf14 hG hS => ?_)
        refine lv_if_ne (tgt := 27) X.1 X.2.1 dX4_read_22 (by decide) (fun c15 => ?_) (fun c15 => ?_)
        · refine lv_aload_n X.1 X.2.1 dX4_read_27 rfl (lv_at hl 1 rfl) ?_
          refine ca_X10_sign X hK hG hC (fun _ h => h) hS hb a1 h1 wl_3_47 hl.1 (rest := []) rfl (Nat.le_of_ble_eq_true rfl) ⟨Nat.le_of_ble_eq_true rfl, Nat.le_of_ble_eq_true rfl⟩ ⟨Nat.le_of_ble_eq_true rfl, Nat.le_of_ble_eq_true rfl⟩ dX4_read_28 (fun f16 locs hf16 hS => ?_)
          refine lv_bipush (v := 59) X.1 X.2.1 dX4_read_31 (by decide +kernel) ?_
          refine lv_icmp_eq (tgt := 39) X.1 X.2.1 dX4_read_33 (by decide) (fun c17 => ?_) (fun c17 => ?_)
          · refine lv_aload_n X.1 X.2.1 dX4_read_39 rfl (lv_at hl 1 rfl) ?_
            refine ca_X10_step X hK hG hC hS hb a1 h1 wl_3_59 hl.1 (rest := []) rfl (Nat.le_of_ble_eq_true rfl) ⟨Nat.le_of_ble_eq_true rfl, Nat.le_of_ble_eq_true rfl⟩ ⟨Nat.le_of_ble_eq_true rfl, Nat.le_of_ble_eq_true rfl⟩ dX4_read_40 (fun H locs hG hS => ?_)
            obtain ⟨y19, ey19⟩ : ∃ y : Int32, y = z3_2 + Int32.ofInt 1 := ⟨_, rfl⟩
            refine lv_iinc (v := y19) (lv' := [(2, .int y19), (0, .ref a0), (1, .ref a1)]) X.1 X.2.1 dX4_read_43 hl (k := 2) rfl ey19.symm (by decide) rfl (fun ls hl => ?_)
            refine lv_goto (tgt := 10) X.1 X.2.1 dX4_read_46 (by decide) ?_
            exact ih3 H _ _ y19 hG hS (lv_sub hl [1, 2, 0] rfl) (iv_of (iv_add (a' := 1) (b' := 240) ey19 (iv_lt (b' := 239) (iv_gt_of c4) hz3_2 (iv_c 240 (a := 240) (b := 240) (by decide +kernel)) (by decide +kernel)) (iv_c _ (a := 1) (b := 1) (by decide +kernel)) (by decide +kernel)) (a' := 0) (b' := 240) (by decide +kernel)) (iv_stepU ey19 (iv_lt (b' := 239) (iv_gt_of c4) hz3_2 (iv_c 240 (a := 240) (b := 240) (by decide +kernel)) (by decide +kernel)) (by decide +kernel) hN3)
          · refine lv_goto (tgt := 49) X.1 X.2.1 dX4_read_36 (by decide) ?_
            exact B5_49 H _ _ hG hS (lv_sub hl [0, 1] rfl)
        · refine lv_iconst (v := 0) X.1 X.2.1 dX4_read_25 (by decide +kernel) ?_
          exact sg_zret X hr (sg_zn (iv_of (iv_c 0 (a := 0) (b := 0) (by decide +kernel)) (a' := 0) (b' := 1) (by decide +kernel))) hlk hb hK hC hG hS (iv_of (iv_c 0 (a := 0) (b := 0) (by decide +kernel)) (a' := 0) (b' := 1) (by decide +kernel)) dX4_read_26
  exact B3_10 _ H _ _ 0 hG hS (lv_sub hl [1, 2, 0] rfl) (iv_of (iv_c 0 (a := 0) (b := 0) (by decide +kernel)) (a' := 0) (b' := 240) (by decide +kernel)) (Nat.le_refl _)

theorem ca_X4_read   (X : CallFix p m c cc nL s args sg_tbl own) (hK : va_K D vwCl tys s) (hG : sgG (KT P) D vwCl (fun q : Nat => base ≤ q) tys ad ks H) (hC : sgC base s) (hS : va_S (fun q : Nat => base ≤ q) s.heap H locs) (hb : base ≤ s.heap.size) (a0 : Nat) (h0 : isK ad ks 4 a0) (a1 : Nat) (h1 : isK ad ks 10 a1) (hnp : sgNp (sgGm P) a0) (hl : Cond.methodLink own index yX4_read ∈ sg_tbl) (hsize : ls.size = nL) (hst : st0 = [.ref a1].reverse ++ .ref a0 :: rest) (hW : (rest.map fun v => v.category).sum ≤ 8) (hR : 7 ≤ R.frames ∧ 160 ≤ R.locals) (hf : cells ≤ R.cells ∧ slots ≤ R.slots) (hdg : decode cc pc = .ok (.invokevirtual index, 3)) (kk : ∀ (r : Int32) (H1 : Heap) (locs1 : List Loc), (fun r : Int32 => iv 0 1 r) r → sgG (KT P) D vwCl (fun q : Nat => base ≤ q) tys ad ks H1 → va_S (fun q : Nat => base ≤ q) s.heap H1 locs1 → W p l e R s m args below meth c H1 locs1 cells slots Q (F0 m (pc + 3) ls (.int r :: rest))) : W p l e R s m args below meth c H locs cells slots Q (F0 m pc ls st0) :=
  sg_callVi X hK hG hC hS hb (m_X4_read l a0 h0 a1 h1 hnp) h0 (k := 4) (ci := 4) rfl (C := RX4) (T := TX4) (N := 15) rfl wl_3_29 wl_1_7 wl_3_27 wl_3_28 (n := 1) (by decide +kernel) rfl rfl rfl hl hsize hst hW hR hf hdg kk

set_option maxHeartbeats 8000000 in
set_option maxRecDepth 100000 in
theorem m_X6_readAtom_6 (l : Launch) {D : va_G} {base : Nat} {tys : List (ClassId × FieldType)} {ad ks : List Nat} {P : sgPm} (a0 : Nat) (h0 : isK ad ks 6 a0) (a1 : Nat) (h1 : isK ad ks 10 a1) (x2 : Int32) (h2 : iv 6 6 x2) : sgMi l (KT P) D vwCl base tys ad ks yX6_readAtom cX6_readAtom 6 (some .boolean) ({ frames := 4, cells := 0, slots := 0, locals := 91 }) [.ref a0, .ref a1, .int x2] (fun r : Int32 => iv 0 1 r) := by
  refine sg_ofW (by decide +kernel) (Nat.le_of_ble_eq_true rfl) (fun p e s m below meth c X hr hlk hb hK hC hG ls hl => ?_)
  have hS : va_S (fun q : Nat => base ≤ q) s.heap s.heap [] := va_S.rf
  have hl : lv_has ls 6 [(0, .ref a0), (1, .ref a1), (2, .int x2)] := hl
  refine lv_aload_n X.1 X.2.1 dX6_readAtom_0 rfl (lv_at hl 1 rfl) ?_
  refine ca_X10_sign X hK hG hC (fun _ h => h) hS hb a1 h1 wl_3_219 hl.1 (rest := []) rfl (Nat.le_of_ble_eq_true rfl) ⟨Nat.le_of_ble_eq_true rfl, Nat.le_of_ble_eq_true rfl⟩ ⟨Nat.le_of_ble_eq_true rfl, Nat.le_of_ble_eq_true rfl⟩ dX6_readAtom_1 (fun f1 locs hf1 hS => ?_)
  refine lv_istore_n (lv' := [(3, .int f1), (0, .ref a0), (1, .ref a1), (2, .int x2)]) X.1 X.2.1 dX6_readAtom_4 rfl hl (by decide) rfl (fun ls hl => ?_)
  refine lv_iload_n X.1 X.2.1 dX6_readAtom_5 rfl (lv_at hl 0 rfl) ?_
  refine lv_bipush (v := 91) X.1 X.2.1 dX6_readAtom_6 (by decide +kernel) ?_
  refine lv_icmp_ne (tgt := 59) X.1 X.2.1 dX6_readAtom_8 (by decide) (fun c2 => ?_) (fun c2 => ?_)
  · obtain ⟨t3, vt3, pt3, rt3⟩ := hC.1.2.1
    refine va_ldcS X.1 X.2.1 X.2.2.2.1 rt3 dX6_readAtom_59 ?_
    refine lv_iload_n X.1 X.2.1 dX6_readAtom_61 rfl (lv_at hl 0 rfl) ?_
    obtain ⟨f4, ef4⟩ : ∃ y : Int32, y = ((f1 : Int32).toUInt32 % 65536).toInt32 := ⟨_, rfl⟩
    refine lv_i2c (v := f4) X.1 X.2.1 dX6_readAtom_62 ef4.symm ?_
    refine ca_J0_indexOf_0f7a4_6 X hK hG hC (fun _ h => h) hS hb pt3 f4 wl_3_231 hl.1 (rest := []) rfl (Nat.le_of_ble_eq_true rfl) ⟨Nat.le_of_ble_eq_true rfl, Nat.le_of_ble_eq_true rfl⟩ ⟨Nat.le_of_ble_eq_true rfl, Nat.le_of_ble_eq_true rfl⟩ dX6_readAtom_63 (fun f5 locs hf5 hS => ?_)
    refine lv_istore (lv' := [(4, .int f5), (3, .int f1), (0, .ref a0), (1, .ref a1), (2, .int x2)]) X.1 X.2.1 dX6_readAtom_66 hl (by decide) rfl (fun ls hl => ?_)
    refine lv_iload X.1 X.2.1 dX6_readAtom_68 (lv_at hl 0 rfl) ?_
    refine lv_if_lt (tgt := 107) X.1 X.2.1 dX6_readAtom_70 (by decide) (fun c6 => ?_) (fun c6 => ?_)
    · refine lv_aload_n X.1 X.2.1 dX6_readAtom_107 rfl (lv_at hl 3 rfl) ?_
      refine lv_iconst (v := 4) X.1 X.2.1 dX6_readAtom_108 (by decide +kernel) ?_
      refine lv_iconst (v := 0) X.1 X.2.1 dX6_readAtom_109 (by decide +kernel) ?_
      refine lv_sipush (v := 9999) X.1 X.2.1 dX6_readAtom_110 (by decide +kernel) ?_
      refine ca_X10_number X hK hG hC hS hb a1 h1 4 0 9999 wl_3_236 hl.1 (rest := []) rfl (Nat.le_of_ble_eq_true rfl) ⟨Nat.le_of_ble_eq_true rfl, Nat.le_of_ble_eq_true rfl⟩ ⟨Nat.le_of_ble_eq_true rfl, Nat.le_of_ble_eq_true rfl⟩ dX6_readAtom_113 (fun f7 H locs hf7 hG hS => ?_)
      refine lv_istore (lv' := [(5, .int f7), (4, .int f5), (3, .int f1), (0, .ref a0), (1, .ref a1), (2, .int x2)]) X.1 X.2.1 dX6_readAtom_116 hl (by decide) rfl (fun ls hl => ?_)
      refine lv_aload_n X.1 X.2.1 dX6_readAtom_118 rfl (lv_at hl 3 rfl) ?_
      refine lv_iload X.1 X.2.1 dX6_readAtom_119 (lv_at hl 0 rfl) ?_
      refine lv_iconst (v := 0) X.1 X.2.1 dX6_readAtom_121 (by decide +kernel) ?_
      refine va_mmax X.1 X.2.1 (X.2.2.1.trans hl.1.symm) X.2.2.2.1 (X.2.2.2.2 _ wl_3_237) (X.2.2.2.2 _ wl_3_100) (X.2.2.2.2 _ wl_1_15) (X.2.2.2.2 _ wl_3_101) (Nat.le_of_ble_eq_true rfl) (Nat.le_of_ble_eq_true rfl) (Nat.le_of_ble_eq_true rfl) (Nat.le_of_ble_eq_true rfl) dX6_readAtom_122 ?_
      refine lv_topi (fun f8 ef8 => ?_)
      refine ca_X6_put X hK hG hC hS hb a0 h0 f8 wl_3_232 hl.1 (rest := []) rfl (Nat.le_of_ble_eq_true rfl) ⟨Nat.le_of_ble_eq_true rfl, Nat.le_of_ble_eq_true rfl⟩ ⟨Nat.le_of_ble_eq_true rfl, Nat.le_of_ble_eq_true rfl⟩ dX6_readAtom_125 (fun H locs hG hS => ?_)
      refine lv_iload X.1 X.2.1 dX6_readAtom_128 (lv_at hl 0 rfl) ?_
      refine lv_iconst (v := (-1)) X.1 X.2.1 dX6_readAtom_130 (by decide +kernel) ?_
      refine lv_icmp_eq (tgt := 138) X.1 X.2.1 dX6_readAtom_131 (by decide) (fun c10 => ?_) (fun c10 => ?_)
      · refine lv_iconst (v := 0) X.1 X.2.1 dX6_readAtom_138 (by decide +kernel) ?_
        exact sg_zret X hr (sg_zn (iv_of (iv_c 0 (a := 0) (b := 0) (by decide +kernel)) (a' := 0) (b' := 1) (by decide +kernel))) hlk hb hK hC hG hS (iv_of (iv_c 0 (a := 0) (b := 0) (by decide +kernel)) (a' := 0) (b' := 1) (by decide +kernel)) dX6_readAtom_139
      · refine lv_iconst (v := 1) X.1 X.2.1 dX6_readAtom_134 (by decide +kernel) ?_
        refine lv_goto (tgt := 139) X.1 X.2.1 dX6_readAtom_135 (by decide) ?_
        exact sg_zret X hr (sg_zn (iv_of (iv_c 1 (a := 1) (b := 1) (by decide +kernel)) (a' := 0) (b' := 1) (by decide +kernel))) hlk hb hK hC hG hS (iv_of (iv_c 1 (a := 1) (b := 1) (by decide +kernel)) (a' := 0) (b' := 1) (by decide +kernel)) dX6_readAtom_139
    · refine lv_aload_n X.1 X.2.1 dX6_readAtom_73 rfl (lv_at hl 2 rfl) ?_
      refine lv_dup X.1 X.2.1 dX6_readAtom_74 rfl ?_
      refine gf_X6_6 X hK hG h0 wl_1_72 dX6_readAtom_75 (fun f11 hf11 kf11 => ?_)
      refine lv_iload X.1 X.2.1 dX6_readAtom_78 (lv_at hl 0 rfl) ?_
      refine lv_iconst (v := 4) X.1 X.2.1 dX6_readAtom_80 (by decide +kernel) ?_
      have B13_89 : ∀ (locs : List Loc) (ls : Array Slot) (w13_0 : Int32), va_S (fun q : Nat => base ≤ q) s.heap s.heap locs → lv_has ls 6 [(0, .ref a0), (1, .ref a1), (4, .int f5)] → iv 0 1 w13_0 → W p l e (headSpec (Cond.code yX6_readAtom cX6_readAtom 6 (some .boolean) :: sg_tbl) ({ frames := 4, cells := 0, slots := 0, locals := 91 })).room s m #[.ref a0, .ref a1, .int x2] below meth c s.heap locs 0 0 (MQ below (va_Qi (fun r (_ : Unit) => (fun r : Int32 => iv 0 1 r) r) (fun _ => sgB (KT P) D vwCl base tys ad ks) (fun q : Nat => base ≤ q)) #[.ref a0, .ref a1, .int x2] s 0 0 (fun q : Nat => base ≤ q)) (F0 m 89 ls [.int w13_0, .int f11, .ref a0]) := by
        intro locs ls w13_0 hS hl hw13_0
        refine lv_ior X.1 X.2.1 dX6_readAtom_89 ?_
        refine lv_topi (fun f14 ef14 => ?_)
        refine pf_X6_6 X hK hG hS h0 wl_1_72 ⟨_, rfl, (iv_of (iv_or 1 ef14 hf11 hw13_0 (by decide +kernel)) (a' := 0) (b' := 1) (by decide +kernel))⟩ dX6_readAtom_90 (fun H locs hG hS ku15 ru15 => ?_)
        refine lv_aload_n X.1 X.2.1 dX6_readAtom_93 rfl (lv_at hl 0 rfl) ?_
        refine lv_iconst (v := (-1)) X.1 X.2.1 dX6_readAtom_94 (by decide +kernel) ?_
        refine lv_iload X.1 X.2.1 dX6_readAtom_95 (lv_at hl 2 rfl) ?_
        refine lv_isub X.1 X.2.1 dX6_readAtom_97 ?_
        refine lv_topi (fun f16 ef16 => ?_)
        refine ca_X6_put X hK hG hC hS hb a0 h0 f16 wl_3_232 hl.1 (rest := []) rfl (Nat.le_of_ble_eq_true rfl) ⟨Nat.le_of_ble_eq_true rfl, Nat.le_of_ble_eq_true rfl⟩ ⟨Nat.le_of_ble_eq_true rfl, Nat.le_of_ble_eq_true rfl⟩ dX6_readAtom_98 (fun H locs hG hS => ?_)
        refine lv_aload_n X.1 X.2.1 dX6_readAtom_101 rfl (lv_at hl 1 rfl) ?_
        refine ca_X10_step X hK hG hC hS hb a1 h1 wl_3_229 hl.1 (rest := []) rfl (Nat.le_of_ble_eq_true rfl) ⟨Nat.le_of_ble_eq_true rfl, Nat.le_of_ble_eq_true rfl⟩ ⟨Nat.le_of_ble_eq_true rfl, Nat.le_of_ble_eq_true rfl⟩ dX6_readAtom_102 (fun H locs hG hS => ?_)
        refine lv_iconst (v := 1) X.1 X.2.1 dX6_readAtom_105 (by decide +kernel) ?_
        exact sg_zret X hr (sg_zn (iv_of (iv_c 1 (a := 1) (b := 1) (by decide +kernel)) (a' := 0) (b' := 1) (by decide +kernel))) hlk hb hK hC hG hS (iv_of (iv_c 1 (a := 1) (b := 1) (by decide +kernel)) (a' := 0) (b' := 1) (by decide +kernel)) dX6_readAtom_106
      refine lv_icmp_ne (tgt := 88) X.1 X.2.1 dX6_readAtom_81 (by decide) (fun c12 => ?_) (fun c12 => ?_)
      · refine lv_iconst (v := 0) X.1 X.2.1 dX6_readAtom_88 (by decide +kernel) ?_
        exact B13_89 _ _ 0 hS (lv_sub hl [2, 3, 0] rfl) (iv_of (iv_c 0 (a := 0) (b := 0) (by decide +kernel)) (a' := 0) (b' := 1) (by decide +kernel))
      · refine lv_iconst (v := 1) X.1 X.2.1 dX6_readAtom_84 (by decide +kernel) ?_
        refine lv_goto (tgt := 89) X.1 X.2.1 dX6_readAtom_85 (by decide) ?_
        exact B13_89 _ _ 1 hS (lv_sub hl [2, 3, 0] rfl) (iv_of (iv_c 1 (a := 1) (b := 1) (by decide +kernel)) (a' := 0) (b' := 1) (by decide +kernel))
  · refine lv_iload_n X.1 X.2.1 dX6_readAtom_11 rfl (lv_at hl 3 rfl) ?_
    refine lv_bipush (v := 6) X.1 X.2.1 dX6_readAtom_12 (by decide +kernel) ?_
    refine lv_icmp_lt (tgt := 22) X.1 X.2.1 dX6_readAtom_14 (by decide) (fun c19 => ?_) (fun c19 => ?_)
    · exact ((iv_no (iv_lt (b' := 5) c19 h2 (iv_c 6 (a := 6) (b := 6) (by decide +kernel)) (by decide +kernel)) (by decide +kernel))).elim
    · refine lv_aload_n X.1 X.2.1 dX6_readAtom_17 rfl (lv_at hl 2 rfl) ?_
      refine ca_X10_wrong X hK hG hC hS hb a1 h1 wl_3_228 hl.1 (rest := []) rfl (Nat.le_of_ble_eq_true rfl) ⟨Nat.le_of_ble_eq_true rfl, Nat.le_of_ble_eq_true rfl⟩ ⟨Nat.le_of_ble_eq_true rfl, Nat.le_of_ble_eq_true rfl⟩ dX6_readAtom_18 (fun f20 H locs hf20 hG hS => ?_)
      exact sg_zret X hr (sg_zn hf20) hlk hb hK hC hG hS hf20 dX6_readAtom_21

theorem ca_X6_readAtom_6   (X : CallFix p m c cc nL s args sg_tbl own) (hK : va_K D vwCl tys s) (hG : sgG (KT P) D vwCl (fun q : Nat => base ≤ q) tys ad ks H) (hC : sgC base s) (hS : va_S (fun q : Nat => base ≤ q) s.heap H locs) (hb : base ≤ s.heap.size) (a0 : Nat) (h0 : isK ad ks 6 a0) (a1 : Nat) (h1 : isK ad ks 10 a1) (x2 : Int32) (h2 : iv 6 6 x2) (hl : Cond.methodLink own index yX6_readAtom ∈ sg_tbl) (hsize : ls.size = nL) (hst : st0 = [.ref a1, .int x2].reverse ++ .ref a0 :: rest) (hW : (rest.map fun v => v.category).sum ≤ 8) (hR : 5 ≤ R.frames ∧ 116 ≤ R.locals) (hf : cells ≤ R.cells ∧ slots ≤ R.slots) (hdg : decode cc pc = .ok (.invokevirtual index, 3)) (kk : ∀ (r : Int32) (H1 : Heap) (locs1 : List Loc), (fun r : Int32 => iv 0 1 r) r → sgG (KT P) D vwCl (fun q : Nat => base ≤ q) tys ad ks H1 → va_S (fun q : Nat => base ≤ q) s.heap H1 locs1 → W p l e R s m args below meth c H1 locs1 cells slots Q (F0 m (pc + 3) ls (.int r :: rest))) : W p l e R s m args below meth c H locs cells slots Q (F0 m pc ls st0) :=
  sg_callVi X hK hG hC hS hb (m_X6_readAtom_6 l a0 h0 a1 h1 x2 h2) h0 (k := 6) (ci := 6) rfl (C := RX6) (T := TX6) (N := 7) rfl wl_3_227 wl_1_3 wl_3_226 wl_0_12 (n := 2) (by decide +kernel) rfl rfl rfl hl hsize hst hW hR hf hdg kk

set_option maxHeartbeats 8000000 in
set_option maxRecDepth 100000 in
theorem m_X6_readSum_6 (l : Launch) {D : va_G} {base : Nat} {tys : List (ClassId × FieldType)} {ad ks : List Nat} {P : sgPm} (a0 : Nat) (h0 : isK ad ks 6 a0) (a1 : Nat) (h1 : isK ad ks 10 a1) (x2 : Int32) (h2 : iv 6 6 x2) : sgMi l (KT P) D vwCl base tys ad ks yX6_readSum cX6_readSum 7 (some .boolean) ({ frames := 5, cells := 0, slots := 0, locals := 116 }) [.ref a0, .ref a1, .int x2] (fun r : Int32 => iv 0 1 r) := by
  refine sg_ofW (by decide +kernel) (Nat.le_of_ble_eq_true rfl) (fun p e s m below meth c X hr hlk hb hK hC hG ls hl => ?_)
  have hS : va_S (fun q : Nat => base ≤ q) s.heap s.heap [] := va_S.rf
  have hl : lv_has ls 7 [(0, .ref a0), (1, .ref a1), (2, .int x2)] := hl
  refine lv_aload_n X.1 X.2.1 dX6_readSum_0 rfl (lv_at hl 0 rfl) ?_
  refine lv_aload_n X.1 X.2.1 dX6_readSum_1 rfl (lv_at hl 1 rfl) ?_
  refine lv_iload_n X.1 X.2.1 dX6_readSum_2 rfl (lv_at hl 2 rfl) ?_
  refine ca_X6_readAtom_6 X hK hG hC hS hb a0 h0 a1 h1 x2 h2 wl_3_224 hl.1 (rest := []) rfl (Nat.le_of_ble_eq_true rfl) ⟨Nat.le_of_ble_eq_true rfl, Nat.le_of_ble_eq_true rfl⟩ ⟨Nat.le_of_ble_eq_true rfl, Nat.le_of_ble_eq_true rfl⟩ dX6_readSum_3 (fun f1 H locs hf1 hG hS => ?_)
  refine lv_if_ne (tgt := 11) X.1 X.2.1 dX6_readSum_6 (by decide) (fun c2 => ?_) (fun c2 => ?_)
  · refine lv_iconst (v := 0) X.1 X.2.1 dX6_readSum_11 (by decide +kernel) ?_
    refine lv_istore_n (lv' := [(3, .int 0), (0, .ref a0), (1, .ref a1), (2, .int x2)]) X.1 X.2.1 dX6_readSum_12 rfl hl (by decide) rfl (fun ls hl => ?_)
    refine lv_iconst (v := 0) X.1 X.2.1 dX6_readSum_13 (by decide +kernel) ?_
    refine lv_istore (lv' := [(4, .int 0), (3, .int 0), (0, .ref a0), (1, .ref a1), (2, .int x2)]) X.1 X.2.1 dX6_readSum_14 hl (by decide) rfl (fun ls hl => ?_)
    have B3_16 : ∀ (N : Nat) (H : Heap) (locs : List Loc) (ls : Array Slot) (z3_3 : Int32) (z3_4 : Int32), sgG (KT P) D vwCl (fun q : Nat => base ≤ q) tys ad ks H → va_S (fun q : Nat => base ≤ q) s.heap H locs → lv_has ls 7 [(0, .ref a0), (1, .ref a1), (2, .int x2), (3, .int z3_3), (4, .int z3_4)] → iv (-11) 0 z3_3 → iv 0 240 z3_4 → (241 - z3_4.toInt).toNat ≤ N → W p l e (headSpec (Cond.code yX6_readSum cX6_readSum 7 (some .boolean) :: sg_tbl) ({ frames := 5, cells := 0, slots := 0, locals := 116 })).room s m #[.ref a0, .ref a1, .int x2] below meth c H locs 0 0 (MQ below (va_Qi (fun r (_ : Unit) => (fun r : Int32 => iv 0 1 r) r) (fun _ => sgB (KT P) D vwCl base tys ad ks) (fun q : Nat => base ≤ q)) #[.ref a0, .ref a1, .int x2] s 0 0 (fun q : Nat => base ≤ q)) (F0 m 16 ls []) := by
      intro N; induction N with
      | zero =>
        intro H locs ls z3_3 z3_4 hG hS hl hz3_3 hz3_4 hN
        exact absurd hN (by have := iv_up hz3_4; omega)
      | succ N ih3 =>
        intro H locs ls z3_3 z3_4 hG hS hl hz3_3 hz3_4 hN3
        refine lv_iload X.1 X.2.1 dX6_readSum_16 (lv_at hl 4 rfl) ?_
        refine lv_sipush (v := 240) X.1 X.2.1 dX6_readSum_18 (by decide +kernel) ?_
        refine lv_icmp_ge (tgt := 148) X.1 X.2.1 dX6_readSum_21 (by decide) (fun c4 => ?_) (fun c4 => ?_)
        · refine lv_aload_n X.1 X.2.1 dX6_readSum_148 rfl (lv_at hl 1 rfl) ?_
          refine ca_X10_wrong X hK hG hC hS hb a1 h1 wl_3_228 hl.1 (rest := []) rfl (Nat.le_of_ble_eq_true rfl) ⟨Nat.le_of_ble_eq_true rfl, Nat.le_of_ble_eq_true rfl⟩ ⟨Nat.le_of_ble_eq_true rfl, Nat.le_of_ble_eq_true rfl⟩ dX6_readSum_149 (fun f5 H locs hf5 hG hS => ?_)
          exact sg_zret X hr (sg_zn hf5) hlk hb hK hC hG hS hf5 dX6_readSum_152
        · refine lv_aload_n X.1 X.2.1 dX6_readSum_24 rfl (lv_at hl 1 rfl) ?_
          refine ca_X10_sign X hK hG hC (fun _ h => h) hS hb a1 h1 wl_3_219 hl.1 (rest := []) rfl (Nat.le_of_ble_eq_true rfl) ⟨Nat.le_of_ble_eq_true rfl, Nat.le_of_ble_eq_true rfl⟩ ⟨Nat.le_of_ble_eq_true rfl, Nat.le_of_ble_eq_true rfl⟩ dX6_readSum_25 (fun f6 locs hf6 hS => ?_)
          refine lv_istore (lv' := [(5, .int f6), (0, .ref a0), (1, .ref a1), (2, .int x2), (3, .int z3_3), (4, .int z3_4)]) X.1 X.2.1 dX6_readSum_28 hl (by decide) rfl (fun ls hl => ?_)
          refine lv_iload X.1 X.2.1 dX6_readSum_30 (lv_at hl 0 rfl) ?_
          refine lv_bipush (v := 42) X.1 X.2.1 dX6_readSum_32 (by decide +kernel) ?_
          have B8_49 : ∀ (locs : List Loc) (ls : Array Slot) (w8_0 : Int32), va_S (fun q : Nat => base ≤ q) s.heap H locs → lv_has ls 7 [(0, .ref a0), (1, .ref a1), (2, .int x2), (3, .int z3_3), (4, .int z3_4), (5, .int f6)] → iv 0 1 w8_0 → W p l e (headSpec (Cond.code yX6_readSum cX6_readSum 7 (some .boolean) :: sg_tbl) ({ frames := 5, cells := 0, slots := 0, locals := 116 })).room s m #[.ref a0, .ref a1, .int x2] below meth c H locs 0 0 (MQ below (va_Qi (fun r (_ : Unit) => (fun r : Int32 => iv 0 1 r) r) (fun _ => sgB (KT P) D vwCl base tys ad ks) (fun q : Nat => base ≤ q)) #[.ref a0, .ref a1, .int x2] s 0 0 (fun q : Nat => base ≤ q)) (F0 m 49 ls [.int w8_0]) := by
            intro locs ls w8_0 hS hl hw8_0
            refine lv_istore (lv' := [(6, .int w8_0), (0, .ref a0), (1, .ref a1), (2, .int x2), (3, .int z3_3), (4, .int z3_4), (5, .int f6)]) X.1 X.2.1 dX6_readSum_49 hl (by decide) rfl (fun ls hl => ?_)
            refine lv_iload X.1 X.2.1 dX6_readSum_51 (lv_at hl 0 rfl) ?_
            have B10_65 : ∀ (H : Heap) (locs : List Loc) (ls : Array Slot), sgG (KT P) D vwCl (fun q : Nat => base ≤ q) tys ad ks H → va_S (fun q : Nat => base ≤ q) s.heap H locs → lv_has ls 7 [(0, .ref a0), (1, .ref a1), (2, .int x2), (3, .int z3_3), (4, .int z3_4), (5, .int f6), (6, .int w8_0)] → W p l e (headSpec (Cond.code yX6_readSum cX6_readSum 7 (some .boolean) :: sg_tbl) ({ frames := 5, cells := 0, slots := 0, locals := 116 })).room s m #[.ref a0, .ref a1, .int x2] below meth c H locs 0 0 (MQ below (va_Qi (fun r (_ : Unit) => (fun r : Int32 => iv 0 1 r) r) (fun _ => sgB (KT P) D vwCl base tys ad ks) (fun q : Nat => base ≤ q)) #[.ref a0, .ref a1, .int x2] s 0 0 (fun q : Nat => base ≤ q)) (F0 m 65 ls []) := by
              intro H locs ls hG hS hl
              refine lv_iload X.1 X.2.1 dX6_readSum_65 (lv_at hl 6 rfl) ?_
              have B12_86 : ∀ (locs : List Loc) (ls : Array Slot), va_S (fun q : Nat => base ≤ q) s.heap H locs → lv_has ls 7 [(0, .ref a0), (1, .ref a1), (2, .int x2), (3, .int z3_3), (4, .int z3_4), (5, .int f6), (6, .int w8_0)] → W p l e (headSpec (Cond.code yX6_readSum cX6_readSum 7 (some .boolean) :: sg_tbl) ({ frames := 5, cells := 0, slots := 0, locals := 116 })).room s m #[.ref a0, .ref a1, .int x2] below meth c H locs 0 0 (MQ below (va_Qi (fun r (_ : Unit) => (fun r : Int32 => iv 0 1 r) r) (fun _ => sgB (KT P) D vwCl base tys ad ks) (fun q : Nat => base ≤ q)) #[.ref a0, .ref a1, .int x2] s 0 0 (fun q : Nat => base ≤ q)) (F0 m 86 ls []) := by
                intro locs ls hS hl
                refine lv_aload_n X.1 X.2.1 dX6_readSum_86 rfl (lv_at hl 1 rfl) ?_
                refine ca_X10_step X hK hG hC hS hb a1 h1 wl_3_229 hl.1 (rest := []) rfl (Nat.le_of_ble_eq_true rfl) ⟨Nat.le_of_ble_eq_true rfl, Nat.le_of_ble_eq_true rfl⟩ ⟨Nat.le_of_ble_eq_true rfl, Nat.le_of_ble_eq_true rfl⟩ dX6_readSum_87 (fun H locs hG hS => ?_)
                refine lv_aload_n X.1 X.2.1 dX6_readSum_90 rfl (lv_at hl 0 rfl) ?_
                refine lv_aload_n X.1 X.2.1 dX6_readSum_91 rfl (lv_at hl 1 rfl) ?_
                refine lv_iload_n X.1 X.2.1 dX6_readSum_92 rfl (lv_at hl 2 rfl) ?_
                refine ca_X6_readAtom_6 X hK hG hC hS hb a0 h0 a1 h1 x2 h2 wl_3_224 hl.1 (rest := []) rfl (Nat.le_of_ble_eq_true rfl) ⟨Nat.le_of_ble_eq_true rfl, Nat.le_of_ble_eq_true rfl⟩ ⟨Nat.le_of_ble_eq_true rfl, Nat.le_of_ble_eq_true rfl⟩ dX6_readSum_93 (fun f14 H locs hf14 hG hS => ?_)
                refine lv_if_ne (tgt := 101) X.1 X.2.1 dX6_readSum_96 (by decide) (fun c15 => ?_) (fun c15 => ?_)
                · refine lv_iload X.1 X.2.1 dX6_readSum_101 (lv_at hl 6 rfl) ?_
                  have B17_142 : ∀ (H : Heap) (locs : List Loc) (ls : Array Slot) (z17_3 : Int32), sgG (KT P) D vwCl (fun q : Nat => base ≤ q) tys ad ks H → va_S (fun q : Nat => base ≤ q) s.heap H locs → lv_has ls 7 [(0, .ref a0), (1, .ref a1), (2, .int x2), (3, .int z17_3), (4, .int z3_4)] → iv (-11) 0 z17_3 → W p l e (headSpec (Cond.code yX6_readSum cX6_readSum 7 (some .boolean) :: sg_tbl) ({ frames := 5, cells := 0, slots := 0, locals := 116 })).room s m #[.ref a0, .ref a1, .int x2] below meth c H locs 0 0 (MQ below (va_Qi (fun r (_ : Unit) => (fun r : Int32 => iv 0 1 r) r) (fun _ => sgB (KT P) D vwCl base tys ad ks) (fun q : Nat => base ≤ q)) #[.ref a0, .ref a1, .int x2] s 0 0 (fun q : Nat => base ≤ q)) (F0 m 142 ls []) := by
                    intro H locs ls z17_3 hG hS hl hz17_3
                    obtain ⟨y18, ey18⟩ : ∃ y : Int32, y = z3_4 + Int32.ofInt 1 := ⟨_, rfl⟩
                    refine lv_iinc (v := y18) (lv' := [(4, .int y18), (0, .ref a0), (1, .ref a1), (2, .int x2), (3, .int z17_3)]) X.1 X.2.1 dX6_readSum_142 hl (k := 4) rfl ey18.symm (by decide) rfl (fun ls hl => ?_)
                    refine lv_goto (tgt := 16) X.1 X.2.1 dX6_readSum_145 (by decide) ?_
                    exact ih3 H _ _ z17_3 y18 hG hS (lv_sub hl [1, 2, 3, 4, 0] rfl) hz17_3 (iv_of (iv_add (a' := 1) (b' := 240) ey18 (iv_lt (b' := 239) (iv_gt_of c4) hz3_4 (iv_c 240 (a := 240) (b := 240) (by decide +kernel)) (by decide +kernel)) (iv_c _ (a := 1) (b := 1) (by decide +kernel)) (by decide +kernel)) (a' := 0) (b' := 240) (by decide +kernel)) (iv_stepU ey18 (iv_lt (b' := 239) (iv_gt_of c4) hz3_4 (iv_c 240 (a := 240) (b := 240) (by decide +kernel)) (by decide +kernel)) (by decide +kernel) hN3)
                  refine lv_if_eq (tgt := 127) X.1 X.2.1 dX6_readSum_103 (by decide) (fun c16 => ?_) (fun c16 => ?_)
                  · refine lv_iload X.1 X.2.1 dX6_readSum_127 (lv_at hl 5 rfl) ?_
                    refine lv_bipush (v := 43) X.1 X.2.1 dX6_readSum_129 (by decide +kernel) ?_
                    have B20_141 : ∀ (locs : List Loc) (ls : Array Slot) (w20_0 : Int32), va_S (fun q : Nat => base ≤ q) s.heap H locs → lv_has ls 7 [(0, .ref a0), (1, .ref a1), (2, .int x2), (4, .int z3_4)] → iv (-11) (-10) w20_0 → W p l e (headSpec (Cond.code yX6_readSum cX6_readSum 7 (some .boolean) :: sg_tbl) ({ frames := 5, cells := 0, slots := 0, locals := 116 })).room s m #[.ref a0, .ref a1, .int x2] below meth c H locs 0 0 (MQ below (va_Qi (fun r (_ : Unit) => (fun r : Int32 => iv 0 1 r) r) (fun _ => sgB (KT P) D vwCl base tys ad ks) (fun q : Nat => base ≤ q)) #[.ref a0, .ref a1, .int x2] s 0 0 (fun q : Nat => base ≤ q)) (F0 m 141 ls [.int w20_0]) := by
                      intro locs ls w20_0 hS hl hw20_0
                      refine lv_istore_n (lv' := [(3, .int w20_0), (0, .ref a0), (1, .ref a1), (2, .int x2), (4, .int z3_4)]) X.1 X.2.1 dX6_readSum_141 rfl hl (by decide) rfl (fun ls hl => ?_)
                      exact B17_142 H _ _ w20_0 hG hS (lv_sub hl [1, 2, 3, 0, 4] rfl) (iv_of hw20_0 (a' := (-11)) (b' := 0) (by decide +kernel))
                    refine lv_icmp_ne (tgt := 139) X.1 X.2.1 dX6_readSum_131 (by decide) (fun c19 => ?_) (fun c19 => ?_)
                    · refine lv_bipush (v := (-11)) X.1 X.2.1 dX6_readSum_139 (by decide +kernel) ?_
                      exact B20_141 _ _ (-11) hS (lv_sub hl [0, 1, 2, 4] rfl) (iv_of (iv_c (-11) (a := (-11)) (b := (-11)) (by decide +kernel)) (a' := (-11)) (b' := (-10)) (by decide +kernel))
                    · refine lv_bipush (v := (-10)) X.1 X.2.1 dX6_readSum_134 (by decide +kernel) ?_
                      refine lv_goto (tgt := 141) X.1 X.2.1 dX6_readSum_136 (by decide) ?_
                      exact B20_141 _ _ (-10) hS (lv_sub hl [0, 1, 2, 4] rfl) (iv_of (iv_c (-10) (a := (-10)) (b := (-10)) (by decide +kernel)) (a' := (-11)) (b' := (-10)) (by decide +kernel))
                  · refine lv_aload_n X.1 X.2.1 dX6_readSum_106 rfl (lv_at hl 0 rfl) ?_
                    refine lv_iload X.1 X.2.1 dX6_readSum_107 (lv_at hl 5 rfl) ?_
                    refine lv_bipush (v := 42) X.1 X.2.1 dX6_readSum_109 (by decide +kernel) ?_
                    have B22_121 : ∀ (locs : List Loc) (ls : Array Slot) (w22_0 : Int32), va_S (fun q : Nat => base ≤ q) s.heap H locs → lv_has ls 7 [(0, .ref a0), (1, .ref a1), (2, .int x2), (3, .int z3_3), (4, .int z3_4)] → iv (-13) (-12) w22_0 → W p l e (headSpec (Cond.code yX6_readSum cX6_readSum 7 (some .boolean) :: sg_tbl) ({ frames := 5, cells := 0, slots := 0, locals := 116 })).room s m #[.ref a0, .ref a1, .int x2] below meth c H locs 0 0 (MQ below (va_Qi (fun r (_ : Unit) => (fun r : Int32 => iv 0 1 r) r) (fun _ => sgB (KT P) D vwCl base tys ad ks) (fun q : Nat => base ≤ q)) #[.ref a0, .ref a1, .int x2] s 0 0 (fun q : Nat => base ≤ q)) (F0 m 121 ls [.int w22_0, .ref a0]) := by
                      intro locs ls w22_0 hS hl hw22_0
                      refine ca_X6_put X hK hG hC hS hb a0 h0 w22_0 wl_3_232 hl.1 (rest := []) rfl (Nat.le_of_ble_eq_true rfl) ⟨Nat.le_of_ble_eq_true rfl, Nat.le_of_ble_eq_true rfl⟩ ⟨Nat.le_of_ble_eq_true rfl, Nat.le_of_ble_eq_true rfl⟩ dX6_readSum_121 (fun H locs hG hS => ?_)
                      refine lv_goto (tgt := 142) X.1 X.2.1 dX6_readSum_124 (by decide) ?_
                      exact B17_142 H _ _ z3_3 hG hS (lv_sub hl [0, 1, 2, 3, 4] rfl) hz3_3
                    refine lv_icmp_ne (tgt := 119) X.1 X.2.1 dX6_readSum_111 (by decide) (fun c21 => ?_) (fun c21 => ?_)
                    · refine lv_bipush (v := (-13)) X.1 X.2.1 dX6_readSum_119 (by decide +kernel) ?_
                      exact B22_121 _ _ (-13) hS (lv_sub hl [0, 1, 2, 3, 4] rfl) (iv_of (iv_c (-13) (a := (-13)) (b := (-13)) (by decide +kernel)) (a' := (-13)) (b' := (-12)) (by decide +kernel))
                    · refine lv_bipush (v := (-12)) X.1 X.2.1 dX6_readSum_114 (by decide +kernel) ?_
                      refine lv_goto (tgt := 121) X.1 X.2.1 dX6_readSum_116 (by decide) ?_
                      exact B22_121 _ _ (-12) hS (lv_sub hl [0, 1, 2, 3, 4] rfl) (iv_of (iv_c (-12) (a := (-12)) (b := (-12)) (by decide +kernel)) (a' := (-13)) (b' := (-12)) (by decide +kernel))
                · refine lv_iconst (v := 0) X.1 X.2.1 dX6_readSum_99 (by decide +kernel) ?_
                  exact sg_zret X hr (sg_zn (iv_of (iv_c 0 (a := 0) (b := 0) (by decide +kernel)) (a' := 0) (b' := 1) (by decide +kernel))) hlk hb hK hC hG hS (iv_of (iv_c 0 (a := 0) (b := 0) (by decide +kernel)) (a' := 0) (b' := 1) (by decide +kernel)) dX6_readSum_100
              refine lv_if_ne (tgt := 86) X.1 X.2.1 dX6_readSum_67 (by decide) (fun c11 => ?_) (fun c11 => ?_)
              · exact B12_86 _ _ hS (lv_sub hl [0, 1, 2, 3, 4, 5, 6] rfl)
              · refine lv_iload X.1 X.2.1 dX6_readSum_70 (lv_at hl 5 rfl) ?_
                refine lv_bipush (v := 43) X.1 X.2.1 dX6_readSum_72 (by decide +kernel) ?_
                refine lv_icmp_eq (tgt := 86) X.1 X.2.1 dX6_readSum_74 (by decide) (fun c24 => ?_) (fun c24 => ?_)
                · exact B12_86 _ _ hS (lv_sub hl [0, 1, 2, 3, 4, 5, 6] rfl)
                · refine lv_iload X.1 X.2.1 dX6_readSum_77 (lv_at hl 5 rfl) ?_
                  refine lv_bipush (v := 45) X.1 X.2.1 dX6_readSum_79 (by decide +kernel) ?_
                  refine lv_icmp_eq (tgt := 86) X.1 X.2.1 dX6_readSum_81 (by decide) (fun c25 => ?_) (fun c25 => ?_)
                  · exact B12_86 _ _ hS (lv_sub hl [0, 1, 2, 3, 4, 5, 6] rfl)
                  · refine lv_iconst (v := 1) X.1 X.2.1 dX6_readSum_84 (by decide +kernel) ?_
                    exact sg_zret X hr (sg_zn (iv_of (iv_c 1 (a := 1) (b := 1) (by decide +kernel)) (a' := 0) (b' := 1) (by decide +kernel))) hlk hb hK hC hG hS (iv_of (iv_c 1 (a := 1) (b := 1) (by decide +kernel)) (a' := 0) (b' := 1) (by decide +kernel)) dX6_readSum_85
            refine lv_if_ne (tgt := 65) X.1 X.2.1 dX6_readSum_53 (by decide) (fun c9 => ?_) (fun c9 => ?_)
            · exact B10_65 H _ _ hG hS (lv_sub hl [1, 2, 3, 4, 5, 6, 0] rfl)
            · refine lv_iload_n X.1 X.2.1 dX6_readSum_56 rfl (lv_at hl 4 rfl) ?_
              refine lv_if_eq (tgt := 65) X.1 X.2.1 dX6_readSum_57 (by decide) (fun c26 => ?_) (fun c26 => ?_)
              · exact B10_65 H _ _ hG hS (lv_sub hl [1, 2, 3, 4, 5, 6, 0] rfl)
              · refine lv_aload_n X.1 X.2.1 dX6_readSum_60 rfl (lv_at hl 1 rfl) ?_
                refine lv_iload_n X.1 X.2.1 dX6_readSum_61 rfl (lv_at hl 4 rfl) ?_
                refine ca_X6_put X hK hG hC hS hb a0 h0 z3_3 wl_3_232 hl.1 (rest := []) rfl (Nat.le_of_ble_eq_true rfl) ⟨Nat.le_of_ble_eq_true rfl, Nat.le_of_ble_eq_true rfl⟩ ⟨Nat.le_of_ble_eq_true rfl, Nat.le_of_ble_eq_true rfl⟩ dX6_readSum_62 (fun H locs hG hS => ?_)
                exact B10_65 H _ _ hG hS (lv_sub hl [1, 2, 3, 4, 5, 6, 0] rfl)
          have B28_44 : ∀ (locs : List Loc) (ls : Array Slot), va_S (fun q : Nat => base ≤ q) s.heap H locs → lv_has ls 7 [(0, .ref a0), (1, .ref a1), (2, .int x2), (3, .int z3_3), (4, .int z3_4), (5, .int f6)] → W p l e (headSpec (Cond.code yX6_readSum cX6_readSum 7 (some .boolean) :: sg_tbl) ({ frames := 5, cells := 0, slots := 0, locals := 116 })).room s m #[.ref a0, .ref a1, .int x2] below meth c H locs 0 0 (MQ below (va_Qi (fun r (_ : Unit) => (fun r : Int32 => iv 0 1 r) r) (fun _ => sgB (KT P) D vwCl base tys ad ks) (fun q : Nat => base ≤ q)) #[.ref a0, .ref a1, .int x2] s 0 0 (fun q : Nat => base ≤ q)) (F0 m 44 ls []) := by
            intro locs ls hS hl
            refine lv_iconst (v := 1) X.1 X.2.1 dX6_readSum_44 (by decide +kernel) ?_
            refine lv_goto (tgt := 49) X.1 X.2.1 dX6_readSum_45 (by decide) ?_
            exact B8_49 _ _ 1 hS (lv_sub hl [0, 1, 2, 3, 4, 5] rfl) (iv_of (iv_c 1 (a := 1) (b := 1) (by decide +kernel)) (a' := 0) (b' := 1) (by decide +kernel))
          refine lv_icmp_eq (tgt := 44) X.1 X.2.1 dX6_readSum_34 (by decide) (fun c7 => ?_) (fun c7 => ?_)
          · exact B28_44 _ _ hS (lv_sub hl [1, 2, 3, 4, 5, 0] rfl)
          · refine lv_iload X.1 X.2.1 dX6_readSum_37 (lv_at hl 0 rfl) ?_
            refine lv_bipush (v := 47) X.1 X.2.1 dX6_readSum_39 (by decide +kernel) ?_
            refine lv_icmp_ne (tgt := 48) X.1 X.2.1 dX6_readSum_41 (by decide) (fun c29 => ?_) (fun c29 => ?_)
            · refine lv_iconst (v := 0) X.1 X.2.1 dX6_readSum_48 (by decide +kernel) ?_
              exact B8_49 _ _ 0 hS (lv_sub hl [1, 2, 3, 4, 5, 0] rfl) (iv_of (iv_c 0 (a := 0) (b := 0) (by decide +kernel)) (a' := 0) (b' := 1) (by decide +kernel))
            · exact B28_44 _ _ hS (lv_sub hl [1, 2, 3, 4, 5, 0] rfl)
    exact B3_16 _ H _ _ 0 0 hG hS (lv_sub hl [2, 3, 4, 1, 0] rfl) (iv_of (iv_c 0 (a := 0) (b := 0) (by decide +kernel)) (a' := (-11)) (b' := 0) (by decide +kernel)) (iv_of (iv_c 0 (a := 0) (b := 0) (by decide +kernel)) (a' := 0) (b' := 240) (by decide +kernel)) (Nat.le_refl _)
  · refine lv_iconst (v := 0) X.1 X.2.1 dX6_readSum_9 (by decide +kernel) ?_
    exact sg_zret X hr (sg_zn (iv_of (iv_c 0 (a := 0) (b := 0) (by decide +kernel)) (a' := 0) (b' := 1) (by decide +kernel))) hlk hb hK hC hG hS (iv_of (iv_c 0 (a := 0) (b := 0) (by decide +kernel)) (a' := 0) (b' := 1) (by decide +kernel)) dX6_readSum_10

theorem ca_X6_readSum_6   (X : CallFix p m c cc nL s args sg_tbl own) (hK : va_K D vwCl tys s) (hG : sgG (KT P) D vwCl (fun q : Nat => base ≤ q) tys ad ks H) (hC : sgC base s) (hS : va_S (fun q : Nat => base ≤ q) s.heap H locs) (hb : base ≤ s.heap.size) (a0 : Nat) (h0 : isK ad ks 6 a0) (a1 : Nat) (h1 : isK ad ks 10 a1) (x2 : Int32) (h2 : iv 6 6 x2) (hl : Cond.methodLink own index yX6_readSum ∈ sg_tbl) (hsize : ls.size = nL) (hst : st0 = [.ref a1, .int x2].reverse ++ .ref a0 :: rest) (hW : (rest.map fun v => v.category).sum ≤ 8) (hR : 6 ≤ R.frames ∧ 142 ≤ R.locals) (hf : cells ≤ R.cells ∧ slots ≤ R.slots) (hdg : decode cc pc = .ok (.invokevirtual index, 3)) (kk : ∀ (r : Int32) (H1 : Heap) (locs1 : List Loc), (fun r : Int32 => iv 0 1 r) r → sgG (KT P) D vwCl (fun q : Nat => base ≤ q) tys ad ks H1 → va_S (fun q : Nat => base ≤ q) s.heap H1 locs1 → W p l e R s m args below meth c H1 locs1 cells slots Q (F0 m (pc + 3) ls (.int r :: rest))) : W p l e R s m args below meth c H locs cells slots Q (F0 m pc ls st0) :=
  sg_callVi X hK hG hC hS hb (m_X6_readSum_6 l a0 h0 a1 h1 x2 h2) h0 (k := 6) (ci := 6) rfl (C := RX6) (T := TX6) (N := 7) rfl wl_3_223 wl_1_3 wl_3_222 wl_0_11 (n := 2) (by decide +kernel) rfl rfl rfl hl hsize hst hW hR hf hdg kk

set_option maxHeartbeats 8000000 in
set_option maxRecDepth 100000 in
theorem m_X6_readComparison_6 (l : Launch) {D : va_G} {base : Nat} {tys : List (ClassId × FieldType)} {ad ks : List Nat} {P : sgPm} (a0 : Nat) (h0 : isK ad ks 6 a0) (a1 : Nat) (h1 : isK ad ks 10 a1) (x2 : Int32) (h2 : iv 6 6 x2) : sgMi l (KT P) D vwCl base tys ad ks yX6_readComparison cX6_readComparison 4 (some .boolean) ({ frames := 6, cells := 0, slots := 0, locals := 142 }) [.ref a0, .ref a1, .int x2] (fun r : Int32 => iv 0 1 r) := by
  refine sg_ofW (by decide +kernel) (Nat.le_of_ble_eq_true rfl) (fun p e s m below meth c X hr hlk hb hK hC hG ls hl => ?_)
  have hS : va_S (fun q : Nat => base ≤ q) s.heap s.heap [] := va_S.rf
  have hl : lv_has ls 4 [(0, .ref a0), (1, .ref a1), (2, .int x2)] := hl
  refine lv_aload_n X.1 X.2.1 dX6_readComparison_0 rfl (lv_at hl 1 rfl) ?_
  refine ca_X10_sign X hK hG hC (fun _ h => h) hS hb a1 h1 wl_3_219 hl.1 (rest := []) rfl (Nat.le_of_ble_eq_true rfl) ⟨Nat.le_of_ble_eq_true rfl, Nat.le_of_ble_eq_true rfl⟩ ⟨Nat.le_of_ble_eq_true rfl, Nat.le_of_ble_eq_true rfl⟩ dX6_readComparison_1 (fun f1 locs hf1 hS => ?_)
  refine ca_X6_comparison X hK hG hC (fun _ h => h) hS hb f1 wl_3_238 hl.1 (rest := []) rfl (Nat.le_of_ble_eq_true rfl) ⟨Nat.le_of_ble_eq_true rfl, Nat.le_of_ble_eq_true rfl⟩ ⟨Nat.le_of_ble_eq_true rfl, Nat.le_of_ble_eq_true rfl⟩ dX6_readComparison_4 (fun f2 locs hf2 hS => ?_)
  refine lv_istore_n (lv' := [(3, .int f2), (0, .ref a0), (1, .ref a1), (2, .int x2)]) X.1 X.2.1 dX6_readComparison_7 rfl hl (by decide) rfl (fun ls hl => ?_)
  refine lv_iload_n X.1 X.2.1 dX6_readComparison_8 rfl (lv_at hl 0 rfl) ?_
  refine lv_if_ne (tgt := 17) X.1 X.2.1 dX6_readComparison_9 (by decide) (fun c3 => ?_) (fun c3 => ?_)
  · refine lv_aload_n X.1 X.2.1 dX6_readComparison_17 rfl (lv_at hl 2 rfl) ?_
    refine ca_X10_step X hK hG hC hS hb a1 h1 wl_3_229 hl.1 (rest := []) rfl (Nat.le_of_ble_eq_true rfl) ⟨Nat.le_of_ble_eq_true rfl, Nat.le_of_ble_eq_true rfl⟩ ⟨Nat.le_of_ble_eq_true rfl, Nat.le_of_ble_eq_true rfl⟩ dX6_readComparison_18 (fun H locs hG hS => ?_)
    refine lv_aload_n X.1 X.2.1 dX6_readComparison_21 rfl (lv_at hl 1 rfl) ?_
    refine lv_aload_n X.1 X.2.1 dX6_readComparison_22 rfl (lv_at hl 2 rfl) ?_
    refine lv_iload_n X.1 X.2.1 dX6_readComparison_23 rfl (lv_at hl 3 rfl) ?_
    refine ca_X6_readSum_6 X hK hG hC hS hb a0 h0 a1 h1 x2 h2 wl_3_220 hl.1 (rest := []) rfl (Nat.le_of_ble_eq_true rfl) ⟨Nat.le_of_ble_eq_true rfl, Nat.le_of_ble_eq_true rfl⟩ ⟨Nat.le_of_ble_eq_true rfl, Nat.le_of_ble_eq_true rfl⟩ dX6_readComparison_24 (fun f5 H locs hf5 hG hS => ?_)
    refine lv_if_ne (tgt := 32) X.1 X.2.1 dX6_readComparison_27 (by decide) (fun c6 => ?_) (fun c6 => ?_)
    · refine lv_aload_n X.1 X.2.1 dX6_readComparison_32 rfl (lv_at hl 1 rfl) ?_
      refine lv_iload_n X.1 X.2.1 dX6_readComparison_33 rfl (lv_at hl 0 rfl) ?_
      refine ca_X6_put X hK hG hC hS hb a0 h0 f2 wl_3_232 hl.1 (rest := []) rfl (Nat.le_of_ble_eq_true rfl) ⟨Nat.le_of_ble_eq_true rfl, Nat.le_of_ble_eq_true rfl⟩ ⟨Nat.le_of_ble_eq_true rfl, Nat.le_of_ble_eq_true rfl⟩ dX6_readComparison_34 (fun H locs hG hS => ?_)
      refine lv_iconst (v := 1) X.1 X.2.1 dX6_readComparison_37 (by decide +kernel) ?_
      exact sg_zret X hr (sg_zn (iv_of (iv_c 1 (a := 1) (b := 1) (by decide +kernel)) (a' := 0) (b' := 1) (by decide +kernel))) hlk hb hK hC hG hS (iv_of (iv_c 1 (a := 1) (b := 1) (by decide +kernel)) (a' := 0) (b' := 1) (by decide +kernel)) dX6_readComparison_38
    · refine lv_iconst (v := 0) X.1 X.2.1 dX6_readComparison_30 (by decide +kernel) ?_
      exact sg_zret X hr (sg_zn (iv_of (iv_c 0 (a := 0) (b := 0) (by decide +kernel)) (a' := 0) (b' := 1) (by decide +kernel))) hlk hb hK hC hG hS (iv_of (iv_c 0 (a := 0) (b := 0) (by decide +kernel)) (a' := 0) (b' := 1) (by decide +kernel)) dX6_readComparison_31
  · refine lv_aload_n X.1 X.2.1 dX6_readComparison_12 rfl (lv_at hl 2 rfl) ?_
    refine ca_X10_wrong X hK hG hC hS hb a1 h1 wl_3_228 hl.1 (rest := []) rfl (Nat.le_of_ble_eq_true rfl) ⟨Nat.le_of_ble_eq_true rfl, Nat.le_of_ble_eq_true rfl⟩ ⟨Nat.le_of_ble_eq_true rfl, Nat.le_of_ble_eq_true rfl⟩ dX6_readComparison_13 (fun f8 H locs hf8 hG hS => ?_)
    exact sg_zret X hr (sg_zn hf8) hlk hb hK hC hG hS hf8 dX6_readComparison_16

theorem ca_X6_readComparison_6   (X : CallFix p m c cc nL s args sg_tbl own) (hK : va_K D vwCl tys s) (hG : sgG (KT P) D vwCl (fun q : Nat => base ≤ q) tys ad ks H) (hC : sgC base s) (hS : va_S (fun q : Nat => base ≤ q) s.heap H locs) (hb : base ≤ s.heap.size) (a0 : Nat) (h0 : isK ad ks 6 a0) (a1 : Nat) (h1 : isK ad ks 10 a1) (x2 : Int32) (h2 : iv 6 6 x2) (hl : Cond.methodLink own index yX6_readComparison ∈ sg_tbl) (hsize : ls.size = nL) (hst : st0 = [.ref a1, .int x2].reverse ++ .ref a0 :: rest) (hW : (rest.map fun v => v.category).sum ≤ 8) (hR : 7 ≤ R.frames ∧ 165 ≤ R.locals) (hf : cells ≤ R.cells ∧ slots ≤ R.slots) (hdg : decode cc pc = .ok (.invokevirtual index, 3)) (kk : ∀ (r : Int32) (H1 : Heap) (locs1 : List Loc), (fun r : Int32 => iv 0 1 r) r → sgG (KT P) D vwCl (fun q : Nat => base ≤ q) tys ad ks H1 → va_S (fun q : Nat => base ≤ q) s.heap H1 locs1 → W p l e R s m args below meth c H1 locs1 cells slots Q (F0 m (pc + 3) ls (.int r :: rest))) : W p l e R s m args below meth c H locs cells slots Q (F0 m pc ls st0) :=
  sg_callVi X hK hG hC hS hb (m_X6_readComparison_6 l a0 h0 a1 h1 x2 h2) h0 (k := 6) (ci := 6) rfl (C := RX6) (T := TX6) (N := 7) rfl wl_4_4 wl_1_3 wl_4_3 wl_0_14 (n := 2) (by decide +kernel) rfl rfl rfl hl hsize hst hW hR hf hdg kk

set_option maxHeartbeats 8000000 in
set_option maxRecDepth 100000 in
theorem m_X6_readUnit_6 (l : Launch) {D : va_G} {base : Nat} {tys : List (ClassId × FieldType)} {ad ks : List Nat} {P : sgPm} (a0 : Nat) (h0 : isK ad ks 6 a0) (a1 : Nat) (h1 : isK ad ks 10 a1) (x2 : Int32) (h2 : iv 6 6 x2) : sgMi l (KT P) D vwCl base tys ad ks yX6_readUnit cX6_readUnit 4 (some .boolean) ({ frames := 7, cells := 0, slots := 0, locals := 165 }) [.ref a0, .ref a1, .int x2] (fun r : Int32 => iv 0 1 r) := by
  refine sg_ofW (by decide +kernel) (Nat.le_of_ble_eq_true rfl) (fun p e s m below meth c X hr hlk hb hK hC hG ls hl => ?_)
  have hS : va_S (fun q : Nat => base ≤ q) s.heap s.heap [] := va_S.rf
  have hl : lv_has ls 4 [(0, .ref a0), (1, .ref a1), (2, .int x2)] := hl
  refine lv_aload_n X.1 X.2.1 dX6_readUnit_0 rfl (lv_at hl 1 rfl) ?_
  refine ca_X10_sign X hK hG hC (fun _ h => h) hS hb a1 h1 wl_3_219 hl.1 (rest := []) rfl (Nat.le_of_ble_eq_true rfl) ⟨Nat.le_of_ble_eq_true rfl, Nat.le_of_ble_eq_true rfl⟩ ⟨Nat.le_of_ble_eq_true rfl, Nat.le_of_ble_eq_true rfl⟩ dX6_readUnit_1 (fun f1 locs hf1 hS => ?_)
  refine lv_istore_n (lv' := [(3, .int f1), (0, .ref a0), (1, .ref a1), (2, .int x2)]) X.1 X.2.1 dX6_readUnit_4 rfl hl (by decide) rfl (fun ls hl => ?_)
  refine lv_iload_n X.1 X.2.1 dX6_readUnit_5 rfl (lv_at hl 0 rfl) ?_
  refine lv_bipush (v := 33) X.1 X.2.1 dX6_readUnit_6 (by decide +kernel) ?_
  have B3_41 : ∀ (locs : List Loc) (ls : Array Slot), va_S (fun q : Nat => base ≤ q) s.heap s.heap locs → lv_has ls 4 [(0, .ref a0), (1, .ref a1), (2, .int x2), (3, .int f1)] → W p l e (headSpec (Cond.code yX6_readUnit cX6_readUnit 4 (some .boolean) :: sg_tbl) ({ frames := 7, cells := 0, slots := 0, locals := 165 })).room s m #[.ref a0, .ref a1, .int x2] below meth c s.heap locs 0 0 (MQ below (va_Qi (fun r (_ : Unit) => (fun r : Int32 => iv 0 1 r) r) (fun _ => sgB (KT P) D vwCl base tys ad ks) (fun q : Nat => base ≤ q)) #[.ref a0, .ref a1, .int x2] s 0 0 (fun q : Nat => base ≤ q)) (F0 m 41 ls []) := by
    intro locs ls hS hl
    refine lv_iload_n X.1 X.2.1 dX6_readUnit_41 rfl (lv_at hl 2 rfl) ?_
    refine lv_bipush (v := 6) X.1 X.2.1 dX6_readUnit_42 (by decide +kernel) ?_
    refine lv_icmp_lt (tgt := 52) X.1 X.2.1 dX6_readUnit_44 (by decide) (fun c4 => ?_) (fun c4 => ?_)
    · exact ((iv_no (iv_lt (b' := 5) c4 h2 (iv_c 6 (a := 6) (b := 6) (by decide +kernel)) (by decide +kernel)) (by decide +kernel))).elim
    · refine lv_aload_n X.1 X.2.1 dX6_readUnit_47 rfl (lv_at hl 1 rfl) ?_
      refine ca_X10_wrong X hK hG hC hS hb a1 h1 wl_3_228 hl.1 (rest := []) rfl (Nat.le_of_ble_eq_true rfl) ⟨Nat.le_of_ble_eq_true rfl, Nat.le_of_ble_eq_true rfl⟩ ⟨Nat.le_of_ble_eq_true rfl, Nat.le_of_ble_eq_true rfl⟩ dX6_readUnit_48 (fun f5 H locs hf5 hG hS => ?_)
      exact sg_zret X hr (sg_zn hf5) hlk hb hK hC hG hS hf5 dX6_readUnit_51
  refine lv_icmp_eq (tgt := 41) X.1 X.2.1 dX6_readUnit_8 (by decide) (fun c2 => ?_) (fun c2 => ?_)
  · exact B3_41 _ _ hS (lv_sub hl [1, 2, 3, 0] rfl)
  · refine lv_iload_n X.1 X.2.1 dX6_readUnit_11 rfl (lv_at hl 0 rfl) ?_
    refine lv_bipush (v := 40) X.1 X.2.1 dX6_readUnit_12 (by decide +kernel) ?_
    refine lv_icmp_eq (tgt := 41) X.1 X.2.1 dX6_readUnit_14 (by decide) (fun c6 => ?_) (fun c6 => ?_)
    · exact B3_41 _ _ hS (lv_sub hl [1, 2, 3, 0] rfl)
    · refine lv_aload_n X.1 X.2.1 dX6_readUnit_17 rfl (lv_at hl 1 rfl) ?_
      refine lv_aload_n X.1 X.2.1 dX6_readUnit_18 rfl (lv_at hl 2 rfl) ?_
      refine lv_iload_n X.1 X.2.1 dX6_readUnit_19 rfl (lv_at hl 3 rfl) ?_
      refine ca_X6_readSum_6 X hK hG hC hS hb a0 h0 a1 h1 x2 h2 wl_3_220 hl.1 (rest := []) rfl (Nat.le_of_ble_eq_true rfl) ⟨Nat.le_of_ble_eq_true rfl, Nat.le_of_ble_eq_true rfl⟩ ⟨Nat.le_of_ble_eq_true rfl, Nat.le_of_ble_eq_true rfl⟩ dX6_readUnit_20 (fun f7 H locs hf7 hG hS => ?_)
      have B9_39 : ∀ (H : Heap) (locs : List Loc) (ls : Array Slot), sgG (KT P) D vwCl (fun q : Nat => base ≤ q) tys ad ks H → va_S (fun q : Nat => base ≤ q) s.heap H locs → lv_has ls 4 [] → W p l e (headSpec (Cond.code yX6_readUnit cX6_readUnit 4 (some .boolean) :: sg_tbl) ({ frames := 7, cells := 0, slots := 0, locals := 165 })).room s m #[.ref a0, .ref a1, .int x2] below meth c H locs 0 0 (MQ below (va_Qi (fun r (_ : Unit) => (fun r : Int32 => iv 0 1 r) r) (fun _ => sgB (KT P) D vwCl base tys ad ks) (fun q : Nat => base ≤ q)) #[.ref a0, .ref a1, .int x2] s 0 0 (fun q : Nat => base ≤ q)) (F0 m 39 ls []) := by
        intro H locs ls hG hS hl
        refine lv_iconst (v := 0) X.1 X.2.1 dX6_readUnit_39 (by decide +kernel) ?_
        exact sg_zret X hr (sg_zn (iv_of (iv_c 0 (a := 0) (b := 0) (by decide +kernel)) (a' := 0) (b' := 1) (by decide +kernel))) hlk hb hK hC hG hS (iv_of (iv_c 0 (a := 0) (b := 0) (by decide +kernel)) (a' := 0) (b' := 1) (by decide +kernel)) dX6_readUnit_40
      refine lv_if_eq (tgt := 39) X.1 X.2.1 dX6_readUnit_23 (by decide) (fun c8 => ?_) (fun c8 => ?_)
      · exact B9_39 H _ _ hG hS (lv_sub hl [] rfl)
      · refine lv_aload_n X.1 X.2.1 dX6_readUnit_26 rfl (lv_at hl 1 rfl) ?_
        refine lv_aload_n X.1 X.2.1 dX6_readUnit_27 rfl (lv_at hl 2 rfl) ?_
        refine lv_iload_n X.1 X.2.1 dX6_readUnit_28 rfl (lv_at hl 3 rfl) ?_
        refine ca_X6_readComparison_6 X hK hG hC hS hb a0 h0 a1 h1 x2 h2 wl_4_1 hl.1 (rest := []) rfl (Nat.le_of_ble_eq_true rfl) ⟨Nat.le_of_ble_eq_true rfl, Nat.le_of_ble_eq_true rfl⟩ ⟨Nat.le_of_ble_eq_true rfl, Nat.le_of_ble_eq_true rfl⟩ dX6_readUnit_29 (fun f10 H locs hf10 hG hS => ?_)
        refine lv_if_eq (tgt := 39) X.1 X.2.1 dX6_readUnit_32 (by decide) (fun c11 => ?_) (fun c11 => ?_)
        · exact B9_39 H _ _ hG hS (lv_sub hl [] rfl)
        · refine lv_iconst (v := 1) X.1 X.2.1 dX6_readUnit_35 (by decide +kernel) ?_
          refine lv_goto (tgt := 40) X.1 X.2.1 dX6_readUnit_36 (by decide) ?_
          exact sg_zret X hr (sg_zn (iv_of (iv_c 1 (a := 1) (b := 1) (by decide +kernel)) (a' := 0) (b' := 1) (by decide +kernel))) hlk hb hK hC hG hS (iv_of (iv_c 1 (a := 1) (b := 1) (by decide +kernel)) (a' := 0) (b' := 1) (by decide +kernel)) dX6_readUnit_40

theorem ca_X6_readUnit_6   (X : CallFix p m c cc nL s args sg_tbl own) (hK : va_K D vwCl tys s) (hG : sgG (KT P) D vwCl (fun q : Nat => base ≤ q) tys ad ks H) (hC : sgC base s) (hS : va_S (fun q : Nat => base ≤ q) s.heap H locs) (hb : base ≤ s.heap.size) (a0 : Nat) (h0 : isK ad ks 6 a0) (a1 : Nat) (h1 : isK ad ks 10 a1) (x2 : Int32) (h2 : iv 6 6 x2) (hl : Cond.methodLink own index yX6_readUnit ∈ sg_tbl) (hsize : ls.size = nL) (hst : st0 = [.ref a1, .int x2].reverse ++ .ref a0 :: rest) (hW : (rest.map fun v => v.category).sum ≤ 8) (hR : 8 ≤ R.frames ∧ 188 ≤ R.locals) (hf : cells ≤ R.cells ∧ slots ≤ R.slots) (hdg : decode cc pc = .ok (.invokevirtual index, 3)) (kk : ∀ (r : Int32) (H1 : Heap) (locs1 : List Loc), (fun r : Int32 => iv 0 1 r) r → sgG (KT P) D vwCl (fun q : Nat => base ≤ q) tys ad ks H1 → va_S (fun q : Nat => base ≤ q) s.heap H1 locs1 → W p l e R s m args below meth c H1 locs1 cells slots Q (F0 m (pc + 3) ls (.int r :: rest))) : W p l e R s m args below meth c H locs cells slots Q (F0 m pc ls st0) :=
  sg_callVi X hK hG hC hS hb (m_X6_readUnit_6 l a0 h0 a1 h1 x2 h2) h0 (k := 6) (ci := 6) rfl (C := RX6) (T := TX6) (N := 7) rfl wl_4_12 wl_1_3 wl_4_11 wl_0_16 (n := 2) (by decide +kernel) rfl rfl rfl hl hsize hst hW hR hf hdg kk

set_option maxHeartbeats 8000000 in
set_option maxRecDepth 100000 in
theorem m_X6_readCondition_6 (l : Launch) {D : va_G} {base : Nat} {tys : List (ClassId × FieldType)} {ad ks : List Nat} {P : sgPm} (a0 : Nat) (h0 : isK ad ks 6 a0) (a1 : Nat) (h1 : isK ad ks 10 a1) (x2 : Int32) (h2 : iv 6 6 x2) (x3 : Int32) (h3 : iv 0 1 x3) : sgMi l (KT P) D vwCl base tys ad ks yX6_readCondition cX6_readCondition 7 (some .boolean) ({ frames := 8, cells := 0, slots := 0, locals := 188 }) [.ref a0, .ref a1, .int x2, .int x3] (fun r : Int32 => iv 0 1 r) := by
  refine sg_ofW (by decide +kernel) (Nat.le_of_ble_eq_true rfl) (fun p e s m below meth c X hr hlk hb hK hC hG ls hl => ?_)
  have hS : va_S (fun q : Nat => base ≤ q) s.heap s.heap [] := va_S.rf
  have hl : lv_has ls 7 [(0, .ref a0), (1, .ref a1), (2, .int x2), (3, .int x3)] := hl
  refine lv_iload_n X.1 X.2.1 dX6_readCondition_0 rfl (lv_at hl 3 rfl) ?_
  have B2_15 : ∀ (H : Heap) (locs : List Loc) (ls : Array Slot), sgG (KT P) D vwCl (fun q : Nat => base ≤ q) tys ad ks H → va_S (fun q : Nat => base ≤ q) s.heap H locs → lv_has ls 7 [(0, .ref a0), (1, .ref a1), (2, .int x2)] → W p l e (headSpec (Cond.code yX6_readCondition cX6_readCondition 7 (some .boolean) :: sg_tbl) ({ frames := 8, cells := 0, slots := 0, locals := 188 })).room s m #[.ref a0, .ref a1, .int x2, .int x3] below meth c H locs 0 0 (MQ below (va_Qi (fun r (_ : Unit) => (fun r : Int32 => iv 0 1 r) r) (fun _ => sgB (KT P) D vwCl base tys ad ks) (fun q : Nat => base ≤ q)) #[.ref a0, .ref a1, .int x2, .int x3] s 0 0 (fun q : Nat => base ≤ q)) (F0 m 15 ls []) := by
    intro H locs ls hG hS hl
    refine lv_iconst (v := 0) X.1 X.2.1 dX6_readCondition_15 (by decide +kernel) ?_
    refine lv_istore (lv' := [(4, .int 0), (0, .ref a0), (1, .ref a1), (2, .int x2)]) X.1 X.2.1 dX6_readCondition_16 hl (by decide) rfl (fun ls hl => ?_)
    refine lv_iconst (v := 0) X.1 X.2.1 dX6_readCondition_18 (by decide +kernel) ?_
    refine lv_istore (lv' := [(5, .int 0), (4, .int 0), (0, .ref a0), (1, .ref a1), (2, .int x2)]) X.1 X.2.1 dX6_readCondition_19 hl (by decide) rfl (fun ls hl => ?_)
    have B3_21 : ∀ (N : Nat) (H : Heap) (locs : List Loc) (ls : Array Slot) (z3_4 : Int32) (z3_5 : Int32), sgG (KT P) D vwCl (fun q : Nat => base ≤ q) tys ad ks H → va_S (fun q : Nat => base ≤ q) s.heap H locs → lv_has ls 7 [(0, .ref a0), (1, .ref a1), (2, .int x2), (4, .int z3_4), (5, .int z3_5)] → iv 0 1 z3_4 → iv 0 240 z3_5 → (241 - z3_5.toInt).toNat ≤ N → W p l e (headSpec (Cond.code yX6_readCondition cX6_readCondition 7 (some .boolean) :: sg_tbl) ({ frames := 8, cells := 0, slots := 0, locals := 188 })).room s m #[.ref a0, .ref a1, .int x2, .int x3] below meth c H locs 0 0 (MQ below (va_Qi (fun r (_ : Unit) => (fun r : Int32 => iv 0 1 r) r) (fun _ => sgB (KT P) D vwCl base tys ad ks) (fun q : Nat => base ≤ q)) #[.ref a0, .ref a1, .int x2, .int x3] s 0 0 (fun q : Nat => base ≤ q)) (F0 m 21 ls []) := by
      intro N; induction N with
      | zero =>
        intro H locs ls z3_4 z3_5 hG hS hl hz3_4 hz3_5 hN
        exact absurd hN (by have := iv_up hz3_5; omega)
      | succ N ih3 =>
        intro H locs ls z3_4 z3_5 hG hS hl hz3_4 hz3_5 hN3
        refine lv_iload X.1 X.2.1 dX6_readCondition_21 (lv_at hl 4 rfl) ?_
        refine lv_sipush (v := 240) X.1 X.2.1 dX6_readCondition_23 (by decide +kernel) ?_
        refine lv_icmp_ge (tgt := 109) X.1 X.2.1 dX6_readCondition_26 (by decide) (fun c4 => ?_) (fun c4 => ?_)
        · refine lv_aload_n X.1 X.2.1 dX6_readCondition_109 rfl (lv_at hl 1 rfl) ?_
          refine ca_X10_wrong X hK hG hC hS hb a1 h1 wl_3_228 hl.1 (rest := []) rfl (Nat.le_of_ble_eq_true rfl) ⟨Nat.le_of_ble_eq_true rfl, Nat.le_of_ble_eq_true rfl⟩ ⟨Nat.le_of_ble_eq_true rfl, Nat.le_of_ble_eq_true rfl⟩ dX6_readCondition_110 (fun f5 H locs hf5 hG hS => ?_)
          exact sg_zret X hr (sg_zn hf5) hlk hb hK hC hG hS hf5 dX6_readCondition_113
        · refine lv_aload_n X.1 X.2.1 dX6_readCondition_29 rfl (lv_at hl 1 rfl) ?_
          refine ca_X10_sign X hK hG hC (fun _ h => h) hS hb a1 h1 wl_3_219 hl.1 (rest := []) rfl (Nat.le_of_ble_eq_true rfl) ⟨Nat.le_of_ble_eq_true rfl, Nat.le_of_ble_eq_true rfl⟩ ⟨Nat.le_of_ble_eq_true rfl, Nat.le_of_ble_eq_true rfl⟩ dX6_readCondition_30 (fun f6 locs hf6 hS => ?_)
          refine lv_istore (lv' := [(6, .int f6), (0, .ref a0), (1, .ref a1), (2, .int x2), (4, .int z3_4), (5, .int z3_5)]) X.1 X.2.1 dX6_readCondition_33 hl (by decide) rfl (fun ls hl => ?_)
          refine lv_iload X.1 X.2.1 dX6_readCondition_35 (lv_at hl 0 rfl) ?_
          refine lv_bipush (v := 38) X.1 X.2.1 dX6_readCondition_37 (by decide +kernel) ?_
          have B8_53 : ∀ (H : Heap) (locs : List Loc) (ls : Array Slot), sgG (KT P) D vwCl (fun q : Nat => base ≤ q) tys ad ks H → va_S (fun q : Nat => base ≤ q) s.heap H locs → lv_has ls 7 [(0, .ref a0), (1, .ref a1), (2, .int x2), (4, .int z3_4), (5, .int z3_5), (6, .int f6)] → W p l e (headSpec (Cond.code yX6_readCondition cX6_readCondition 7 (some .boolean) :: sg_tbl) ({ frames := 8, cells := 0, slots := 0, locals := 188 })).room s m #[.ref a0, .ref a1, .int x2, .int x3] below meth c H locs 0 0 (MQ below (va_Qi (fun r (_ : Unit) => (fun r : Int32 => iv 0 1 r) r) (fun _ => sgB (KT P) D vwCl base tys ad ks) (fun q : Nat => base ≤ q)) #[.ref a0, .ref a1, .int x2, .int x3] s 0 0 (fun q : Nat => base ≤ q)) (F0 m 53 ls []) := by
            intro H locs ls hG hS hl
            refine lv_iload X.1 X.2.1 dX6_readCondition_53 (lv_at hl 5 rfl) ?_
            refine lv_bipush (v := 38) X.1 X.2.1 dX6_readCondition_55 (by decide +kernel) ?_
            have B10_69 : ∀ (locs : List Loc) (ls : Array Slot), va_S (fun q : Nat => base ≤ q) s.heap H locs → lv_has ls 7 [(0, .ref a0), (1, .ref a1), (2, .int x2), (4, .int z3_4), (5, .int z3_5), (6, .int f6)] → W p l e (headSpec (Cond.code yX6_readCondition cX6_readCondition 7 (some .boolean) :: sg_tbl) ({ frames := 8, cells := 0, slots := 0, locals := 188 })).room s m #[.ref a0, .ref a1, .int x2, .int x3] below meth c H locs 0 0 (MQ below (va_Qi (fun r (_ : Unit) => (fun r : Int32 => iv 0 1 r) r) (fun _ => sgB (KT P) D vwCl base tys ad ks) (fun q : Nat => base ≤ q)) #[.ref a0, .ref a1, .int x2, .int x3] s 0 0 (fun q : Nat => base ≤ q)) (F0 m 69 ls []) := by
              intro locs ls hS hl
              refine lv_aload_n X.1 X.2.1 dX6_readCondition_69 rfl (lv_at hl 1 rfl) ?_
              refine ca_X10_step X hK hG hC hS hb a1 h1 wl_3_229 hl.1 (rest := []) rfl (Nat.le_of_ble_eq_true rfl) ⟨Nat.le_of_ble_eq_true rfl, Nat.le_of_ble_eq_true rfl⟩ ⟨Nat.le_of_ble_eq_true rfl, Nat.le_of_ble_eq_true rfl⟩ dX6_readCondition_70 (fun H locs hG hS => ?_)
              refine lv_aload_n X.1 X.2.1 dX6_readCondition_73 rfl (lv_at hl 0 rfl) ?_
              refine lv_aload_n X.1 X.2.1 dX6_readCondition_74 rfl (lv_at hl 1 rfl) ?_
              refine lv_iload_n X.1 X.2.1 dX6_readCondition_75 rfl (lv_at hl 2 rfl) ?_
              refine ca_X6_readUnit_6 X hK hG hC hS hb a0 h0 a1 h1 x2 h2 wl_4_9 hl.1 (rest := []) rfl (Nat.le_of_ble_eq_true rfl) ⟨Nat.le_of_ble_eq_true rfl, Nat.le_of_ble_eq_true rfl⟩ ⟨Nat.le_of_ble_eq_true rfl, Nat.le_of_ble_eq_true rfl⟩ dX6_readCondition_76 (fun f12 H locs hf12 hG hS => ?_)
              refine lv_if_ne (tgt := 84) X.1 X.2.1 dX6_readCondition_79 (by decide) (fun c13 => ?_) (fun c13 => ?_)
              · refine lv_iload X.1 X.2.1 dX6_readCondition_84 (lv_at hl 5 rfl) ?_
                refine lv_bipush (v := 38) X.1 X.2.1 dX6_readCondition_86 (by decide +kernel) ?_
                have B15_103 : ∀ (H : Heap) (locs : List Loc) (ls : Array Slot) (z15_4 : Int32), sgG (KT P) D vwCl (fun q : Nat => base ≤ q) tys ad ks H → va_S (fun q : Nat => base ≤ q) s.heap H locs → lv_has ls 7 [(0, .ref a0), (1, .ref a1), (2, .int x2), (4, .int z15_4), (5, .int z3_5)] → iv 0 1 z15_4 → W p l e (headSpec (Cond.code yX6_readCondition cX6_readCondition 7 (some .boolean) :: sg_tbl) ({ frames := 8, cells := 0, slots := 0, locals := 188 })).room s m #[.ref a0, .ref a1, .int x2, .int x3] below meth c H locs 0 0 (MQ below (va_Qi (fun r (_ : Unit) => (fun r : Int32 => iv 0 1 r) r) (fun _ => sgB (KT P) D vwCl base tys ad ks) (fun q : Nat => base ≤ q)) #[.ref a0, .ref a1, .int x2, .int x3] s 0 0 (fun q : Nat => base ≤ q)) (F0 m 103 ls []) := by
                  intro H locs ls z15_4 hG hS hl hz15_4
                  obtain ⟨y16, ey16⟩ : ∃ y : Int32, y = z3_5 + Int32.ofInt 1 := ⟨_, rfl⟩
                  refine lv_iinc (v := y16) (lv' := [(5, .int y16), (0, .ref a0), (1, .ref a1), (2, .int x2), (4, .int z15_4)]) X.1 X.2.1 dX6_readCondition_103 hl (k := 4) rfl ey16.symm (by decide) rfl (fun ls hl => ?_)
                  refine lv_goto (tgt := 21) X.1 X.2.1 dX6_readCondition_106 (by decide) ?_
                  exact ih3 H _ _ z15_4 y16 hG hS (lv_sub hl [1, 2, 3, 4, 0] rfl) hz15_4 (iv_of (iv_add (a' := 1) (b' := 240) ey16 (iv_lt (b' := 239) (iv_gt_of c4) hz3_5 (iv_c 240 (a := 240) (b := 240) (by decide +kernel)) (by decide +kernel)) (iv_c _ (a := 1) (b := 1) (by decide +kernel)) (by decide +kernel)) (a' := 0) (b' := 240) (by decide +kernel)) (iv_stepU ey16 (iv_lt (b' := 239) (iv_gt_of c4) hz3_5 (iv_c 240 (a := 240) (b := 240) (by decide +kernel)) (by decide +kernel)) (by decide +kernel) hN3)
                refine lv_icmp_ne (tgt := 100) X.1 X.2.1 dX6_readCondition_88 (by decide) (fun c14 => ?_) (fun c14 => ?_)
                · refine lv_iconst (v := 1) X.1 X.2.1 dX6_readCondition_100 (by decide +kernel) ?_
                  refine lv_istore (lv' := [(4, .int 1), (0, .ref a0), (1, .ref a1), (2, .int x2), (5, .int z3_5), (6, .int f6)]) X.1 X.2.1 dX6_readCondition_101 hl (by decide) rfl (fun ls hl => ?_)
                  exact B15_103 H _ _ 1 hG hS (lv_sub hl [1, 2, 3, 0, 4] rfl) (iv_of (iv_c 1 (a := 1) (b := 1) (by decide +kernel)) (a' := 0) (b' := 1) (by decide +kernel))
                · refine lv_aload_n X.1 X.2.1 dX6_readCondition_91 rfl (lv_at hl 0 rfl) ?_
                  refine lv_bipush (v := (-17)) X.1 X.2.1 dX6_readCondition_92 (by decide +kernel) ?_
                  refine ca_X6_put X hK hG hC hS hb a0 h0 (-17) wl_3_232 hl.1 (rest := []) rfl (Nat.le_of_ble_eq_true rfl) ⟨Nat.le_of_ble_eq_true rfl, Nat.le_of_ble_eq_true rfl⟩ ⟨Nat.le_of_ble_eq_true rfl, Nat.le_of_ble_eq_true rfl⟩ dX6_readCondition_94 (fun H locs hG hS => ?_)
                  refine lv_goto (tgt := 103) X.1 X.2.1 dX6_readCondition_97 (by decide) ?_
                  exact B15_103 H _ _ z3_4 hG hS (lv_sub hl [0, 1, 2, 3, 4] rfl) hz3_4
              · refine lv_iconst (v := 0) X.1 X.2.1 dX6_readCondition_82 (by decide +kernel) ?_
                exact sg_zret X hr (sg_zn (iv_of (iv_c 0 (a := 0) (b := 0) (by decide +kernel)) (a' := 0) (b' := 1) (by decide +kernel))) hlk hb hK hC hG hS (iv_of (iv_c 0 (a := 0) (b := 0) (by decide +kernel)) (a' := 0) (b' := 1) (by decide +kernel)) dX6_readCondition_83
            refine lv_icmp_eq (tgt := 69) X.1 X.2.1 dX6_readCondition_57 (by decide) (fun c9 => ?_) (fun c9 => ?_)
            · exact B10_69 _ _ hS (lv_sub hl [0, 1, 2, 3, 4, 5] rfl)
            · refine lv_iload X.1 X.2.1 dX6_readCondition_60 (lv_at hl 5 rfl) ?_
              refine lv_bipush (v := 124) X.1 X.2.1 dX6_readCondition_62 (by decide +kernel) ?_
              refine lv_icmp_eq (tgt := 69) X.1 X.2.1 dX6_readCondition_64 (by decide) (fun c18 => ?_) (fun c18 => ?_)
              · exact B10_69 _ _ hS (lv_sub hl [0, 1, 2, 3, 4, 5] rfl)
              · refine lv_iconst (v := 1) X.1 X.2.1 dX6_readCondition_67 (by decide +kernel) ?_
                exact sg_zret X hr (sg_zn (iv_of (iv_c 1 (a := 1) (b := 1) (by decide +kernel)) (a' := 0) (b' := 1) (by decide +kernel))) hlk hb hK hC hG hS (iv_of (iv_c 1 (a := 1) (b := 1) (by decide +kernel)) (a' := 0) (b' := 1) (by decide +kernel)) dX6_readCondition_68
          refine lv_icmp_eq (tgt := 53) X.1 X.2.1 dX6_readCondition_39 (by decide) (fun c7 => ?_) (fun c7 => ?_)
          · exact B8_53 H _ _ hG hS (lv_sub hl [1, 2, 3, 4, 5, 0] rfl)
          · refine lv_iload X.1 X.2.1 dX6_readCondition_42 (lv_at hl 4 rfl) ?_
            refine lv_if_eq (tgt := 53) X.1 X.2.1 dX6_readCondition_44 (by decide) (fun c19 => ?_) (fun c19 => ?_)
            · exact B8_53 H _ _ hG hS (lv_sub hl [1, 2, 3, 4, 5, 0] rfl)
            · refine lv_aload_n X.1 X.2.1 dX6_readCondition_47 rfl (lv_at hl 1 rfl) ?_
              refine lv_bipush (v := (-18)) X.1 X.2.1 dX6_readCondition_48 (by decide +kernel) ?_
              refine ca_X6_put X hK hG hC hS hb a0 h0 (-18) wl_3_232 hl.1 (rest := []) rfl (Nat.le_of_ble_eq_true rfl) ⟨Nat.le_of_ble_eq_true rfl, Nat.le_of_ble_eq_true rfl⟩ ⟨Nat.le_of_ble_eq_true rfl, Nat.le_of_ble_eq_true rfl⟩ dX6_readCondition_50 (fun H locs hG hS => ?_)
              exact B8_53 H _ _ hG hS (lv_sub hl [1, 2, 3, 4, 5, 0] rfl)
    exact B3_21 _ H _ _ 0 0 hG hS (lv_sub hl [2, 3, 4, 1, 0] rfl) (iv_of (iv_c 0 (a := 0) (b := 0) (by decide +kernel)) (a' := 0) (b' := 1) (by decide +kernel)) (iv_of (iv_c 0 (a := 0) (b := 0) (by decide +kernel)) (a' := 0) (b' := 240) (by decide +kernel)) (Nat.le_refl _)
  refine lv_if_ne (tgt := 15) X.1 X.2.1 dX6_readCondition_1 (by decide) (fun c1 => ?_) (fun c1 => ?_)
  · exact B2_15 s.heap _ _ hG hS (lv_sub hl [0, 1, 2] rfl)
  · refine lv_aload_n X.1 X.2.1 dX6_readCondition_4 rfl (lv_at hl 0 rfl) ?_
    refine lv_aload_n X.1 X.2.1 dX6_readCondition_5 rfl (lv_at hl 1 rfl) ?_
    refine lv_iload_n X.1 X.2.1 dX6_readCondition_6 rfl (lv_at hl 2 rfl) ?_
    refine ca_X6_readUnit_6 X hK hG hC hS hb a0 h0 a1 h1 x2 h2 wl_4_9 hl.1 (rest := []) rfl (Nat.le_of_ble_eq_true rfl) ⟨Nat.le_of_ble_eq_true rfl, Nat.le_of_ble_eq_true rfl⟩ ⟨Nat.le_of_ble_eq_true rfl, Nat.le_of_ble_eq_true rfl⟩ dX6_readCondition_7 (fun f21 H locs hf21 hG hS => ?_)
    refine lv_if_ne (tgt := 15) X.1 X.2.1 dX6_readCondition_10 (by decide) (fun c22 => ?_) (fun c22 => ?_)
    · exact B2_15 H _ _ hG hS (lv_sub hl [0, 1, 2] rfl)
    · refine lv_iconst (v := 0) X.1 X.2.1 dX6_readCondition_13 (by decide +kernel) ?_
      exact sg_zret X hr (sg_zn (iv_of (iv_c 0 (a := 0) (b := 0) (by decide +kernel)) (a' := 0) (b' := 1) (by decide +kernel))) hlk hb hK hC hG hS (iv_of (iv_c 0 (a := 0) (b := 0) (by decide +kernel)) (a' := 0) (b' := 1) (by decide +kernel)) dX6_readCondition_14

theorem ca_X6_readCondition_6   (X : CallFix p m c cc nL s args sg_tbl own) (hK : va_K D vwCl tys s) (hG : sgG (KT P) D vwCl (fun q : Nat => base ≤ q) tys ad ks H) (hC : sgC base s) (hS : va_S (fun q : Nat => base ≤ q) s.heap H locs) (hb : base ≤ s.heap.size) (a0 : Nat) (h0 : isK ad ks 6 a0) (a1 : Nat) (h1 : isK ad ks 10 a1) (x2 : Int32) (h2 : iv 6 6 x2) (x3 : Int32) (h3 : iv 0 1 x3) (hl : Cond.methodLink own index yX6_readCondition ∈ sg_tbl) (hsize : ls.size = nL) (hst : st0 = [.ref a1, .int x2, .int x3].reverse ++ .ref a0 :: rest) (hW : (rest.map fun v => v.category).sum ≤ 8) (hR : 9 ≤ R.frames ∧ 214 ≤ R.locals) (hf : cells ≤ R.cells ∧ slots ≤ R.slots) (hdg : decode cc pc = .ok (.invokevirtual index, 3)) (kk : ∀ (r : Int32) (H1 : Heap) (locs1 : List Loc), (fun r : Int32 => iv 0 1 r) r → sgG (KT P) D vwCl (fun q : Nat => base ≤ q) tys ad ks H1 → va_S (fun q : Nat => base ≤ q) s.heap H1 locs1 → W p l e R s m args below meth c H1 locs1 cells slots Q (F0 m (pc + 3) ls (.int r :: rest))) : W p l e R s m args below meth c H locs cells slots Q (F0 m pc ls st0) :=
  sg_callVi X hK hG hC hS hb (m_X6_readCondition_6 l a0 h0 a1 h1 x2 h2 x3 h3) h0 (k := 6) (ci := 6) rfl (C := RX6) (T := TX6) (N := 7) rfl wl_4_8 wl_1_3 wl_4_7 wl_0_15 (n := 3) (by decide +kernel) rfl rfl rfl hl hsize hst hW hR hf hdg kk

set_option maxHeartbeats 8000000 in
set_option maxRecDepth 100000 in
theorem m_X6_readAtom_5 (l : Launch) {D : va_G} {base : Nat} {tys : List (ClassId × FieldType)} {ad ks : List Nat} {P : sgPm} (a0 : Nat) (h0 : isK ad ks 6 a0) (a1 : Nat) (h1 : isK ad ks 10 a1) (x2 : Int32) (h2 : iv 5 5 x2) : sgMi l (KT P) D vwCl base tys ad ks yX6_readAtom cX6_readAtom 6 (some .boolean) ({ frames := 6, cells := 0, slots := 0, locals := 142 }) [.ref a0, .ref a1, .int x2] (fun r : Int32 => iv 0 1 r) := by
  refine sg_ofW (by decide +kernel) (Nat.le_of_ble_eq_true rfl) (fun p e s m below meth c X hr hlk hb hK hC hG ls hl => ?_)
  have hS : va_S (fun q : Nat => base ≤ q) s.heap s.heap [] := va_S.rf
  have hl : lv_has ls 6 [(0, .ref a0), (1, .ref a1), (2, .int x2)] := hl
  refine lv_aload_n X.1 X.2.1 dX6_readAtom_0 rfl (lv_at hl 1 rfl) ?_
  refine ca_X10_sign X hK hG hC (fun _ h => h) hS hb a1 h1 wl_3_219 hl.1 (rest := []) rfl (Nat.le_of_ble_eq_true rfl) ⟨Nat.le_of_ble_eq_true rfl, Nat.le_of_ble_eq_true rfl⟩ ⟨Nat.le_of_ble_eq_true rfl, Nat.le_of_ble_eq_true rfl⟩ dX6_readAtom_1 (fun f1 locs hf1 hS => ?_)
  refine lv_istore_n (lv' := [(3, .int f1), (0, .ref a0), (1, .ref a1), (2, .int x2)]) X.1 X.2.1 dX6_readAtom_4 rfl hl (by decide) rfl (fun ls hl => ?_)
  refine lv_iload_n X.1 X.2.1 dX6_readAtom_5 rfl (lv_at hl 0 rfl) ?_
  refine lv_bipush (v := 91) X.1 X.2.1 dX6_readAtom_6 (by decide +kernel) ?_
  refine lv_icmp_ne (tgt := 59) X.1 X.2.1 dX6_readAtom_8 (by decide) (fun c2 => ?_) (fun c2 => ?_)
  · obtain ⟨t3, vt3, pt3, rt3⟩ := hC.1.2.1
    refine va_ldcS X.1 X.2.1 X.2.2.2.1 rt3 dX6_readAtom_59 ?_
    refine lv_iload_n X.1 X.2.1 dX6_readAtom_61 rfl (lv_at hl 0 rfl) ?_
    obtain ⟨f4, ef4⟩ : ∃ y : Int32, y = ((f1 : Int32).toUInt32 % 65536).toInt32 := ⟨_, rfl⟩
    refine lv_i2c (v := f4) X.1 X.2.1 dX6_readAtom_62 ef4.symm ?_
    refine ca_J0_indexOf_0f7a4_6 X hK hG hC (fun _ h => h) hS hb pt3 f4 wl_3_231 hl.1 (rest := []) rfl (Nat.le_of_ble_eq_true rfl) ⟨Nat.le_of_ble_eq_true rfl, Nat.le_of_ble_eq_true rfl⟩ ⟨Nat.le_of_ble_eq_true rfl, Nat.le_of_ble_eq_true rfl⟩ dX6_readAtom_63 (fun f5 locs hf5 hS => ?_)
    refine lv_istore (lv' := [(4, .int f5), (3, .int f1), (0, .ref a0), (1, .ref a1), (2, .int x2)]) X.1 X.2.1 dX6_readAtom_66 hl (by decide) rfl (fun ls hl => ?_)
    refine lv_iload X.1 X.2.1 dX6_readAtom_68 (lv_at hl 0 rfl) ?_
    refine lv_if_lt (tgt := 107) X.1 X.2.1 dX6_readAtom_70 (by decide) (fun c6 => ?_) (fun c6 => ?_)
    · refine lv_aload_n X.1 X.2.1 dX6_readAtom_107 rfl (lv_at hl 3 rfl) ?_
      refine lv_iconst (v := 4) X.1 X.2.1 dX6_readAtom_108 (by decide +kernel) ?_
      refine lv_iconst (v := 0) X.1 X.2.1 dX6_readAtom_109 (by decide +kernel) ?_
      refine lv_sipush (v := 9999) X.1 X.2.1 dX6_readAtom_110 (by decide +kernel) ?_
      refine ca_X10_number X hK hG hC hS hb a1 h1 4 0 9999 wl_3_236 hl.1 (rest := []) rfl (Nat.le_of_ble_eq_true rfl) ⟨Nat.le_of_ble_eq_true rfl, Nat.le_of_ble_eq_true rfl⟩ ⟨Nat.le_of_ble_eq_true rfl, Nat.le_of_ble_eq_true rfl⟩ dX6_readAtom_113 (fun f7 H locs hf7 hG hS => ?_)
      refine lv_istore (lv' := [(5, .int f7), (4, .int f5), (3, .int f1), (0, .ref a0), (1, .ref a1), (2, .int x2)]) X.1 X.2.1 dX6_readAtom_116 hl (by decide) rfl (fun ls hl => ?_)
      refine lv_aload_n X.1 X.2.1 dX6_readAtom_118 rfl (lv_at hl 3 rfl) ?_
      refine lv_iload X.1 X.2.1 dX6_readAtom_119 (lv_at hl 0 rfl) ?_
      refine lv_iconst (v := 0) X.1 X.2.1 dX6_readAtom_121 (by decide +kernel) ?_
      refine va_mmax X.1 X.2.1 (X.2.2.1.trans hl.1.symm) X.2.2.2.1 (X.2.2.2.2 _ wl_3_237) (X.2.2.2.2 _ wl_3_100) (X.2.2.2.2 _ wl_1_15) (X.2.2.2.2 _ wl_3_101) (Nat.le_of_ble_eq_true rfl) (Nat.le_of_ble_eq_true rfl) (Nat.le_of_ble_eq_true rfl) (Nat.le_of_ble_eq_true rfl) dX6_readAtom_122 ?_
      refine lv_topi (fun f8 ef8 => ?_)
      refine ca_X6_put X hK hG hC hS hb a0 h0 f8 wl_3_232 hl.1 (rest := []) rfl (Nat.le_of_ble_eq_true rfl) ⟨Nat.le_of_ble_eq_true rfl, Nat.le_of_ble_eq_true rfl⟩ ⟨Nat.le_of_ble_eq_true rfl, Nat.le_of_ble_eq_true rfl⟩ dX6_readAtom_125 (fun H locs hG hS => ?_)
      refine lv_iload X.1 X.2.1 dX6_readAtom_128 (lv_at hl 0 rfl) ?_
      refine lv_iconst (v := (-1)) X.1 X.2.1 dX6_readAtom_130 (by decide +kernel) ?_
      refine lv_icmp_eq (tgt := 138) X.1 X.2.1 dX6_readAtom_131 (by decide) (fun c10 => ?_) (fun c10 => ?_)
      · refine lv_iconst (v := 0) X.1 X.2.1 dX6_readAtom_138 (by decide +kernel) ?_
        exact sg_zret X hr (sg_zn (iv_of (iv_c 0 (a := 0) (b := 0) (by decide +kernel)) (a' := 0) (b' := 1) (by decide +kernel))) hlk hb hK hC hG hS (iv_of (iv_c 0 (a := 0) (b := 0) (by decide +kernel)) (a' := 0) (b' := 1) (by decide +kernel)) dX6_readAtom_139
      · refine lv_iconst (v := 1) X.1 X.2.1 dX6_readAtom_134 (by decide +kernel) ?_
        refine lv_goto (tgt := 139) X.1 X.2.1 dX6_readAtom_135 (by decide) ?_
        exact sg_zret X hr (sg_zn (iv_of (iv_c 1 (a := 1) (b := 1) (by decide +kernel)) (a' := 0) (b' := 1) (by decide +kernel))) hlk hb hK hC hG hS (iv_of (iv_c 1 (a := 1) (b := 1) (by decide +kernel)) (a' := 0) (b' := 1) (by decide +kernel)) dX6_readAtom_139
    · refine lv_aload_n X.1 X.2.1 dX6_readAtom_73 rfl (lv_at hl 2 rfl) ?_
      refine lv_dup X.1 X.2.1 dX6_readAtom_74 rfl ?_
      refine gf_X6_6 X hK hG h0 wl_1_72 dX6_readAtom_75 (fun f11 hf11 kf11 => ?_)
      refine lv_iload X.1 X.2.1 dX6_readAtom_78 (lv_at hl 0 rfl) ?_
      refine lv_iconst (v := 4) X.1 X.2.1 dX6_readAtom_80 (by decide +kernel) ?_
      have B13_89 : ∀ (locs : List Loc) (ls : Array Slot) (w13_0 : Int32), va_S (fun q : Nat => base ≤ q) s.heap s.heap locs → lv_has ls 6 [(0, .ref a0), (1, .ref a1), (4, .int f5)] → iv 0 1 w13_0 → W p l e (headSpec (Cond.code yX6_readAtom cX6_readAtom 6 (some .boolean) :: sg_tbl) ({ frames := 6, cells := 0, slots := 0, locals := 142 })).room s m #[.ref a0, .ref a1, .int x2] below meth c s.heap locs 0 0 (MQ below (va_Qi (fun r (_ : Unit) => (fun r : Int32 => iv 0 1 r) r) (fun _ => sgB (KT P) D vwCl base tys ad ks) (fun q : Nat => base ≤ q)) #[.ref a0, .ref a1, .int x2] s 0 0 (fun q : Nat => base ≤ q)) (F0 m 89 ls [.int w13_0, .int f11, .ref a0]) := by
        intro locs ls w13_0 hS hl hw13_0
        refine lv_ior X.1 X.2.1 dX6_readAtom_89 ?_
        refine lv_topi (fun f14 ef14 => ?_)
        refine pf_X6_6 X hK hG hS h0 wl_1_72 ⟨_, rfl, (iv_of (iv_or 1 ef14 hf11 hw13_0 (by decide +kernel)) (a' := 0) (b' := 1) (by decide +kernel))⟩ dX6_readAtom_90 (fun H locs hG hS ku15 ru15 => ?_)
        refine lv_aload_n X.1 X.2.1 dX6_readAtom_93 rfl (lv_at hl 0 rfl) ?_
        refine lv_iconst (v := (-1)) X.1 X.2.1 dX6_readAtom_94 (by decide +kernel) ?_
        refine lv_iload X.1 X.2.1 dX6_readAtom_95 (lv_at hl 2 rfl) ?_
        refine lv_isub X.1 X.2.1 dX6_readAtom_97 ?_
        refine lv_topi (fun f16 ef16 => ?_)
        refine ca_X6_put X hK hG hC hS hb a0 h0 f16 wl_3_232 hl.1 (rest := []) rfl (Nat.le_of_ble_eq_true rfl) ⟨Nat.le_of_ble_eq_true rfl, Nat.le_of_ble_eq_true rfl⟩ ⟨Nat.le_of_ble_eq_true rfl, Nat.le_of_ble_eq_true rfl⟩ dX6_readAtom_98 (fun H locs hG hS => ?_)
        refine lv_aload_n X.1 X.2.1 dX6_readAtom_101 rfl (lv_at hl 1 rfl) ?_
        refine ca_X10_step X hK hG hC hS hb a1 h1 wl_3_229 hl.1 (rest := []) rfl (Nat.le_of_ble_eq_true rfl) ⟨Nat.le_of_ble_eq_true rfl, Nat.le_of_ble_eq_true rfl⟩ ⟨Nat.le_of_ble_eq_true rfl, Nat.le_of_ble_eq_true rfl⟩ dX6_readAtom_102 (fun H locs hG hS => ?_)
        refine lv_iconst (v := 1) X.1 X.2.1 dX6_readAtom_105 (by decide +kernel) ?_
        exact sg_zret X hr (sg_zn (iv_of (iv_c 1 (a := 1) (b := 1) (by decide +kernel)) (a' := 0) (b' := 1) (by decide +kernel))) hlk hb hK hC hG hS (iv_of (iv_c 1 (a := 1) (b := 1) (by decide +kernel)) (a' := 0) (b' := 1) (by decide +kernel)) dX6_readAtom_106
      refine lv_icmp_ne (tgt := 88) X.1 X.2.1 dX6_readAtom_81 (by decide) (fun c12 => ?_) (fun c12 => ?_)
      · refine lv_iconst (v := 0) X.1 X.2.1 dX6_readAtom_88 (by decide +kernel) ?_
        exact B13_89 _ _ 0 hS (lv_sub hl [2, 3, 0] rfl) (iv_of (iv_c 0 (a := 0) (b := 0) (by decide +kernel)) (a' := 0) (b' := 1) (by decide +kernel))
      · refine lv_iconst (v := 1) X.1 X.2.1 dX6_readAtom_84 (by decide +kernel) ?_
        refine lv_goto (tgt := 89) X.1 X.2.1 dX6_readAtom_85 (by decide) ?_
        exact B13_89 _ _ 1 hS (lv_sub hl [2, 3, 0] rfl) (iv_of (iv_c 1 (a := 1) (b := 1) (by decide +kernel)) (a' := 0) (b' := 1) (by decide +kernel))
  · refine lv_iload_n X.1 X.2.1 dX6_readAtom_11 rfl (lv_at hl 3 rfl) ?_
    refine lv_bipush (v := 6) X.1 X.2.1 dX6_readAtom_12 (by decide +kernel) ?_
    refine lv_icmp_lt (tgt := 22) X.1 X.2.1 dX6_readAtom_14 (by decide) (fun c19 => ?_) (fun c19 => ?_)
    · refine lv_aload_n X.1 X.2.1 dX6_readAtom_22 rfl (lv_at hl 2 rfl) ?_
      refine ca_X10_step X hK hG hC hS hb a1 h1 wl_3_229 hl.1 (rest := []) rfl (Nat.le_of_ble_eq_true rfl) ⟨Nat.le_of_ble_eq_true rfl, Nat.le_of_ble_eq_true rfl⟩ ⟨Nat.le_of_ble_eq_true rfl, Nat.le_of_ble_eq_true rfl⟩ dX6_readAtom_23 (fun H locs hG hS => ?_)
      refine lv_aload_n X.1 X.2.1 dX6_readAtom_26 rfl (lv_at hl 1 rfl) ?_
      refine lv_aload_n X.1 X.2.1 dX6_readAtom_27 rfl (lv_at hl 2 rfl) ?_
      refine lv_iload_n X.1 X.2.1 dX6_readAtom_28 rfl (lv_at hl 3 rfl) ?_
      refine lv_iconst (v := 1) X.1 X.2.1 dX6_readAtom_29 (by decide +kernel) ?_
      refine lv_iadd X.1 X.2.1 dX6_readAtom_30 ?_
      refine lv_topi (fun f21 ef21 => ?_)
      refine ca_X6_readSum_6 X hK hG hC hS hb a0 h0 a1 h1 f21 (iv_add (a' := 6) (b' := 6) ef21 h2 (iv_c 1 (a := 1) (b := 1) (by decide +kernel)) (by decide +kernel)) wl_3_220 hl.1 (rest := []) rfl (Nat.le_of_ble_eq_true rfl) ⟨Nat.le_of_ble_eq_true rfl, Nat.le_of_ble_eq_true rfl⟩ ⟨Nat.le_of_ble_eq_true rfl, Nat.le_of_ble_eq_true rfl⟩ dX6_readAtom_31 (fun f22 H locs hf22 hG hS => ?_)
      refine lv_if_ne (tgt := 39) X.1 X.2.1 dX6_readAtom_34 (by decide) (fun c23 => ?_) (fun c23 => ?_)
      · refine lv_aload_n X.1 X.2.1 dX6_readAtom_39 rfl (lv_at hl 2 rfl) ?_
        refine ca_X10_sign X hK hG hC (fun _ h => h) hS hb a1 h1 wl_3_219 hl.1 (rest := []) rfl (Nat.le_of_ble_eq_true rfl) ⟨Nat.le_of_ble_eq_true rfl, Nat.le_of_ble_eq_true rfl⟩ ⟨Nat.le_of_ble_eq_true rfl, Nat.le_of_ble_eq_true rfl⟩ dX6_readAtom_40 (fun f24 locs hf24 hS => ?_)
        refine lv_bipush (v := 93) X.1 X.2.1 dX6_readAtom_43 (by decide +kernel) ?_
        refine lv_icmp_eq (tgt := 53) X.1 X.2.1 dX6_readAtom_45 (by decide) (fun c25 => ?_) (fun c25 => ?_)
        · refine lv_aload_n X.1 X.2.1 dX6_readAtom_53 rfl (lv_at hl 2 rfl) ?_
          refine ca_X10_step X hK hG hC hS hb a1 h1 wl_3_229 hl.1 (rest := []) rfl (Nat.le_of_ble_eq_true rfl) ⟨Nat.le_of_ble_eq_true rfl, Nat.le_of_ble_eq_true rfl⟩ ⟨Nat.le_of_ble_eq_true rfl, Nat.le_of_ble_eq_true rfl⟩ dX6_readAtom_54 (fun H locs hG hS => ?_)
          refine lv_iconst (v := 1) X.1 X.2.1 dX6_readAtom_57 (by decide +kernel) ?_
          exact sg_zret X hr (sg_zn (iv_of (iv_c 1 (a := 1) (b := 1) (by decide +kernel)) (a' := 0) (b' := 1) (by decide +kernel))) hlk hb hK hC hG hS (iv_of (iv_c 1 (a := 1) (b := 1) (by decide +kernel)) (a' := 0) (b' := 1) (by decide +kernel)) dX6_readAtom_58
        · refine lv_aload_n X.1 X.2.1 dX6_readAtom_48 rfl (lv_at hl 2 rfl) ?_
          refine ca_X10_wrong X hK hG hC hS hb a1 h1 wl_3_228 hl.1 (rest := []) rfl (Nat.le_of_ble_eq_true rfl) ⟨Nat.le_of_ble_eq_true rfl, Nat.le_of_ble_eq_true rfl⟩ ⟨Nat.le_of_ble_eq_true rfl, Nat.le_of_ble_eq_true rfl⟩ dX6_readAtom_49 (fun f27 H locs hf27 hG hS => ?_)
          exact sg_zret X hr (sg_zn hf27) hlk hb hK hC hG hS hf27 dX6_readAtom_52
      · refine lv_iconst (v := 0) X.1 X.2.1 dX6_readAtom_37 (by decide +kernel) ?_
        exact sg_zret X hr (sg_zn (iv_of (iv_c 0 (a := 0) (b := 0) (by decide +kernel)) (a' := 0) (b' := 1) (by decide +kernel))) hlk hb hK hC hG hS (iv_of (iv_c 0 (a := 0) (b := 0) (by decide +kernel)) (a' := 0) (b' := 1) (by decide +kernel)) dX6_readAtom_38
    · exact ((iv_no (iv_le (b' := 5) (iv_ge_of c19) (iv_c 6 (a := 6) (b := 6) (by decide +kernel)) h2 (by decide +kernel)) (by decide +kernel))).elim

theorem ca_X6_readAtom_5   (X : CallFix p m c cc nL s args sg_tbl own) (hK : va_K D vwCl tys s) (hG : sgG (KT P) D vwCl (fun q : Nat => base ≤ q) tys ad ks H) (hC : sgC base s) (hS : va_S (fun q : Nat => base ≤ q) s.heap H locs) (hb : base ≤ s.heap.size) (a0 : Nat) (h0 : isK ad ks 6 a0) (a1 : Nat) (h1 : isK ad ks 10 a1) (x2 : Int32) (h2 : iv 5 5 x2) (hl : Cond.methodLink own index yX6_readAtom ∈ sg_tbl) (hsize : ls.size = nL) (hst : st0 = [.ref a1, .int x2].reverse ++ .ref a0 :: rest) (hW : (rest.map fun v => v.category).sum ≤ 8) (hR : 7 ≤ R.frames ∧ 167 ≤ R.locals) (hf : cells ≤ R.cells ∧ slots ≤ R.slots) (hdg : decode cc pc = .ok (.invokevirtual index, 3)) (kk : ∀ (r : Int32) (H1 : Heap) (locs1 : List Loc), (fun r : Int32 => iv 0 1 r) r → sgG (KT P) D vwCl (fun q : Nat => base ≤ q) tys ad ks H1 → va_S (fun q : Nat => base ≤ q) s.heap H1 locs1 → W p l e R s m args below meth c H1 locs1 cells slots Q (F0 m (pc + 3) ls (.int r :: rest))) : W p l e R s m args below meth c H locs cells slots Q (F0 m pc ls st0) :=
  sg_callVi X hK hG hC hS hb (m_X6_readAtom_5 l a0 h0 a1 h1 x2 h2) h0 (k := 6) (ci := 6) rfl (C := RX6) (T := TX6) (N := 7) rfl wl_3_227 wl_1_3 wl_3_226 wl_0_12 (n := 2) (by decide +kernel) rfl rfl rfl hl hsize hst hW hR hf hdg kk

set_option maxHeartbeats 8000000 in
set_option maxRecDepth 100000 in
theorem m_X6_readSum_5 (l : Launch) {D : va_G} {base : Nat} {tys : List (ClassId × FieldType)} {ad ks : List Nat} {P : sgPm} (a0 : Nat) (h0 : isK ad ks 6 a0) (a1 : Nat) (h1 : isK ad ks 10 a1) (x2 : Int32) (h2 : iv 5 5 x2) : sgMi l (KT P) D vwCl base tys ad ks yX6_readSum cX6_readSum 7 (some .boolean) ({ frames := 7, cells := 0, slots := 0, locals := 167 }) [.ref a0, .ref a1, .int x2] (fun r : Int32 => iv 0 1 r) := by
  refine sg_ofW (by decide +kernel) (Nat.le_of_ble_eq_true rfl) (fun p e s m below meth c X hr hlk hb hK hC hG ls hl => ?_)
  have hS : va_S (fun q : Nat => base ≤ q) s.heap s.heap [] := va_S.rf
  have hl : lv_has ls 7 [(0, .ref a0), (1, .ref a1), (2, .int x2)] := hl
  refine lv_aload_n X.1 X.2.1 dX6_readSum_0 rfl (lv_at hl 0 rfl) ?_
  refine lv_aload_n X.1 X.2.1 dX6_readSum_1 rfl (lv_at hl 1 rfl) ?_
  refine lv_iload_n X.1 X.2.1 dX6_readSum_2 rfl (lv_at hl 2 rfl) ?_
  refine ca_X6_readAtom_5 X hK hG hC hS hb a0 h0 a1 h1 x2 h2 wl_3_224 hl.1 (rest := []) rfl (Nat.le_of_ble_eq_true rfl) ⟨Nat.le_of_ble_eq_true rfl, Nat.le_of_ble_eq_true rfl⟩ ⟨Nat.le_of_ble_eq_true rfl, Nat.le_of_ble_eq_true rfl⟩ dX6_readSum_3 (fun f1 H locs hf1 hG hS => ?_)
  refine lv_if_ne (tgt := 11) X.1 X.2.1 dX6_readSum_6 (by decide) (fun c2 => ?_) (fun c2 => ?_)
  · refine lv_iconst (v := 0) X.1 X.2.1 dX6_readSum_11 (by decide +kernel) ?_
    refine lv_istore_n (lv' := [(3, .int 0), (0, .ref a0), (1, .ref a1), (2, .int x2)]) X.1 X.2.1 dX6_readSum_12 rfl hl (by decide) rfl (fun ls hl => ?_)
    refine lv_iconst (v := 0) X.1 X.2.1 dX6_readSum_13 (by decide +kernel) ?_
    refine lv_istore (lv' := [(4, .int 0), (3, .int 0), (0, .ref a0), (1, .ref a1), (2, .int x2)]) X.1 X.2.1 dX6_readSum_14 hl (by decide) rfl (fun ls hl => ?_)
    have B3_16 : ∀ (N : Nat) (H : Heap) (locs : List Loc) (ls : Array Slot) (z3_3 : Int32) (z3_4 : Int32), sgG (KT P) D vwCl (fun q : Nat => base ≤ q) tys ad ks H → va_S (fun q : Nat => base ≤ q) s.heap H locs → lv_has ls 7 [(0, .ref a0), (1, .ref a1), (2, .int x2), (3, .int z3_3), (4, .int z3_4)] → iv (-11) 0 z3_3 → iv 0 240 z3_4 → (241 - z3_4.toInt).toNat ≤ N → W p l e (headSpec (Cond.code yX6_readSum cX6_readSum 7 (some .boolean) :: sg_tbl) ({ frames := 7, cells := 0, slots := 0, locals := 167 })).room s m #[.ref a0, .ref a1, .int x2] below meth c H locs 0 0 (MQ below (va_Qi (fun r (_ : Unit) => (fun r : Int32 => iv 0 1 r) r) (fun _ => sgB (KT P) D vwCl base tys ad ks) (fun q : Nat => base ≤ q)) #[.ref a0, .ref a1, .int x2] s 0 0 (fun q : Nat => base ≤ q)) (F0 m 16 ls []) := by
      intro N; induction N with
      | zero =>
        intro H locs ls z3_3 z3_4 hG hS hl hz3_3 hz3_4 hN
        exact absurd hN (by have := iv_up hz3_4; omega)
      | succ N ih3 =>
        intro H locs ls z3_3 z3_4 hG hS hl hz3_3 hz3_4 hN3
        refine lv_iload X.1 X.2.1 dX6_readSum_16 (lv_at hl 4 rfl) ?_
        refine lv_sipush (v := 240) X.1 X.2.1 dX6_readSum_18 (by decide +kernel) ?_
        refine lv_icmp_ge (tgt := 148) X.1 X.2.1 dX6_readSum_21 (by decide) (fun c4 => ?_) (fun c4 => ?_)
        · refine lv_aload_n X.1 X.2.1 dX6_readSum_148 rfl (lv_at hl 1 rfl) ?_
          refine ca_X10_wrong X hK hG hC hS hb a1 h1 wl_3_228 hl.1 (rest := []) rfl (Nat.le_of_ble_eq_true rfl) ⟨Nat.le_of_ble_eq_true rfl, Nat.le_of_ble_eq_true rfl⟩ ⟨Nat.le_of_ble_eq_true rfl, Nat.le_of_ble_eq_true rfl⟩ dX6_readSum_149 (fun f5 H locs hf5 hG hS => ?_)
          exact sg_zret X hr (sg_zn hf5) hlk hb hK hC hG hS hf5 dX6_readSum_152
        · refine lv_aload_n X.1 X.2.1 dX6_readSum_24 rfl (lv_at hl 1 rfl) ?_
          refine ca_X10_sign X hK hG hC (fun _ h => h) hS hb a1 h1 wl_3_219 hl.1 (rest := []) rfl (Nat.le_of_ble_eq_true rfl) ⟨Nat.le_of_ble_eq_true rfl, Nat.le_of_ble_eq_true rfl⟩ ⟨Nat.le_of_ble_eq_true rfl, Nat.le_of_ble_eq_true rfl⟩ dX6_readSum_25 (fun f6 locs hf6 hS => ?_)
          refine lv_istore (lv' := [(5, .int f6), (0, .ref a0), (1, .ref a1), (2, .int x2), (3, .int z3_3), (4, .int z3_4)]) X.1 X.2.1 dX6_readSum_28 hl (by decide) rfl (fun ls hl => ?_)
          refine lv_iload X.1 X.2.1 dX6_readSum_30 (lv_at hl 0 rfl) ?_
          refine lv_bipush (v := 42) X.1 X.2.1 dX6_readSum_32 (by decide +kernel) ?_
          have B8_49 : ∀ (locs : List Loc) (ls : Array Slot) (w8_0 : Int32), va_S (fun q : Nat => base ≤ q) s.heap H locs → lv_has ls 7 [(0, .ref a0), (1, .ref a1), (2, .int x2), (3, .int z3_3), (4, .int z3_4), (5, .int f6)] → iv 0 1 w8_0 → W p l e (headSpec (Cond.code yX6_readSum cX6_readSum 7 (some .boolean) :: sg_tbl) ({ frames := 7, cells := 0, slots := 0, locals := 167 })).room s m #[.ref a0, .ref a1, .int x2] below meth c H locs 0 0 (MQ below (va_Qi (fun r (_ : Unit) => (fun r : Int32 => iv 0 1 r) r) (fun _ => sgB (KT P) D vwCl base tys ad ks) (fun q : Nat => base ≤ q)) #[.ref a0, .ref a1, .int x2] s 0 0 (fun q : Nat => base ≤ q)) (F0 m 49 ls [.int w8_0]) := by
            intro locs ls w8_0 hS hl hw8_0
            refine lv_istore (lv' := [(6, .int w8_0), (0, .ref a0), (1, .ref a1), (2, .int x2), (3, .int z3_3), (4, .int z3_4), (5, .int f6)]) X.1 X.2.1 dX6_readSum_49 hl (by decide) rfl (fun ls hl => ?_)
            refine lv_iload X.1 X.2.1 dX6_readSum_51 (lv_at hl 0 rfl) ?_
            have B10_65 : ∀ (H : Heap) (locs : List Loc) (ls : Array Slot), sgG (KT P) D vwCl (fun q : Nat => base ≤ q) tys ad ks H → va_S (fun q : Nat => base ≤ q) s.heap H locs → lv_has ls 7 [(0, .ref a0), (1, .ref a1), (2, .int x2), (3, .int z3_3), (4, .int z3_4), (5, .int f6), (6, .int w8_0)] → W p l e (headSpec (Cond.code yX6_readSum cX6_readSum 7 (some .boolean) :: sg_tbl) ({ frames := 7, cells := 0, slots := 0, locals := 167 })).room s m #[.ref a0, .ref a1, .int x2] below meth c H locs 0 0 (MQ below (va_Qi (fun r (_ : Unit) => (fun r : Int32 => iv 0 1 r) r) (fun _ => sgB (KT P) D vwCl base tys ad ks) (fun q : Nat => base ≤ q)) #[.ref a0, .ref a1, .int x2] s 0 0 (fun q : Nat => base ≤ q)) (F0 m 65 ls []) := by
              intro H locs ls hG hS hl
              refine lv_iload X.1 X.2.1 dX6_readSum_65 (lv_at hl 6 rfl) ?_
              have B12_86 : ∀ (locs : List Loc) (ls : Array Slot), va_S (fun q : Nat => base ≤ q) s.heap H locs → lv_has ls 7 [(0, .ref a0), (1, .ref a1), (2, .int x2), (3, .int z3_3), (4, .int z3_4), (5, .int f6), (6, .int w8_0)] → W p l e (headSpec (Cond.code yX6_readSum cX6_readSum 7 (some .boolean) :: sg_tbl) ({ frames := 7, cells := 0, slots := 0, locals := 167 })).room s m #[.ref a0, .ref a1, .int x2] below meth c H locs 0 0 (MQ below (va_Qi (fun r (_ : Unit) => (fun r : Int32 => iv 0 1 r) r) (fun _ => sgB (KT P) D vwCl base tys ad ks) (fun q : Nat => base ≤ q)) #[.ref a0, .ref a1, .int x2] s 0 0 (fun q : Nat => base ≤ q)) (F0 m 86 ls []) := by
                intro locs ls hS hl
                refine lv_aload_n X.1 X.2.1 dX6_readSum_86 rfl (lv_at hl 1 rfl) ?_
                refine ca_X10_step X hK hG hC hS hb a1 h1 wl_3_229 hl.1 (rest := []) rfl (Nat.le_of_ble_eq_true rfl) ⟨Nat.le_of_ble_eq_true rfl, Nat.le_of_ble_eq_true rfl⟩ ⟨Nat.le_of_ble_eq_true rfl, Nat.le_of_ble_eq_true rfl⟩ dX6_readSum_87 (fun H locs hG hS => ?_)
                refine lv_aload_n X.1 X.2.1 dX6_readSum_90 rfl (lv_at hl 0 rfl) ?_
                refine lv_aload_n X.1 X.2.1 dX6_readSum_91 rfl (lv_at hl 1 rfl) ?_
                refine lv_iload_n X.1 X.2.1 dX6_readSum_92 rfl (lv_at hl 2 rfl) ?_
                refine ca_X6_readAtom_5 X hK hG hC hS hb a0 h0 a1 h1 x2 h2 wl_3_224 hl.1 (rest := []) rfl (Nat.le_of_ble_eq_true rfl) ⟨Nat.le_of_ble_eq_true rfl, Nat.le_of_ble_eq_true rfl⟩ ⟨Nat.le_of_ble_eq_true rfl, Nat.le_of_ble_eq_true rfl⟩ dX6_readSum_93 (fun f14 H locs hf14 hG hS => ?_)
                refine lv_if_ne (tgt := 101) X.1 X.2.1 dX6_readSum_96 (by decide) (fun c15 => ?_) (fun c15 => ?_)
                · refine lv_iload X.1 X.2.1 dX6_readSum_101 (lv_at hl 6 rfl) ?_
                  have B17_142 : ∀ (H : Heap) (locs : List Loc) (ls : Array Slot) (z17_3 : Int32), sgG (KT P) D vwCl (fun q : Nat => base ≤ q) tys ad ks H → va_S (fun q : Nat => base ≤ q) s.heap H locs → lv_has ls 7 [(0, .ref a0), (1, .ref a1), (2, .int x2), (3, .int z17_3), (4, .int z3_4)] → iv (-11) 0 z17_3 → W p l e (headSpec (Cond.code yX6_readSum cX6_readSum 7 (some .boolean) :: sg_tbl) ({ frames := 7, cells := 0, slots := 0, locals := 167 })).room s m #[.ref a0, .ref a1, .int x2] below meth c H locs 0 0 (MQ below (va_Qi (fun r (_ : Unit) => (fun r : Int32 => iv 0 1 r) r) (fun _ => sgB (KT P) D vwCl base tys ad ks) (fun q : Nat => base ≤ q)) #[.ref a0, .ref a1, .int x2] s 0 0 (fun q : Nat => base ≤ q)) (F0 m 142 ls []) := by
                    intro H locs ls z17_3 hG hS hl hz17_3
                    obtain ⟨y18, ey18⟩ : ∃ y : Int32, y = z3_4 + Int32.ofInt 1 := ⟨_, rfl⟩
                    refine lv_iinc (v := y18) (lv' := [(4, .int y18), (0, .ref a0), (1, .ref a1), (2, .int x2), (3, .int z17_3)]) X.1 X.2.1 dX6_readSum_142 hl (k := 4) rfl ey18.symm (by decide) rfl (fun ls hl => ?_)
                    refine lv_goto (tgt := 16) X.1 X.2.1 dX6_readSum_145 (by decide) ?_
                    exact ih3 H _ _ z17_3 y18 hG hS (lv_sub hl [1, 2, 3, 4, 0] rfl) hz17_3 (iv_of (iv_add (a' := 1) (b' := 240) ey18 (iv_lt (b' := 239) (iv_gt_of c4) hz3_4 (iv_c 240 (a := 240) (b := 240) (by decide +kernel)) (by decide +kernel)) (iv_c _ (a := 1) (b := 1) (by decide +kernel)) (by decide +kernel)) (a' := 0) (b' := 240) (by decide +kernel)) (iv_stepU ey18 (iv_lt (b' := 239) (iv_gt_of c4) hz3_4 (iv_c 240 (a := 240) (b := 240) (by decide +kernel)) (by decide +kernel)) (by decide +kernel) hN3)
                  refine lv_if_eq (tgt := 127) X.1 X.2.1 dX6_readSum_103 (by decide) (fun c16 => ?_) (fun c16 => ?_)
                  · refine lv_iload X.1 X.2.1 dX6_readSum_127 (lv_at hl 5 rfl) ?_
                    refine lv_bipush (v := 43) X.1 X.2.1 dX6_readSum_129 (by decide +kernel) ?_
                    have B20_141 : ∀ (locs : List Loc) (ls : Array Slot) (w20_0 : Int32), va_S (fun q : Nat => base ≤ q) s.heap H locs → lv_has ls 7 [(0, .ref a0), (1, .ref a1), (2, .int x2), (4, .int z3_4)] → iv (-11) (-10) w20_0 → W p l e (headSpec (Cond.code yX6_readSum cX6_readSum 7 (some .boolean) :: sg_tbl) ({ frames := 7, cells := 0, slots := 0, locals := 167 })).room s m #[.ref a0, .ref a1, .int x2] below meth c H locs 0 0 (MQ below (va_Qi (fun r (_ : Unit) => (fun r : Int32 => iv 0 1 r) r) (fun _ => sgB (KT P) D vwCl base tys ad ks) (fun q : Nat => base ≤ q)) #[.ref a0, .ref a1, .int x2] s 0 0 (fun q : Nat => base ≤ q)) (F0 m 141 ls [.int w20_0]) := by
                      intro locs ls w20_0 hS hl hw20_0
                      refine lv_istore_n (lv' := [(3, .int w20_0), (0, .ref a0), (1, .ref a1), (2, .int x2), (4, .int z3_4)]) X.1 X.2.1 dX6_readSum_141 rfl hl (by decide) rfl (fun ls hl => ?_)
                      exact B17_142 H _ _ w20_0 hG hS (lv_sub hl [1, 2, 3, 0, 4] rfl) (iv_of hw20_0 (a' := (-11)) (b' := 0) (by decide +kernel))
                    refine lv_icmp_ne (tgt := 139) X.1 X.2.1 dX6_readSum_131 (by decide) (fun c19 => ?_) (fun c19 => ?_)
                    · refine lv_bipush (v := (-11)) X.1 X.2.1 dX6_readSum_139 (by decide +kernel) ?_
                      exact B20_141 _ _ (-11) hS (lv_sub hl [0, 1, 2, 4] rfl) (iv_of (iv_c (-11) (a := (-11)) (b := (-11)) (by decide +kernel)) (a' := (-11)) (b' := (-10)) (by decide +kernel))
                    · refine lv_bipush (v := (-10)) X.1 X.2.1 dX6_readSum_134 (by decide +kernel) ?_
                      refine lv_goto (tgt := 141) X.1 X.2.1 dX6_readSum_136 (by decide) ?_
                      exact B20_141 _ _ (-10) hS (lv_sub hl [0, 1, 2, 4] rfl) (iv_of (iv_c (-10) (a := (-10)) (b := (-10)) (by decide +kernel)) (a' := (-11)) (b' := (-10)) (by decide +kernel))
                  · refine lv_aload_n X.1 X.2.1 dX6_readSum_106 rfl (lv_at hl 0 rfl) ?_
                    refine lv_iload X.1 X.2.1 dX6_readSum_107 (lv_at hl 5 rfl) ?_
                    refine lv_bipush (v := 42) X.1 X.2.1 dX6_readSum_109 (by decide +kernel) ?_
                    have B22_121 : ∀ (locs : List Loc) (ls : Array Slot) (w22_0 : Int32), va_S (fun q : Nat => base ≤ q) s.heap H locs → lv_has ls 7 [(0, .ref a0), (1, .ref a1), (2, .int x2), (3, .int z3_3), (4, .int z3_4)] → iv (-13) (-12) w22_0 → W p l e (headSpec (Cond.code yX6_readSum cX6_readSum 7 (some .boolean) :: sg_tbl) ({ frames := 7, cells := 0, slots := 0, locals := 167 })).room s m #[.ref a0, .ref a1, .int x2] below meth c H locs 0 0 (MQ below (va_Qi (fun r (_ : Unit) => (fun r : Int32 => iv 0 1 r) r) (fun _ => sgB (KT P) D vwCl base tys ad ks) (fun q : Nat => base ≤ q)) #[.ref a0, .ref a1, .int x2] s 0 0 (fun q : Nat => base ≤ q)) (F0 m 121 ls [.int w22_0, .ref a0]) := by
                      intro locs ls w22_0 hS hl hw22_0
                      refine ca_X6_put X hK hG hC hS hb a0 h0 w22_0 wl_3_232 hl.1 (rest := []) rfl (Nat.le_of_ble_eq_true rfl) ⟨Nat.le_of_ble_eq_true rfl, Nat.le_of_ble_eq_true rfl⟩ ⟨Nat.le_of_ble_eq_true rfl, Nat.le_of_ble_eq_true rfl⟩ dX6_readSum_121 (fun H locs hG hS => ?_)
                      refine lv_goto (tgt := 142) X.1 X.2.1 dX6_readSum_124 (by decide) ?_
                      exact B17_142 H _ _ z3_3 hG hS (lv_sub hl [0, 1, 2, 3, 4] rfl) hz3_3
                    refine lv_icmp_ne (tgt := 119) X.1 X.2.1 dX6_readSum_111 (by decide) (fun c21 => ?_) (fun c21 => ?_)
                    · refine lv_bipush (v := (-13)) X.1 X.2.1 dX6_readSum_119 (by decide +kernel) ?_
                      exact B22_121 _ _ (-13) hS (lv_sub hl [0, 1, 2, 3, 4] rfl) (iv_of (iv_c (-13) (a := (-13)) (b := (-13)) (by decide +kernel)) (a' := (-13)) (b' := (-12)) (by decide +kernel))
                    · refine lv_bipush (v := (-12)) X.1 X.2.1 dX6_readSum_114 (by decide +kernel) ?_
                      refine lv_goto (tgt := 121) X.1 X.2.1 dX6_readSum_116 (by decide) ?_
                      exact B22_121 _ _ (-12) hS (lv_sub hl [0, 1, 2, 3, 4] rfl) (iv_of (iv_c (-12) (a := (-12)) (b := (-12)) (by decide +kernel)) (a' := (-13)) (b' := (-12)) (by decide +kernel))
                · refine lv_iconst (v := 0) X.1 X.2.1 dX6_readSum_99 (by decide +kernel) ?_
                  exact sg_zret X hr (sg_zn (iv_of (iv_c 0 (a := 0) (b := 0) (by decide +kernel)) (a' := 0) (b' := 1) (by decide +kernel))) hlk hb hK hC hG hS (iv_of (iv_c 0 (a := 0) (b := 0) (by decide +kernel)) (a' := 0) (b' := 1) (by decide +kernel)) dX6_readSum_100
              refine lv_if_ne (tgt := 86) X.1 X.2.1 dX6_readSum_67 (by decide) (fun c11 => ?_) (fun c11 => ?_)
              · exact B12_86 _ _ hS (lv_sub hl [0, 1, 2, 3, 4, 5, 6] rfl)
              · refine lv_iload X.1 X.2.1 dX6_readSum_70 (lv_at hl 5 rfl) ?_
                refine lv_bipush (v := 43) X.1 X.2.1 dX6_readSum_72 (by decide +kernel) ?_
                refine lv_icmp_eq (tgt := 86) X.1 X.2.1 dX6_readSum_74 (by decide) (fun c24 => ?_) (fun c24 => ?_)
                · exact B12_86 _ _ hS (lv_sub hl [0, 1, 2, 3, 4, 5, 6] rfl)
                · refine lv_iload X.1 X.2.1 dX6_readSum_77 (lv_at hl 5 rfl) ?_
                  refine lv_bipush (v := 45) X.1 X.2.1 dX6_readSum_79 (by decide +kernel) ?_
                  refine lv_icmp_eq (tgt := 86) X.1 X.2.1 dX6_readSum_81 (by decide) (fun c25 => ?_) (fun c25 => ?_)
                  · exact B12_86 _ _ hS (lv_sub hl [0, 1, 2, 3, 4, 5, 6] rfl)
                  · refine lv_iconst (v := 1) X.1 X.2.1 dX6_readSum_84 (by decide +kernel) ?_
                    exact sg_zret X hr (sg_zn (iv_of (iv_c 1 (a := 1) (b := 1) (by decide +kernel)) (a' := 0) (b' := 1) (by decide +kernel))) hlk hb hK hC hG hS (iv_of (iv_c 1 (a := 1) (b := 1) (by decide +kernel)) (a' := 0) (b' := 1) (by decide +kernel)) dX6_readSum_85
            refine lv_if_ne (tgt := 65) X.1 X.2.1 dX6_readSum_53 (by decide) (fun c9 => ?_) (fun c9 => ?_)
            · exact B10_65 H _ _ hG hS (lv_sub hl [1, 2, 3, 4, 5, 6, 0] rfl)
            · refine lv_iload_n X.1 X.2.1 dX6_readSum_56 rfl (lv_at hl 4 rfl) ?_
              refine lv_if_eq (tgt := 65) X.1 X.2.1 dX6_readSum_57 (by decide) (fun c26 => ?_) (fun c26 => ?_)
              · exact B10_65 H _ _ hG hS (lv_sub hl [1, 2, 3, 4, 5, 6, 0] rfl)
              · refine lv_aload_n X.1 X.2.1 dX6_readSum_60 rfl (lv_at hl 1 rfl) ?_
                refine lv_iload_n X.1 X.2.1 dX6_readSum_61 rfl (lv_at hl 4 rfl) ?_
                refine ca_X6_put X hK hG hC hS hb a0 h0 z3_3 wl_3_232 hl.1 (rest := []) rfl (Nat.le_of_ble_eq_true rfl) ⟨Nat.le_of_ble_eq_true rfl, Nat.le_of_ble_eq_true rfl⟩ ⟨Nat.le_of_ble_eq_true rfl, Nat.le_of_ble_eq_true rfl⟩ dX6_readSum_62 (fun H locs hG hS => ?_)
                exact B10_65 H _ _ hG hS (lv_sub hl [1, 2, 3, 4, 5, 6, 0] rfl)
          have B28_44 : ∀ (locs : List Loc) (ls : Array Slot), va_S (fun q : Nat => base ≤ q) s.heap H locs → lv_has ls 7 [(0, .ref a0), (1, .ref a1), (2, .int x2), (3, .int z3_3), (4, .int z3_4), (5, .int f6)] → W p l e (headSpec (Cond.code yX6_readSum cX6_readSum 7 (some .boolean) :: sg_tbl) ({ frames := 7, cells := 0, slots := 0, locals := 167 })).room s m #[.ref a0, .ref a1, .int x2] below meth c H locs 0 0 (MQ below (va_Qi (fun r (_ : Unit) => (fun r : Int32 => iv 0 1 r) r) (fun _ => sgB (KT P) D vwCl base tys ad ks) (fun q : Nat => base ≤ q)) #[.ref a0, .ref a1, .int x2] s 0 0 (fun q : Nat => base ≤ q)) (F0 m 44 ls []) := by
            intro locs ls hS hl
            refine lv_iconst (v := 1) X.1 X.2.1 dX6_readSum_44 (by decide +kernel) ?_
            refine lv_goto (tgt := 49) X.1 X.2.1 dX6_readSum_45 (by decide) ?_
            exact B8_49 _ _ 1 hS (lv_sub hl [0, 1, 2, 3, 4, 5] rfl) (iv_of (iv_c 1 (a := 1) (b := 1) (by decide +kernel)) (a' := 0) (b' := 1) (by decide +kernel))
          refine lv_icmp_eq (tgt := 44) X.1 X.2.1 dX6_readSum_34 (by decide) (fun c7 => ?_) (fun c7 => ?_)
          · exact B28_44 _ _ hS (lv_sub hl [1, 2, 3, 4, 5, 0] rfl)
          · refine lv_iload X.1 X.2.1 dX6_readSum_37 (lv_at hl 0 rfl) ?_
            refine lv_bipush (v := 47) X.1 X.2.1 dX6_readSum_39 (by decide +kernel) ?_
            refine lv_icmp_ne (tgt := 48) X.1 X.2.1 dX6_readSum_41 (by decide) (fun c29 => ?_) (fun c29 => ?_)
            · refine lv_iconst (v := 0) X.1 X.2.1 dX6_readSum_48 (by decide +kernel) ?_
              exact B8_49 _ _ 0 hS (lv_sub hl [1, 2, 3, 4, 5, 0] rfl) (iv_of (iv_c 0 (a := 0) (b := 0) (by decide +kernel)) (a' := 0) (b' := 1) (by decide +kernel))
            · exact B28_44 _ _ hS (lv_sub hl [1, 2, 3, 4, 5, 0] rfl)
    exact B3_16 _ H _ _ 0 0 hG hS (lv_sub hl [2, 3, 4, 1, 0] rfl) (iv_of (iv_c 0 (a := 0) (b := 0) (by decide +kernel)) (a' := (-11)) (b' := 0) (by decide +kernel)) (iv_of (iv_c 0 (a := 0) (b := 0) (by decide +kernel)) (a' := 0) (b' := 240) (by decide +kernel)) (Nat.le_refl _)
  · refine lv_iconst (v := 0) X.1 X.2.1 dX6_readSum_9 (by decide +kernel) ?_
    exact sg_zret X hr (sg_zn (iv_of (iv_c 0 (a := 0) (b := 0) (by decide +kernel)) (a' := 0) (b' := 1) (by decide +kernel))) hlk hb hK hC hG hS (iv_of (iv_c 0 (a := 0) (b := 0) (by decide +kernel)) (a' := 0) (b' := 1) (by decide +kernel)) dX6_readSum_10

theorem ca_X6_readSum_5   (X : CallFix p m c cc nL s args sg_tbl own) (hK : va_K D vwCl tys s) (hG : sgG (KT P) D vwCl (fun q : Nat => base ≤ q) tys ad ks H) (hC : sgC base s) (hS : va_S (fun q : Nat => base ≤ q) s.heap H locs) (hb : base ≤ s.heap.size) (a0 : Nat) (h0 : isK ad ks 6 a0) (a1 : Nat) (h1 : isK ad ks 10 a1) (x2 : Int32) (h2 : iv 5 5 x2) (hl : Cond.methodLink own index yX6_readSum ∈ sg_tbl) (hsize : ls.size = nL) (hst : st0 = [.ref a1, .int x2].reverse ++ .ref a0 :: rest) (hW : (rest.map fun v => v.category).sum ≤ 8) (hR : 8 ≤ R.frames ∧ 193 ≤ R.locals) (hf : cells ≤ R.cells ∧ slots ≤ R.slots) (hdg : decode cc pc = .ok (.invokevirtual index, 3)) (kk : ∀ (r : Int32) (H1 : Heap) (locs1 : List Loc), (fun r : Int32 => iv 0 1 r) r → sgG (KT P) D vwCl (fun q : Nat => base ≤ q) tys ad ks H1 → va_S (fun q : Nat => base ≤ q) s.heap H1 locs1 → W p l e R s m args below meth c H1 locs1 cells slots Q (F0 m (pc + 3) ls (.int r :: rest))) : W p l e R s m args below meth c H locs cells slots Q (F0 m pc ls st0) :=
  sg_callVi X hK hG hC hS hb (m_X6_readSum_5 l a0 h0 a1 h1 x2 h2) h0 (k := 6) (ci := 6) rfl (C := RX6) (T := TX6) (N := 7) rfl wl_3_223 wl_1_3 wl_3_222 wl_0_11 (n := 2) (by decide +kernel) rfl rfl rfl hl hsize hst hW hR hf hdg kk

set_option maxHeartbeats 8000000 in
set_option maxRecDepth 100000 in
theorem m_X6_readComparison_5 (l : Launch) {D : va_G} {base : Nat} {tys : List (ClassId × FieldType)} {ad ks : List Nat} {P : sgPm} (a0 : Nat) (h0 : isK ad ks 6 a0) (a1 : Nat) (h1 : isK ad ks 10 a1) (x2 : Int32) (h2 : iv 5 5 x2) : sgMi l (KT P) D vwCl base tys ad ks yX6_readComparison cX6_readComparison 4 (some .boolean) ({ frames := 8, cells := 0, slots := 0, locals := 193 }) [.ref a0, .ref a1, .int x2] (fun r : Int32 => iv 0 1 r) := by
  refine sg_ofW (by decide +kernel) (Nat.le_of_ble_eq_true rfl) (fun p e s m below meth c X hr hlk hb hK hC hG ls hl => ?_)
  have hS : va_S (fun q : Nat => base ≤ q) s.heap s.heap [] := va_S.rf
  have hl : lv_has ls 4 [(0, .ref a0), (1, .ref a1), (2, .int x2)] := hl
  refine lv_aload_n X.1 X.2.1 dX6_readComparison_0 rfl (lv_at hl 1 rfl) ?_
  refine ca_X10_sign X hK hG hC (fun _ h => h) hS hb a1 h1 wl_3_219 hl.1 (rest := []) rfl (Nat.le_of_ble_eq_true rfl) ⟨Nat.le_of_ble_eq_true rfl, Nat.le_of_ble_eq_true rfl⟩ ⟨Nat.le_of_ble_eq_true rfl, Nat.le_of_ble_eq_true rfl⟩ dX6_readComparison_1 (fun f1 locs hf1 hS => ?_)
  refine ca_X6_comparison X hK hG hC (fun _ h => h) hS hb f1 wl_3_238 hl.1 (rest := []) rfl (Nat.le_of_ble_eq_true rfl) ⟨Nat.le_of_ble_eq_true rfl, Nat.le_of_ble_eq_true rfl⟩ ⟨Nat.le_of_ble_eq_true rfl, Nat.le_of_ble_eq_true rfl⟩ dX6_readComparison_4 (fun f2 locs hf2 hS => ?_)
  refine lv_istore_n (lv' := [(3, .int f2), (0, .ref a0), (1, .ref a1), (2, .int x2)]) X.1 X.2.1 dX6_readComparison_7 rfl hl (by decide) rfl (fun ls hl => ?_)
  refine lv_iload_n X.1 X.2.1 dX6_readComparison_8 rfl (lv_at hl 0 rfl) ?_
  refine lv_if_ne (tgt := 17) X.1 X.2.1 dX6_readComparison_9 (by decide) (fun c3 => ?_) (fun c3 => ?_)
  · refine lv_aload_n X.1 X.2.1 dX6_readComparison_17 rfl (lv_at hl 2 rfl) ?_
    refine ca_X10_step X hK hG hC hS hb a1 h1 wl_3_229 hl.1 (rest := []) rfl (Nat.le_of_ble_eq_true rfl) ⟨Nat.le_of_ble_eq_true rfl, Nat.le_of_ble_eq_true rfl⟩ ⟨Nat.le_of_ble_eq_true rfl, Nat.le_of_ble_eq_true rfl⟩ dX6_readComparison_18 (fun H locs hG hS => ?_)
    refine lv_aload_n X.1 X.2.1 dX6_readComparison_21 rfl (lv_at hl 1 rfl) ?_
    refine lv_aload_n X.1 X.2.1 dX6_readComparison_22 rfl (lv_at hl 2 rfl) ?_
    refine lv_iload_n X.1 X.2.1 dX6_readComparison_23 rfl (lv_at hl 3 rfl) ?_
    refine ca_X6_readSum_5 X hK hG hC hS hb a0 h0 a1 h1 x2 h2 wl_3_220 hl.1 (rest := []) rfl (Nat.le_of_ble_eq_true rfl) ⟨Nat.le_of_ble_eq_true rfl, Nat.le_of_ble_eq_true rfl⟩ ⟨Nat.le_of_ble_eq_true rfl, Nat.le_of_ble_eq_true rfl⟩ dX6_readComparison_24 (fun f5 H locs hf5 hG hS => ?_)
    refine lv_if_ne (tgt := 32) X.1 X.2.1 dX6_readComparison_27 (by decide) (fun c6 => ?_) (fun c6 => ?_)
    · refine lv_aload_n X.1 X.2.1 dX6_readComparison_32 rfl (lv_at hl 1 rfl) ?_
      refine lv_iload_n X.1 X.2.1 dX6_readComparison_33 rfl (lv_at hl 0 rfl) ?_
      refine ca_X6_put X hK hG hC hS hb a0 h0 f2 wl_3_232 hl.1 (rest := []) rfl (Nat.le_of_ble_eq_true rfl) ⟨Nat.le_of_ble_eq_true rfl, Nat.le_of_ble_eq_true rfl⟩ ⟨Nat.le_of_ble_eq_true rfl, Nat.le_of_ble_eq_true rfl⟩ dX6_readComparison_34 (fun H locs hG hS => ?_)
      refine lv_iconst (v := 1) X.1 X.2.1 dX6_readComparison_37 (by decide +kernel) ?_
      exact sg_zret X hr (sg_zn (iv_of (iv_c 1 (a := 1) (b := 1) (by decide +kernel)) (a' := 0) (b' := 1) (by decide +kernel))) hlk hb hK hC hG hS (iv_of (iv_c 1 (a := 1) (b := 1) (by decide +kernel)) (a' := 0) (b' := 1) (by decide +kernel)) dX6_readComparison_38
    · refine lv_iconst (v := 0) X.1 X.2.1 dX6_readComparison_30 (by decide +kernel) ?_
      exact sg_zret X hr (sg_zn (iv_of (iv_c 0 (a := 0) (b := 0) (by decide +kernel)) (a' := 0) (b' := 1) (by decide +kernel))) hlk hb hK hC hG hS (iv_of (iv_c 0 (a := 0) (b := 0) (by decide +kernel)) (a' := 0) (b' := 1) (by decide +kernel)) dX6_readComparison_31
  · refine lv_aload_n X.1 X.2.1 dX6_readComparison_12 rfl (lv_at hl 2 rfl) ?_
    refine ca_X10_wrong X hK hG hC hS hb a1 h1 wl_3_228 hl.1 (rest := []) rfl (Nat.le_of_ble_eq_true rfl) ⟨Nat.le_of_ble_eq_true rfl, Nat.le_of_ble_eq_true rfl⟩ ⟨Nat.le_of_ble_eq_true rfl, Nat.le_of_ble_eq_true rfl⟩ dX6_readComparison_13 (fun f8 H locs hf8 hG hS => ?_)
    exact sg_zret X hr (sg_zn hf8) hlk hb hK hC hG hS hf8 dX6_readComparison_16

theorem ca_X6_readComparison_5   (X : CallFix p m c cc nL s args sg_tbl own) (hK : va_K D vwCl tys s) (hG : sgG (KT P) D vwCl (fun q : Nat => base ≤ q) tys ad ks H) (hC : sgC base s) (hS : va_S (fun q : Nat => base ≤ q) s.heap H locs) (hb : base ≤ s.heap.size) (a0 : Nat) (h0 : isK ad ks 6 a0) (a1 : Nat) (h1 : isK ad ks 10 a1) (x2 : Int32) (h2 : iv 5 5 x2) (hl : Cond.methodLink own index yX6_readComparison ∈ sg_tbl) (hsize : ls.size = nL) (hst : st0 = [.ref a1, .int x2].reverse ++ .ref a0 :: rest) (hW : (rest.map fun v => v.category).sum ≤ 8) (hR : 9 ≤ R.frames ∧ 216 ≤ R.locals) (hf : cells ≤ R.cells ∧ slots ≤ R.slots) (hdg : decode cc pc = .ok (.invokevirtual index, 3)) (kk : ∀ (r : Int32) (H1 : Heap) (locs1 : List Loc), (fun r : Int32 => iv 0 1 r) r → sgG (KT P) D vwCl (fun q : Nat => base ≤ q) tys ad ks H1 → va_S (fun q : Nat => base ≤ q) s.heap H1 locs1 → W p l e R s m args below meth c H1 locs1 cells slots Q (F0 m (pc + 3) ls (.int r :: rest))) : W p l e R s m args below meth c H locs cells slots Q (F0 m pc ls st0) :=
  sg_callVi X hK hG hC hS hb (m_X6_readComparison_5 l a0 h0 a1 h1 x2 h2) h0 (k := 6) (ci := 6) rfl (C := RX6) (T := TX6) (N := 7) rfl wl_4_4 wl_1_3 wl_4_3 wl_0_14 (n := 2) (by decide +kernel) rfl rfl rfl hl hsize hst hW hR hf hdg kk

set_option maxHeartbeats 8000000 in
set_option maxRecDepth 100000 in
theorem m_X6_readUnit_5 (l : Launch) {D : va_G} {base : Nat} {tys : List (ClassId × FieldType)} {ad ks : List Nat} {P : sgPm} (a0 : Nat) (h0 : isK ad ks 6 a0) (a1 : Nat) (h1 : isK ad ks 10 a1) (x2 : Int32) (h2 : iv 5 5 x2) : sgMi l (KT P) D vwCl base tys ad ks yX6_readUnit cX6_readUnit 4 (some .boolean) ({ frames := 9, cells := 0, slots := 0, locals := 216 }) [.ref a0, .ref a1, .int x2] (fun r : Int32 => iv 0 1 r) := by
  refine sg_ofW (by decide +kernel) (Nat.le_of_ble_eq_true rfl) (fun p e s m below meth c X hr hlk hb hK hC hG ls hl => ?_)
  have hS : va_S (fun q : Nat => base ≤ q) s.heap s.heap [] := va_S.rf
  have hl : lv_has ls 4 [(0, .ref a0), (1, .ref a1), (2, .int x2)] := hl
  refine lv_aload_n X.1 X.2.1 dX6_readUnit_0 rfl (lv_at hl 1 rfl) ?_
  refine ca_X10_sign X hK hG hC (fun _ h => h) hS hb a1 h1 wl_3_219 hl.1 (rest := []) rfl (Nat.le_of_ble_eq_true rfl) ⟨Nat.le_of_ble_eq_true rfl, Nat.le_of_ble_eq_true rfl⟩ ⟨Nat.le_of_ble_eq_true rfl, Nat.le_of_ble_eq_true rfl⟩ dX6_readUnit_1 (fun f1 locs hf1 hS => ?_)
  refine lv_istore_n (lv' := [(3, .int f1), (0, .ref a0), (1, .ref a1), (2, .int x2)]) X.1 X.2.1 dX6_readUnit_4 rfl hl (by decide) rfl (fun ls hl => ?_)
  refine lv_iload_n X.1 X.2.1 dX6_readUnit_5 rfl (lv_at hl 0 rfl) ?_
  refine lv_bipush (v := 33) X.1 X.2.1 dX6_readUnit_6 (by decide +kernel) ?_
  have B3_41 : ∀ (locs : List Loc) (ls : Array Slot), va_S (fun q : Nat => base ≤ q) s.heap s.heap locs → lv_has ls 4 [(0, .ref a0), (1, .ref a1), (2, .int x2), (3, .int f1)] → W p l e (headSpec (Cond.code yX6_readUnit cX6_readUnit 4 (some .boolean) :: sg_tbl) ({ frames := 9, cells := 0, slots := 0, locals := 216 })).room s m #[.ref a0, .ref a1, .int x2] below meth c s.heap locs 0 0 (MQ below (va_Qi (fun r (_ : Unit) => (fun r : Int32 => iv 0 1 r) r) (fun _ => sgB (KT P) D vwCl base tys ad ks) (fun q : Nat => base ≤ q)) #[.ref a0, .ref a1, .int x2] s 0 0 (fun q : Nat => base ≤ q)) (F0 m 41 ls []) := by
    intro locs ls hS hl
    refine lv_iload_n X.1 X.2.1 dX6_readUnit_41 rfl (lv_at hl 2 rfl) ?_
    refine lv_bipush (v := 6) X.1 X.2.1 dX6_readUnit_42 (by decide +kernel) ?_
    refine lv_icmp_lt (tgt := 52) X.1 X.2.1 dX6_readUnit_44 (by decide) (fun c4 => ?_) (fun c4 => ?_)
    · refine lv_aload_n X.1 X.2.1 dX6_readUnit_52 rfl (lv_at hl 1 rfl) ?_
      refine ca_X10_step X hK hG hC hS hb a1 h1 wl_3_229 hl.1 (rest := []) rfl (Nat.le_of_ble_eq_true rfl) ⟨Nat.le_of_ble_eq_true rfl, Nat.le_of_ble_eq_true rfl⟩ ⟨Nat.le_of_ble_eq_true rfl, Nat.le_of_ble_eq_true rfl⟩ dX6_readUnit_53 (fun H locs hG hS => ?_)
      refine lv_iload_n X.1 X.2.1 dX6_readUnit_56 rfl (lv_at hl 3 rfl) ?_
      refine lv_bipush (v := 40) X.1 X.2.1 dX6_readUnit_57 (by decide +kernel) ?_
      refine lv_icmp_ne (tgt := 89) X.1 X.2.1 dX6_readUnit_59 (by decide) (fun c6 => ?_) (fun c6 => ?_)
      · refine lv_aload_n X.1 X.2.1 dX6_readUnit_89 rfl (lv_at hl 0 rfl) ?_
        refine lv_aload_n X.1 X.2.1 dX6_readUnit_90 rfl (lv_at hl 1 rfl) ?_
        refine lv_iload_n X.1 X.2.1 dX6_readUnit_91 rfl (lv_at hl 2 rfl) ?_
        refine lv_iconst (v := 1) X.1 X.2.1 dX6_readUnit_92 (by decide +kernel) ?_
        refine lv_iadd X.1 X.2.1 dX6_readUnit_93 ?_
        refine lv_topi (fun f7 ef7 => ?_)
        refine ca_X6_readUnit_6 X hK hG hC hS hb a0 h0 a1 h1 f7 (iv_add (a' := 6) (b' := 6) ef7 h2 (iv_c 1 (a := 1) (b := 1) (by decide +kernel)) (by decide +kernel)) wl_4_9 hl.1 (rest := []) rfl (Nat.le_of_ble_eq_true rfl) ⟨Nat.le_of_ble_eq_true rfl, Nat.le_of_ble_eq_true rfl⟩ ⟨Nat.le_of_ble_eq_true rfl, Nat.le_of_ble_eq_true rfl⟩ dX6_readUnit_94 (fun f8 H locs hf8 hG hS => ?_)
        refine lv_if_ne (tgt := 102) X.1 X.2.1 dX6_readUnit_97 (by decide) (fun c9 => ?_) (fun c9 => ?_)
        · refine lv_aload_n X.1 X.2.1 dX6_readUnit_102 rfl (lv_at hl 0 rfl) ?_
          refine lv_bipush (v := (-19)) X.1 X.2.1 dX6_readUnit_103 (by decide +kernel) ?_
          refine ca_X6_put X hK hG hC hS hb a0 h0 (-19) wl_3_232 hl.1 (rest := []) rfl (Nat.le_of_ble_eq_true rfl) ⟨Nat.le_of_ble_eq_true rfl, Nat.le_of_ble_eq_true rfl⟩ ⟨Nat.le_of_ble_eq_true rfl, Nat.le_of_ble_eq_true rfl⟩ dX6_readUnit_105 (fun H locs hG hS => ?_)
          refine lv_iconst (v := 1) X.1 X.2.1 dX6_readUnit_108 (by decide +kernel) ?_
          exact sg_zret X hr (sg_zn (iv_of (iv_c 1 (a := 1) (b := 1) (by decide +kernel)) (a' := 0) (b' := 1) (by decide +kernel))) hlk hb hK hC hG hS (iv_of (iv_c 1 (a := 1) (b := 1) (by decide +kernel)) (a' := 0) (b' := 1) (by decide +kernel)) dX6_readUnit_109
        · refine lv_iconst (v := 0) X.1 X.2.1 dX6_readUnit_100 (by decide +kernel) ?_
          exact sg_zret X hr (sg_zn (iv_of (iv_c 0 (a := 0) (b := 0) (by decide +kernel)) (a' := 0) (b' := 1) (by decide +kernel))) hlk hb hK hC hG hS (iv_of (iv_c 0 (a := 0) (b := 0) (by decide +kernel)) (a' := 0) (b' := 1) (by decide +kernel)) dX6_readUnit_101
      · refine lv_aload_n X.1 X.2.1 dX6_readUnit_62 rfl (lv_at hl 0 rfl) ?_
        refine lv_aload_n X.1 X.2.1 dX6_readUnit_63 rfl (lv_at hl 1 rfl) ?_
        refine lv_iload_n X.1 X.2.1 dX6_readUnit_64 rfl (lv_at hl 2 rfl) ?_
        refine lv_iconst (v := 1) X.1 X.2.1 dX6_readUnit_65 (by decide +kernel) ?_
        refine lv_iadd X.1 X.2.1 dX6_readUnit_66 ?_
        refine lv_topi (fun f11 ef11 => ?_)
        refine lv_iconst (v := 0) X.1 X.2.1 dX6_readUnit_67 (by decide +kernel) ?_
        refine ca_X6_readCondition_6 X hK hG hC hS hb a0 h0 a1 h1 f11 (iv_add (a' := 6) (b' := 6) ef11 h2 (iv_c 1 (a := 1) (b := 1) (by decide +kernel)) (by decide +kernel)) 0 (iv_of (iv_c 0 (a := 0) (b := 0) (by decide +kernel)) (a' := 0) (b' := 1) (by decide +kernel)) wl_4_5 hl.1 (rest := []) rfl (Nat.le_of_ble_eq_true rfl) ⟨Nat.le_of_ble_eq_true rfl, Nat.le_of_ble_eq_true rfl⟩ ⟨Nat.le_of_ble_eq_true rfl, Nat.le_of_ble_eq_true rfl⟩ dX6_readUnit_68 (fun f12 H locs hf12 hG hS => ?_)
        have B14_87 : ∀ (H : Heap) (locs : List Loc) (ls : Array Slot), sgG (KT P) D vwCl (fun q : Nat => base ≤ q) tys ad ks H → va_S (fun q : Nat => base ≤ q) s.heap H locs → lv_has ls 4 [] → W p l e (headSpec (Cond.code yX6_readUnit cX6_readUnit 4 (some .boolean) :: sg_tbl) ({ frames := 9, cells := 0, slots := 0, locals := 216 })).room s m #[.ref a0, .ref a1, .int x2] below meth c H locs 0 0 (MQ below (va_Qi (fun r (_ : Unit) => (fun r : Int32 => iv 0 1 r) r) (fun _ => sgB (KT P) D vwCl base tys ad ks) (fun q : Nat => base ≤ q)) #[.ref a0, .ref a1, .int x2] s 0 0 (fun q : Nat => base ≤ q)) (F0 m 87 ls []) := by
          intro H locs ls hG hS hl
          refine lv_iconst (v := 0) X.1 X.2.1 dX6_readUnit_87 (by decide +kernel) ?_
          exact sg_zret X hr (sg_zn (iv_of (iv_c 0 (a := 0) (b := 0) (by decide +kernel)) (a' := 0) (b' := 1) (by decide +kernel))) hlk hb hK hC hG hS (iv_of (iv_c 0 (a := 0) (b := 0) (by decide +kernel)) (a' := 0) (b' := 1) (by decide +kernel)) dX6_readUnit_88
        refine lv_if_eq (tgt := 87) X.1 X.2.1 dX6_readUnit_71 (by decide) (fun c13 => ?_) (fun c13 => ?_)
        · exact B14_87 H _ _ hG hS (lv_sub hl [] rfl)
        · refine lv_aload_n X.1 X.2.1 dX6_readUnit_74 rfl (lv_at hl 1 rfl) ?_
          refine lv_bipush (v := 41) X.1 X.2.1 dX6_readUnit_75 (by decide +kernel) ?_
          refine ca_X10_demand X hK hG hC hS hb a1 h1 41 wl_3_214 hl.1 (rest := []) rfl (Nat.le_of_ble_eq_true rfl) ⟨Nat.le_of_ble_eq_true rfl, Nat.le_of_ble_eq_true rfl⟩ ⟨Nat.le_of_ble_eq_true rfl, Nat.le_of_ble_eq_true rfl⟩ dX6_readUnit_77 (fun f15 H locs hf15 hG hS => ?_)
          refine lv_if_eq (tgt := 87) X.1 X.2.1 dX6_readUnit_80 (by decide) (fun c16 => ?_) (fun c16 => ?_)
          · exact B14_87 H _ _ hG hS (lv_sub hl [] rfl)
          · refine lv_iconst (v := 1) X.1 X.2.1 dX6_readUnit_83 (by decide +kernel) ?_
            refine lv_goto (tgt := 88) X.1 X.2.1 dX6_readUnit_84 (by decide) ?_
            exact sg_zret X hr (sg_zn (iv_of (iv_c 1 (a := 1) (b := 1) (by decide +kernel)) (a' := 0) (b' := 1) (by decide +kernel))) hlk hb hK hC hG hS (iv_of (iv_c 1 (a := 1) (b := 1) (by decide +kernel)) (a' := 0) (b' := 1) (by decide +kernel)) dX6_readUnit_88
    · exact ((iv_no (iv_le (b' := 5) (iv_ge_of c4) (iv_c 6 (a := 6) (b := 6) (by decide +kernel)) h2 (by decide +kernel)) (by decide +kernel))).elim
  refine lv_icmp_eq (tgt := 41) X.1 X.2.1 dX6_readUnit_8 (by decide) (fun c2 => ?_) (fun c2 => ?_)
  · exact B3_41 _ _ hS (lv_sub hl [1, 2, 3, 0] rfl)
  · refine lv_iload_n X.1 X.2.1 dX6_readUnit_11 rfl (lv_at hl 0 rfl) ?_
    refine lv_bipush (v := 40) X.1 X.2.1 dX6_readUnit_12 (by decide +kernel) ?_
    refine lv_icmp_eq (tgt := 41) X.1 X.2.1 dX6_readUnit_14 (by decide) (fun c17 => ?_) (fun c17 => ?_)
    · exact B3_41 _ _ hS (lv_sub hl [1, 2, 3, 0] rfl)
    · refine lv_aload_n X.1 X.2.1 dX6_readUnit_17 rfl (lv_at hl 1 rfl) ?_
      refine lv_aload_n X.1 X.2.1 dX6_readUnit_18 rfl (lv_at hl 2 rfl) ?_
      refine lv_iload_n X.1 X.2.1 dX6_readUnit_19 rfl (lv_at hl 3 rfl) ?_
      refine ca_X6_readSum_5 X hK hG hC hS hb a0 h0 a1 h1 x2 h2 wl_3_220 hl.1 (rest := []) rfl (Nat.le_of_ble_eq_true rfl) ⟨Nat.le_of_ble_eq_true rfl, Nat.le_of_ble_eq_true rfl⟩ ⟨Nat.le_of_ble_eq_true rfl, Nat.le_of_ble_eq_true rfl⟩ dX6_readUnit_20 (fun f18 H locs hf18 hG hS => ?_)
      have B20_39 : ∀ (H : Heap) (locs : List Loc) (ls : Array Slot), sgG (KT P) D vwCl (fun q : Nat => base ≤ q) tys ad ks H → va_S (fun q : Nat => base ≤ q) s.heap H locs → lv_has ls 4 [] → W p l e (headSpec (Cond.code yX6_readUnit cX6_readUnit 4 (some .boolean) :: sg_tbl) ({ frames := 9, cells := 0, slots := 0, locals := 216 })).room s m #[.ref a0, .ref a1, .int x2] below meth c H locs 0 0 (MQ below (va_Qi (fun r (_ : Unit) => (fun r : Int32 => iv 0 1 r) r) (fun _ => sgB (KT P) D vwCl base tys ad ks) (fun q : Nat => base ≤ q)) #[.ref a0, .ref a1, .int x2] s 0 0 (fun q : Nat => base ≤ q)) (F0 m 39 ls []) := by
        intro H locs ls hG hS hl
        refine lv_iconst (v := 0) X.1 X.2.1 dX6_readUnit_39 (by decide +kernel) ?_
        exact sg_zret X hr (sg_zn (iv_of (iv_c 0 (a := 0) (b := 0) (by decide +kernel)) (a' := 0) (b' := 1) (by decide +kernel))) hlk hb hK hC hG hS (iv_of (iv_c 0 (a := 0) (b := 0) (by decide +kernel)) (a' := 0) (b' := 1) (by decide +kernel)) dX6_readUnit_40
      refine lv_if_eq (tgt := 39) X.1 X.2.1 dX6_readUnit_23 (by decide) (fun c19 => ?_) (fun c19 => ?_)
      · exact B20_39 H _ _ hG hS (lv_sub hl [] rfl)
      · refine lv_aload_n X.1 X.2.1 dX6_readUnit_26 rfl (lv_at hl 1 rfl) ?_
        refine lv_aload_n X.1 X.2.1 dX6_readUnit_27 rfl (lv_at hl 2 rfl) ?_
        refine lv_iload_n X.1 X.2.1 dX6_readUnit_28 rfl (lv_at hl 3 rfl) ?_
        refine ca_X6_readComparison_5 X hK hG hC hS hb a0 h0 a1 h1 x2 h2 wl_4_1 hl.1 (rest := []) rfl (Nat.le_of_ble_eq_true rfl) ⟨Nat.le_of_ble_eq_true rfl, Nat.le_of_ble_eq_true rfl⟩ ⟨Nat.le_of_ble_eq_true rfl, Nat.le_of_ble_eq_true rfl⟩ dX6_readUnit_29 (fun f21 H locs hf21 hG hS => ?_)
        refine lv_if_eq (tgt := 39) X.1 X.2.1 dX6_readUnit_32 (by decide) (fun c22 => ?_) (fun c22 => ?_)
        · exact B20_39 H _ _ hG hS (lv_sub hl [] rfl)
        · refine lv_iconst (v := 1) X.1 X.2.1 dX6_readUnit_35 (by decide +kernel) ?_
          refine lv_goto (tgt := 40) X.1 X.2.1 dX6_readUnit_36 (by decide) ?_
          exact sg_zret X hr (sg_zn (iv_of (iv_c 1 (a := 1) (b := 1) (by decide +kernel)) (a' := 0) (b' := 1) (by decide +kernel))) hlk hb hK hC hG hS (iv_of (iv_c 1 (a := 1) (b := 1) (by decide +kernel)) (a' := 0) (b' := 1) (by decide +kernel)) dX6_readUnit_40

theorem ca_X6_readUnit_5   (X : CallFix p m c cc nL s args sg_tbl own) (hK : va_K D vwCl tys s) (hG : sgG (KT P) D vwCl (fun q : Nat => base ≤ q) tys ad ks H) (hC : sgC base s) (hS : va_S (fun q : Nat => base ≤ q) s.heap H locs) (hb : base ≤ s.heap.size) (a0 : Nat) (h0 : isK ad ks 6 a0) (a1 : Nat) (h1 : isK ad ks 10 a1) (x2 : Int32) (h2 : iv 5 5 x2) (hl : Cond.methodLink own index yX6_readUnit ∈ sg_tbl) (hsize : ls.size = nL) (hst : st0 = [.ref a1, .int x2].reverse ++ .ref a0 :: rest) (hW : (rest.map fun v => v.category).sum ≤ 8) (hR : 10 ≤ R.frames ∧ 239 ≤ R.locals) (hf : cells ≤ R.cells ∧ slots ≤ R.slots) (hdg : decode cc pc = .ok (.invokevirtual index, 3)) (kk : ∀ (r : Int32) (H1 : Heap) (locs1 : List Loc), (fun r : Int32 => iv 0 1 r) r → sgG (KT P) D vwCl (fun q : Nat => base ≤ q) tys ad ks H1 → va_S (fun q : Nat => base ≤ q) s.heap H1 locs1 → W p l e R s m args below meth c H1 locs1 cells slots Q (F0 m (pc + 3) ls (.int r :: rest))) : W p l e R s m args below meth c H locs cells slots Q (F0 m pc ls st0) :=
  sg_callVi X hK hG hC hS hb (m_X6_readUnit_5 l a0 h0 a1 h1 x2 h2) h0 (k := 6) (ci := 6) rfl (C := RX6) (T := TX6) (N := 7) rfl wl_4_12 wl_1_3 wl_4_11 wl_0_16 (n := 2) (by decide +kernel) rfl rfl rfl hl hsize hst hW hR hf hdg kk
end
