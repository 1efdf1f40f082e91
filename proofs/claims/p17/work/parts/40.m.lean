abbrev cX12_around : ByteArray := prog_14_method_46_code
def yX12_around : MethodName := ⟨RX12, "around", "(II)I"⟩
abbrev cX12_copy : ByteArray := prog_14_method_41_code
def yX12_copy : MethodName := ⟨RX12, "copy", "([I[I)V"⟩
abbrev cX12_has : ByteArray := prog_14_method_4_code
def yX12_has : MethodName := ⟨RX12, "has", "(II)Z"⟩
abbrev cX12_hasLine : ByteArray := prog_14_method_45_code
def yX12_hasLine : MethodName := ⟨RX12, "hasLine", "(I[I)Z"⟩
abbrev cX12_isCell : ByteArray := prog_14_method_42_code
def yX12_isCell : MethodName := ⟨RX12, "isCell", "(I)Z"⟩
abbrev cX12_isIn : ByteArray := prog_14_method_3_code
def yX12_isIn : MethodName := ⟨RX12, "isIn", "(JJJ)Z"⟩
abbrev cX12_isOpen : ByteArray := prog_14_method_57_code
def yX12_isOpen : MethodName := ⟨RX12, "isOpen", "([I)Z"⟩
abbrev cX12_longestIn : ByteArray := prog_14_method_44_code
def yX12_longestIn : MethodName := ⟨RX12, "longestIn", "(I[I)I"⟩
abbrev cX12_rowFrom : ByteArray := prog_14_method_43_code
def yX12_rowFrom : MethodName := ⟨RX12, "rowFrom", "(III[I)I"⟩
abbrev cX12_turns : ByteArray := prog_14_method_116_code
def yX12_turns : MethodName := ⟨RX12, "turns", "()I"⟩
theorem dX12_around_0 : decode cX12_around 0 = .ok (.iconst 0, 1) := by decide +kernel
theorem dX12_around_1 : decode cX12_around 1 = .ok (.istore_n 3, 1) := by decide +kernel
theorem dX12_around_2 : decode cX12_around 2 = .ok (.iconst 0, 1) := by decide +kernel
theorem dX12_around_3 : decode cX12_around 3 = .ok (.istore 4, 2) := by decide +kernel
theorem dX12_around_5 : decode cX12_around 5 = .ok (.iload 4, 2) := by decide +kernel
theorem dX12_around_7 : decode cX12_around 7 = .ok (.aload_n 0, 1) := by decide +kernel
theorem dX12_around_8 : decode cX12_around 8 = .ok (.getfield 302, 3) := by decide +kernel
theorem dX12_around_11 : decode cX12_around 11 = .ok (.if_icmp .ge 94, 3) := by decide +kernel
theorem dX12_around_14 : decode cX12_around 14 = .ok (.iload 4, 2) := by decide +kernel
theorem dX12_around_16 : decode cX12_around 16 = .ok (.iload_n 2, 1) := by decide +kernel
theorem dX12_around_17 : decode cX12_around 17 = .ok (.if_icmp .eq 57, 3) := by decide +kernel
theorem dX12_around_20 : decode cX12_around 20 = .ok (.iload 4, 2) := by decide +kernel
theorem dX12_around_22 : decode cX12_around 22 = .ok (.aload_n 0, 1) := by decide +kernel
theorem dX12_around_23 : decode cX12_around 23 = .ok (.getfield 37, 3) := by decide +kernel
theorem dX12_around_26 : decode cX12_around 26 = .ok (.iconst 0, 1) := by decide +kernel
theorem dX12_around_27 : decode cX12_around 27 = .ok (.iaload, 1) := by decide +kernel
theorem dX12_around_28 : decode cX12_around 28 = .ok (.irem, 1) := by decide +kernel
theorem dX12_around_29 : decode cX12_around 29 = .ok (.iload_n 2, 1) := by decide +kernel
theorem dX12_around_30 : decode cX12_around 30 = .ok (.aload_n 0, 1) := by decide +kernel
theorem dX12_around_31 : decode cX12_around 31 = .ok (.getfield 37, 3) := by decide +kernel
theorem dX12_around_34 : decode cX12_around 34 = .ok (.iconst 0, 1) := by decide +kernel
theorem dX12_around_35 : decode cX12_around 35 = .ok (.iaload, 1) := by decide +kernel
theorem dX12_around_36 : decode cX12_around 36 = .ok (.irem, 1) := by decide +kernel
theorem dX12_around_37 : decode cX12_around 37 = .ok (.isub, 1) := by decide +kernel
theorem dX12_around_38 : decode cX12_around 38 = .ok (.invokestatic 327, 3) := by decide +kernel
theorem dX12_around_41 : decode cX12_around 41 = .ok (.iconst 2, 1) := by decide +kernel
theorem dX12_around_42 : decode cX12_around 42 = .ok (.if_icmp .ge 32, 3) := by decide +kernel
theorem dX12_around_45 : decode cX12_around 45 = .ok (.iload 4, 2) := by decide +kernel
theorem dX12_around_47 : decode cX12_around 47 = .ok (.aload_n 0, 1) := by decide +kernel
theorem dX12_around_48 : decode cX12_around 48 = .ok (.getfield 37, 3) := by decide +kernel
theorem dX12_around_51 : decode cX12_around 51 = .ok (.iconst 0, 1) := by decide +kernel
theorem dX12_around_52 : decode cX12_around 52 = .ok (.iaload, 1) := by decide +kernel
theorem dX12_around_53 : decode cX12_around 53 = .ok (.idiv, 1) := by decide +kernel
theorem dX12_around_54 : decode cX12_around 54 = .ok (.iload_n 2, 1) := by decide +kernel
theorem dX12_around_55 : decode cX12_around 55 = .ok (.aload_n 0, 1) := by decide +kernel
theorem dX12_around_56 : decode cX12_around 56 = .ok (.getfield 37, 3) := by decide +kernel
theorem dX12_around_59 : decode cX12_around 59 = .ok (.iconst 0, 1) := by decide +kernel
theorem dX12_around_60 : decode cX12_around 60 = .ok (.iaload, 1) := by decide +kernel
theorem dX12_around_61 : decode cX12_around 61 = .ok (.idiv, 1) := by decide +kernel
theorem dX12_around_62 : decode cX12_around 62 = .ok (.isub, 1) := by decide +kernel
theorem dX12_around_63 : decode cX12_around 63 = .ok (.invokestatic 327, 3) := by decide +kernel
theorem dX12_around_66 : decode cX12_around 66 = .ok (.iconst 2, 1) := by decide +kernel
theorem dX12_around_67 : decode cX12_around 67 = .ok (.if_icmp .ge 7, 3) := by decide +kernel
theorem dX12_around_70 : decode cX12_around 70 = .ok (.iconst 1, 1) := by decide +kernel
theorem dX12_around_71 : decode cX12_around 71 = .ok (.goto 4, 3) := by decide +kernel
theorem dX12_around_74 : decode cX12_around 74 = .ok (.iconst 0, 1) := by decide +kernel
theorem dX12_around_75 : decode cX12_around 75 = .ok (.istore 5, 2) := by decide +kernel
theorem dX12_around_77 : decode cX12_around 77 = .ok (.iload_n 3, 1) := by decide +kernel
theorem dX12_around_78 : decode cX12_around 78 = .ok (.iload 5, 2) := by decide +kernel
theorem dX12_around_80 : decode cX12_around 80 = .ok (.ifCond .eq 16, 3) := by decide +kernel
theorem dX12_around_83 : decode cX12_around 83 = .ok (.iload_n 1, 1) := by decide +kernel
theorem dX12_around_84 : decode cX12_around 84 = .ok (.iload 4, 2) := by decide +kernel
theorem dX12_around_86 : decode cX12_around 86 = .ok (.invokestatic 227, 3) := by decide +kernel
theorem dX12_around_89 : decode cX12_around 89 = .ok (.ifCond .eq 7, 3) := by decide +kernel
theorem dX12_around_92 : decode cX12_around 92 = .ok (.iconst 1, 1) := by decide +kernel
theorem dX12_around_93 : decode cX12_around 93 = .ok (.goto 4, 3) := by decide +kernel
theorem dX12_around_96 : decode cX12_around 96 = .ok (.iconst 0, 1) := by decide +kernel
theorem dX12_around_97 : decode cX12_around 97 = .ok (.iadd, 1) := by decide +kernel
theorem dX12_around_98 : decode cX12_around 98 = .ok (.istore_n 3, 1) := by decide +kernel
theorem dX12_around_99 : decode cX12_around 99 = .ok (.iinc 4 1, 3) := by decide +kernel
theorem dX12_around_102 : decode cX12_around 102 = .ok (.goto (-97), 3) := by decide +kernel
theorem dX12_around_105 : decode cX12_around 105 = .ok (.iload_n 3, 1) := by decide +kernel
theorem dX12_around_106 : decode cX12_around 106 = .ok (.ireturn, 1) := by decide +kernel
theorem dX12_copy_0 : decode cX12_copy 0 = .ok (.bipush 9, 2) := by decide +kernel
theorem dX12_copy_2 : decode cX12_copy 2 = .ok (.iconst 4, 1) := by decide +kernel
theorem dX12_copy_3 : decode cX12_copy 3 = .ok (.aload_n 0, 1) := by decide +kernel
theorem dX12_copy_4 : decode cX12_copy 4 = .ok (.bipush 8, 2) := by decide +kernel
theorem dX12_copy_6 : decode cX12_copy 6 = .ok (.iaload, 1) := by decide +kernel
theorem dX12_copy_7 : decode cX12_copy 7 = .ok (.imul, 1) := by decide +kernel
theorem dX12_copy_8 : decode cX12_copy 8 = .ok (.iadd, 1) := by decide +kernel
theorem dX12_copy_9 : decode cX12_copy 9 = .ok (.istore_n 2, 1) := by decide +kernel
theorem dX12_copy_10 : decode cX12_copy 10 = .ok (.iconst 0, 1) := by decide +kernel
theorem dX12_copy_11 : decode cX12_copy 11 = .ok (.istore_n 3, 1) := by decide +kernel
theorem dX12_copy_12 : decode cX12_copy 12 = .ok (.iload_n 3, 1) := by decide +kernel
theorem dX12_copy_13 : decode cX12_copy 13 = .ok (.iload_n 2, 1) := by decide +kernel
theorem dX12_copy_14 : decode cX12_copy 14 = .ok (.if_icmp .ge 15, 3) := by decide +kernel
theorem dX12_copy_17 : decode cX12_copy 17 = .ok (.aload_n 1, 1) := by decide +kernel
theorem dX12_copy_18 : decode cX12_copy 18 = .ok (.iload_n 3, 1) := by decide +kernel
theorem dX12_copy_19 : decode cX12_copy 19 = .ok (.aload_n 0, 1) := by decide +kernel
theorem dX12_copy_20 : decode cX12_copy 20 = .ok (.iload_n 3, 1) := by decide +kernel
theorem dX12_copy_21 : decode cX12_copy 21 = .ok (.iaload, 1) := by decide +kernel
theorem dX12_copy_22 : decode cX12_copy 22 = .ok (.iastore, 1) := by decide +kernel
theorem dX12_copy_23 : decode cX12_copy 23 = .ok (.iinc 3 1, 3) := by decide +kernel
theorem dX12_copy_26 : decode cX12_copy 26 = .ok (.goto (-14), 3) := by decide +kernel
theorem dX12_copy_29 : decode cX12_copy 29 = .ok (.return_, 1) := by decide +kernel
theorem dX12_has_0 : decode cX12_has 0 = .ok (.iload_n 0, 1) := by decide +kernel
theorem dX12_has_1 : decode cX12_has 1 = .ok (.iload_n 1, 1) := by decide +kernel
theorem dX12_has_2 : decode cX12_has 2 = .ok (.ishr, 1) := by decide +kernel
theorem dX12_has_3 : decode cX12_has 3 = .ok (.iconst 1, 1) := by decide +kernel
theorem dX12_has_4 : decode cX12_has 4 = .ok (.iand, 1) := by decide +kernel
theorem dX12_has_5 : decode cX12_has 5 = .ok (.iconst 1, 1) := by decide +kernel
theorem dX12_has_6 : decode cX12_has 6 = .ok (.if_icmp .ne 7, 3) := by decide +kernel
theorem dX12_has_9 : decode cX12_has 9 = .ok (.iconst 1, 1) := by decide +kernel
theorem dX12_has_10 : decode cX12_has 10 = .ok (.goto 4, 3) := by decide +kernel
theorem dX12_has_13 : decode cX12_has 13 = .ok (.iconst 0, 1) := by decide +kernel
theorem dX12_has_14 : decode cX12_has 14 = .ok (.ireturn, 1) := by decide +kernel
theorem dX12_hasLine_0 : decode cX12_hasLine 0 = .ok (.iload_n 0, 1) := by decide +kernel
theorem dX12_hasLine_1 : decode cX12_hasLine 1 = .ok (.aload_n 1, 1) := by decide +kernel
theorem dX12_hasLine_2 : decode cX12_hasLine 2 = .ok (.invokestatic 323, 3) := by decide +kernel
theorem dX12_hasLine_5 : decode cX12_hasLine 5 = .ok (.aload_n 1, 1) := by decide +kernel
theorem dX12_hasLine_6 : decode cX12_hasLine 6 = .ok (.iconst 2, 1) := by decide +kernel
theorem dX12_hasLine_7 : decode cX12_hasLine 7 = .ok (.iaload, 1) := by decide +kernel
theorem dX12_hasLine_8 : decode cX12_hasLine 8 = .ok (.if_icmp .lt 7, 3) := by decide +kernel
theorem dX12_hasLine_11 : decode cX12_hasLine 11 = .ok (.iconst 1, 1) := by decide +kernel
theorem dX12_hasLine_12 : decode cX12_hasLine 12 = .ok (.goto 4, 3) := by decide +kernel
theorem dX12_hasLine_15 : decode cX12_hasLine 15 = .ok (.iconst 0, 1) := by decide +kernel
theorem dX12_hasLine_16 : decode cX12_hasLine 16 = .ok (.ireturn, 1) := by decide +kernel
theorem dX12_isCell_0 : decode cX12_isCell 0 = .ok (.iload_n 1, 1) := by decide +kernel
theorem dX12_isCell_1 : decode cX12_isCell 1 = .ok (.ifCond .lt 15, 3) := by decide +kernel
theorem dX12_isCell_4 : decode cX12_isCell 4 = .ok (.iload_n 1, 1) := by decide +kernel
theorem dX12_isCell_5 : decode cX12_isCell 5 = .ok (.aload_n 0, 1) := by decide +kernel
theorem dX12_isCell_6 : decode cX12_isCell 6 = .ok (.getfield 302, 3) := by decide +kernel
theorem dX12_isCell_9 : decode cX12_isCell 9 = .ok (.if_icmp .ge 7, 3) := by decide +kernel
theorem dX12_isCell_12 : decode cX12_isCell 12 = .ok (.iconst 1, 1) := by decide +kernel
theorem dX12_isCell_13 : decode cX12_isCell 13 = .ok (.goto 4, 3) := by decide +kernel
theorem dX12_isCell_16 : decode cX12_isCell 16 = .ok (.iconst 0, 1) := by decide +kernel
theorem dX12_isCell_17 : decode cX12_isCell 17 = .ok (.ireturn, 1) := by decide +kernel
theorem dX12_isIn_0 : decode cX12_isIn 0 = .ok (.lload_n 0, 1) := by decide +kernel
theorem dX12_isIn_1 : decode cX12_isIn 1 = .ok (.lload_n 2, 1) := by decide +kernel
theorem dX12_isIn_2 : decode cX12_isIn 2 = .ok (.lcmp, 1) := by decide +kernel
theorem dX12_isIn_3 : decode cX12_isIn 3 = .ok (.ifCond .lt 14, 3) := by decide +kernel
theorem dX12_isIn_6 : decode cX12_isIn 6 = .ok (.lload_n 0, 1) := by decide +kernel
theorem dX12_isIn_7 : decode cX12_isIn 7 = .ok (.lload 4, 2) := by decide +kernel
theorem dX12_isIn_9 : decode cX12_isIn 9 = .ok (.lcmp, 1) := by decide +kernel
theorem dX12_isIn_10 : decode cX12_isIn 10 = .ok (.ifCond .gt 7, 3) := by decide +kernel
theorem dX12_isIn_13 : decode cX12_isIn 13 = .ok (.iconst 1, 1) := by decide +kernel
theorem dX12_isIn_14 : decode cX12_isIn 14 = .ok (.goto 4, 3) := by decide +kernel
theorem dX12_isIn_17 : decode cX12_isIn 17 = .ok (.iconst 0, 1) := by decide +kernel
theorem dX12_isIn_18 : decode cX12_isIn 18 = .ok (.ireturn, 1) := by decide +kernel
theorem dX12_isOpen_0 : decode cX12_isOpen 0 = .ok (.aload_n 0, 1) := by decide +kernel
theorem dX12_isOpen_1 : decode cX12_isOpen 1 = .ok (.getfield 302, 3) := by decide +kernel
theorem dX12_isOpen_4 : decode cX12_isOpen 4 = .ok (.ifCond .le 13, 3) := by decide +kernel
theorem dX12_isOpen_7 : decode cX12_isOpen 7 = .ok (.aload_n 1, 1) := by decide +kernel
theorem dX12_isOpen_8 : decode cX12_isOpen 8 = .ok (.iconst 3, 1) := by decide +kernel
theorem dX12_isOpen_9 : decode cX12_isOpen 9 = .ok (.iaload, 1) := by decide +kernel
theorem dX12_isOpen_10 : decode cX12_isOpen 10 = .ok (.ifCond .ne 7, 3) := by decide +kernel
theorem dX12_isOpen_13 : decode cX12_isOpen 13 = .ok (.iconst 1, 1) := by decide +kernel
theorem dX12_isOpen_14 : decode cX12_isOpen 14 = .ok (.goto 4, 3) := by decide +kernel
theorem dX12_isOpen_17 : decode cX12_isOpen 17 = .ok (.iconst 0, 1) := by decide +kernel
theorem dX12_isOpen_18 : decode cX12_isOpen 18 = .ok (.ireturn, 1) := by decide +kernel
theorem dX12_longestIn_0 : decode cX12_longestIn 0 = .ok (.iconst 0, 1) := by decide +kernel
theorem dX12_longestIn_1 : decode cX12_longestIn 1 = .ok (.istore_n 2, 1) := by decide +kernel
theorem dX12_longestIn_2 : decode cX12_longestIn 2 = .ok (.iconst 0, 1) := by decide +kernel
theorem dX12_longestIn_3 : decode cX12_longestIn 3 = .ok (.istore_n 3, 1) := by decide +kernel
theorem dX12_longestIn_4 : decode cX12_longestIn 4 = .ok (.iload_n 3, 1) := by decide +kernel
theorem dX12_longestIn_5 : decode cX12_longestIn 5 = .ok (.aload_n 1, 1) := by decide +kernel
theorem dX12_longestIn_6 : decode cX12_longestIn 6 = .ok (.iconst 0, 1) := by decide +kernel
theorem dX12_longestIn_7 : decode cX12_longestIn 7 = .ok (.iaload, 1) := by decide +kernel
theorem dX12_longestIn_8 : decode cX12_longestIn 8 = .ok (.aload_n 1, 1) := by decide +kernel
theorem dX12_longestIn_9 : decode cX12_longestIn 9 = .ok (.iconst 1, 1) := by decide +kernel
theorem dX12_longestIn_10 : decode cX12_longestIn 10 = .ok (.iaload, 1) := by decide +kernel
theorem dX12_longestIn_11 : decode cX12_longestIn 11 = .ok (.imul, 1) := by decide +kernel
theorem dX12_longestIn_12 : decode cX12_longestIn 12 = .ok (.if_icmp .ge 37, 3) := by decide +kernel
theorem dX12_longestIn_15 : decode cX12_longestIn 15 = .ok (.iconst 0, 1) := by decide +kernel
theorem dX12_longestIn_16 : decode cX12_longestIn 16 = .ok (.istore 4, 2) := by decide +kernel
theorem dX12_longestIn_18 : decode cX12_longestIn 18 = .ok (.iload 4, 2) := by decide +kernel
theorem dX12_longestIn_20 : decode cX12_longestIn 20 = .ok (.iconst 4, 1) := by decide +kernel
theorem dX12_longestIn_21 : decode cX12_longestIn 21 = .ok (.if_icmp .ge 22, 3) := by decide +kernel
theorem dX12_longestIn_24 : decode cX12_longestIn 24 = .ok (.iload_n 2, 1) := by decide +kernel
theorem dX12_longestIn_25 : decode cX12_longestIn 25 = .ok (.iload_n 0, 1) := by decide +kernel
theorem dX12_longestIn_26 : decode cX12_longestIn 26 = .ok (.iload_n 3, 1) := by decide +kernel
theorem dX12_longestIn_27 : decode cX12_longestIn 27 = .ok (.iload 4, 2) := by decide +kernel
theorem dX12_longestIn_29 : decode cX12_longestIn 29 = .ok (.aload_n 1, 1) := by decide +kernel
theorem dX12_longestIn_30 : decode cX12_longestIn 30 = .ok (.invokestatic 317, 3) := by decide +kernel
theorem dX12_longestIn_33 : decode cX12_longestIn 33 = .ok (.invokestatic 321, 3) := by decide +kernel
theorem dX12_longestIn_36 : decode cX12_longestIn 36 = .ok (.istore_n 2, 1) := by decide +kernel
theorem dX12_longestIn_37 : decode cX12_longestIn 37 = .ok (.iinc 4 1, 3) := by decide +kernel
theorem dX12_longestIn_40 : decode cX12_longestIn 40 = .ok (.goto (-22), 3) := by decide +kernel
theorem dX12_longestIn_43 : decode cX12_longestIn 43 = .ok (.iinc 3 1, 3) := by decide +kernel
theorem dX12_longestIn_46 : decode cX12_longestIn 46 = .ok (.goto (-42), 3) := by decide +kernel
theorem dX12_longestIn_49 : decode cX12_longestIn 49 = .ok (.iload_n 2, 1) := by decide +kernel
theorem dX12_longestIn_50 : decode cX12_longestIn 50 = .ok (.ireturn, 1) := by decide +kernel
theorem dX12_rowFrom_0 : decode cX12_rowFrom 0 = .ok (.iload_n 1, 1) := by decide +kernel
theorem dX12_rowFrom_1 : decode cX12_rowFrom 1 = .ok (.aload_n 3, 1) := by decide +kernel
theorem dX12_rowFrom_2 : decode cX12_rowFrom 2 = .ok (.iconst 0, 1) := by decide +kernel
theorem dX12_rowFrom_3 : decode cX12_rowFrom 3 = .ok (.iaload, 1) := by decide +kernel
theorem dX12_rowFrom_4 : decode cX12_rowFrom 4 = .ok (.irem, 1) := by decide +kernel
theorem dX12_rowFrom_5 : decode cX12_rowFrom 5 = .ok (.istore 4, 2) := by decide +kernel
theorem dX12_rowFrom_7 : decode cX12_rowFrom 7 = .ok (.iload_n 1, 1) := by decide +kernel
theorem dX12_rowFrom_8 : decode cX12_rowFrom 8 = .ok (.aload_n 3, 1) := by decide +kernel
theorem dX12_rowFrom_9 : decode cX12_rowFrom 9 = .ok (.iconst 0, 1) := by decide +kernel
theorem dX12_rowFrom_10 : decode cX12_rowFrom 10 = .ok (.iaload, 1) := by decide +kernel
theorem dX12_rowFrom_11 : decode cX12_rowFrom 11 = .ok (.idiv, 1) := by decide +kernel
theorem dX12_rowFrom_12 : decode cX12_rowFrom 12 = .ok (.istore 5, 2) := by decide +kernel
theorem dX12_rowFrom_14 : decode cX12_rowFrom 14 = .ok (.iload_n 2, 1) := by decide +kernel
theorem dX12_rowFrom_15 : decode cX12_rowFrom 15 = .ok (.ifCond .eq 8, 3) := by decide +kernel
theorem dX12_rowFrom_18 : decode cX12_rowFrom 18 = .ok (.iload_n 2, 1) := by decide +kernel
theorem dX12_rowFrom_19 : decode cX12_rowFrom 19 = .ok (.iconst 2, 1) := by decide +kernel
theorem dX12_rowFrom_20 : decode cX12_rowFrom 20 = .ok (.if_icmp .ne 7, 3) := by decide +kernel
theorem dX12_rowFrom_23 : decode cX12_rowFrom 23 = .ok (.iconst 1, 1) := by decide +kernel
theorem dX12_rowFrom_24 : decode cX12_rowFrom 24 = .ok (.goto 13, 3) := by decide +kernel
theorem dX12_rowFrom_27 : decode cX12_rowFrom 27 = .ok (.iload_n 2, 1) := by decide +kernel
theorem dX12_rowFrom_28 : decode cX12_rowFrom 28 = .ok (.iconst 3, 1) := by decide +kernel
theorem dX12_rowFrom_29 : decode cX12_rowFrom 29 = .ok (.if_icmp .ne 7, 3) := by decide +kernel
theorem dX12_rowFrom_32 : decode cX12_rowFrom 32 = .ok (.iconst (-1), 1) := by decide +kernel
theorem dX12_rowFrom_33 : decode cX12_rowFrom 33 = .ok (.goto 4, 3) := by decide +kernel
theorem dX12_rowFrom_36 : decode cX12_rowFrom 36 = .ok (.iconst 0, 1) := by decide +kernel
theorem dX12_rowFrom_37 : decode cX12_rowFrom 37 = .ok (.istore 6, 2) := by decide +kernel
theorem dX12_rowFrom_39 : decode cX12_rowFrom 39 = .ok (.iload_n 2, 1) := by decide +kernel
theorem dX12_rowFrom_40 : decode cX12_rowFrom 40 = .ok (.ifCond .ne 7, 3) := by decide +kernel
theorem dX12_rowFrom_43 : decode cX12_rowFrom 43 = .ok (.iconst 0, 1) := by decide +kernel
theorem dX12_rowFrom_44 : decode cX12_rowFrom 44 = .ok (.goto 4, 3) := by decide +kernel
theorem dX12_rowFrom_47 : decode cX12_rowFrom 47 = .ok (.iconst 1, 1) := by decide +kernel
theorem dX12_rowFrom_48 : decode cX12_rowFrom 48 = .ok (.istore 7, 2) := by decide +kernel
theorem dX12_rowFrom_50 : decode cX12_rowFrom 50 = .ok (.iconst 0, 1) := by decide +kernel
theorem dX12_rowFrom_51 : decode cX12_rowFrom 51 = .ok (.istore 8, 2) := by decide +kernel
theorem dX12_rowFrom_53 : decode cX12_rowFrom 53 = .ok (.iload 4, 2) := by decide +kernel
theorem dX12_rowFrom_55 : decode cX12_rowFrom 55 = .ok (.ifCond .lt 55, 3) := by decide +kernel
theorem dX12_rowFrom_58 : decode cX12_rowFrom 58 = .ok (.iload 4, 2) := by decide +kernel
theorem dX12_rowFrom_60 : decode cX12_rowFrom 60 = .ok (.aload_n 3, 1) := by decide +kernel
theorem dX12_rowFrom_61 : decode cX12_rowFrom 61 = .ok (.iconst 0, 1) := by decide +kernel
theorem dX12_rowFrom_62 : decode cX12_rowFrom 62 = .ok (.iaload, 1) := by decide +kernel
theorem dX12_rowFrom_63 : decode cX12_rowFrom 63 = .ok (.if_icmp .ge 47, 3) := by decide +kernel
theorem dX12_rowFrom_66 : decode cX12_rowFrom 66 = .ok (.iload 5, 2) := by decide +kernel
theorem dX12_rowFrom_68 : decode cX12_rowFrom 68 = .ok (.aload_n 3, 1) := by decide +kernel
theorem dX12_rowFrom_69 : decode cX12_rowFrom 69 = .ok (.iconst 1, 1) := by decide +kernel
theorem dX12_rowFrom_70 : decode cX12_rowFrom 70 = .ok (.iaload, 1) := by decide +kernel
theorem dX12_rowFrom_71 : decode cX12_rowFrom 71 = .ok (.if_icmp .ge 39, 3) := by decide +kernel
theorem dX12_rowFrom_74 : decode cX12_rowFrom 74 = .ok (.iload_n 0, 1) := by decide +kernel
theorem dX12_rowFrom_75 : decode cX12_rowFrom 75 = .ok (.iload 5, 2) := by decide +kernel
theorem dX12_rowFrom_77 : decode cX12_rowFrom 77 = .ok (.aload_n 3, 1) := by decide +kernel
theorem dX12_rowFrom_78 : decode cX12_rowFrom 78 = .ok (.iconst 0, 1) := by decide +kernel
theorem dX12_rowFrom_79 : decode cX12_rowFrom 79 = .ok (.iaload, 1) := by decide +kernel
theorem dX12_rowFrom_80 : decode cX12_rowFrom 80 = .ok (.imul, 1) := by decide +kernel
theorem dX12_rowFrom_81 : decode cX12_rowFrom 81 = .ok (.iload 4, 2) := by decide +kernel
theorem dX12_rowFrom_83 : decode cX12_rowFrom 83 = .ok (.iadd, 1) := by decide +kernel
theorem dX12_rowFrom_84 : decode cX12_rowFrom 84 = .ok (.invokestatic 227, 3) := by decide +kernel
theorem dX12_rowFrom_87 : decode cX12_rowFrom 87 = .ok (.ifCond .eq 23, 3) := by decide +kernel
theorem dX12_rowFrom_90 : decode cX12_rowFrom 90 = .ok (.iinc 8 1, 3) := by decide +kernel
theorem dX12_rowFrom_93 : decode cX12_rowFrom 93 = .ok (.iload 4, 2) := by decide +kernel
theorem dX12_rowFrom_95 : decode cX12_rowFrom 95 = .ok (.iload 6, 2) := by decide +kernel
theorem dX12_rowFrom_97 : decode cX12_rowFrom 97 = .ok (.iadd, 1) := by decide +kernel
theorem dX12_rowFrom_98 : decode cX12_rowFrom 98 = .ok (.istore 4, 2) := by decide +kernel
theorem dX12_rowFrom_100 : decode cX12_rowFrom 100 = .ok (.iload 5, 2) := by decide +kernel
theorem dX12_rowFrom_102 : decode cX12_rowFrom 102 = .ok (.iload 7, 2) := by decide +kernel
theorem dX12_rowFrom_104 : decode cX12_rowFrom 104 = .ok (.iadd, 1) := by decide +kernel
theorem dX12_rowFrom_105 : decode cX12_rowFrom 105 = .ok (.istore 5, 2) := by decide +kernel
theorem dX12_rowFrom_107 : decode cX12_rowFrom 107 = .ok (.goto (-54), 3) := by decide +kernel
theorem dX12_rowFrom_110 : decode cX12_rowFrom 110 = .ok (.iload 8, 2) := by decide +kernel
theorem dX12_rowFrom_112 : decode cX12_rowFrom 112 = .ok (.ireturn, 1) := by decide +kernel
theorem dX12_turns_0 : decode cX12_turns 0 = .ok (.aload_n 0, 1) := by decide +kernel
theorem dX12_turns_1 : decode cX12_turns 1 = .ok (.getfield 37, 3) := by decide +kernel
theorem dX12_turns_4 : decode cX12_turns 4 = .ok (.iconst 0, 1) := by decide +kernel
theorem dX12_turns_5 : decode cX12_turns 5 = .ok (.iaload, 1) := by decide +kernel
theorem dX12_turns_6 : decode cX12_turns 6 = .ok (.aload_n 0, 1) := by decide +kernel
theorem dX12_turns_7 : decode cX12_turns 7 = .ok (.getfield 37, 3) := by decide +kernel
theorem dX12_turns_10 : decode cX12_turns 10 = .ok (.iconst 1, 1) := by decide +kernel
theorem dX12_turns_11 : decode cX12_turns 11 = .ok (.iaload, 1) := by decide +kernel
theorem dX12_turns_12 : decode cX12_turns 12 = .ok (.if_icmp .ne 8, 3) := by decide +kernel
theorem dX12_turns_15 : decode cX12_turns 15 = .ok (.bipush 8, 2) := by decide +kernel
theorem dX12_turns_17 : decode cX12_turns 17 = .ok (.goto 4, 3) := by decide +kernel
theorem dX12_turns_20 : decode cX12_turns 20 = .ok (.iconst 4, 1) := by decide +kernel
theorem dX12_turns_21 : decode cX12_turns 21 = .ok (.ireturn, 1) := by decide +kernel
theorem wl_6_201 : (.fieldLink RX12 302 "LawnAheadModel" "cells" "I" : Cond) ∈ sg_tbl := tb_6 _ (List.mem_of_getElem? (i := 201) (by decide +kernel)) (by decide +kernel)
theorem wl_7_174 : (.methodLink RX12 227 yX12_has : Cond) ∈ sg_tbl := tb_7 _ (List.mem_of_getElem? (i := 174) (by decide +kernel)) (by decide +kernel)
theorem wl_7_205 : (.methodLink RX12 321 Lib.Math.max.name : Cond) ∈ sg_tbl := tb_7 _ (List.mem_of_getElem? (i := 205) (by decide +kernel)) (by decide +kernel)
theorem wl_7_202 : (.methodLink RX12 317 yX12_rowFrom : Cond) ∈ sg_tbl := tb_7 _ (List.mem_of_getElem? (i := 202) (by decide +kernel)) (by decide +kernel)
theorem wl_7_199 : (.methodLink RX12 323 yX12_longestIn : Cond) ∈ sg_tbl := tb_7 _ (List.mem_of_getElem? (i := 199) (by decide +kernel)) (by decide +kernel)
theorem wl_8_63 : (.methodLink RX12 327 Lib.Math.abs.name : Cond) ∈ sg_tbl := tb_8 _ (List.mem_of_getElem? (i := 63) (by decide +kernel)) (by decide +kernel)
theorem wl_6_196 : (.fieldLink RX12 37 "LawnAheadModel" "rule" "[I" : Cond) ∈ sg_tbl := tb_6 _ (List.mem_of_getElem? (i := 196) (by decide +kernel)) (by decide +kernel)
theorem wl_1_13 : (.initialized RX12 : Cond) ∈ sg_tbl := tb_1 _ (List.mem_of_getElem? (i := 13) (by decide +kernel)) (by decide +kernel)
theorem wl_7_121 : (.code yX12_isIn cX12_isIn 6 (some .boolean) : Cond) ∈ sg_tbl := tb_7 _ (List.mem_of_getElem? (i := 121) (by decide +kernel)) (by decide +kernel)
theorem wl_7_120 : (.static yX12_isIn : Cond) ∈ sg_tbl := tb_7 _ (List.mem_of_getElem? (i := 120) (by decide +kernel)) (by decide +kernel)
theorem wl_7_176 : (.code yX12_has cX12_has 2 (some .boolean) : Cond) ∈ sg_tbl := tb_7 _ (List.mem_of_getElem? (i := 176) (by decide +kernel)) (by decide +kernel)
theorem wl_7_175 : (.static yX12_has : Cond) ∈ sg_tbl := tb_7 _ (List.mem_of_getElem? (i := 175) (by decide +kernel)) (by decide +kernel)
theorem wl_8_58 : (.code yX12_isCell cX12_isCell 2 (some .boolean) : Cond) ∈ sg_tbl := tb_8 _ (List.mem_of_getElem? (i := 58) (by decide +kernel)) (by decide +kernel)
theorem wl_8_57 : (.instanceMethod yX12_isCell : Cond) ∈ sg_tbl := tb_8 _ (List.mem_of_getElem? (i := 57) (by decide +kernel)) (by decide +kernel)
theorem wl_0_72 : (.selects RX12 yX12_isCell yX12_isCell : Cond) ∈ sg_tbl := tb_0 _ (List.mem_of_getElem? (i := 72) (by decide +kernel)) (by decide +kernel)
theorem wl_7_204 : (.code yX12_rowFrom cX12_rowFrom 9 (some .int) : Cond) ∈ sg_tbl := tb_7 _ (List.mem_of_getElem? (i := 204) (by decide +kernel)) (by decide +kernel)
theorem wl_7_203 : (.static yX12_rowFrom : Cond) ∈ sg_tbl := tb_7 _ (List.mem_of_getElem? (i := 203) (by decide +kernel)) (by decide +kernel)
theorem wl_7_201 : (.code yX12_longestIn cX12_longestIn 5 (some .int) : Cond) ∈ sg_tbl := tb_7 _ (List.mem_of_getElem? (i := 201) (by decide +kernel)) (by decide +kernel)
theorem wl_7_200 : (.static yX12_longestIn : Cond) ∈ sg_tbl := tb_7 _ (List.mem_of_getElem? (i := 200) (by decide +kernel)) (by decide +kernel)
theorem wl_7_198 : (.code yX12_hasLine cX12_hasLine 2 (some .boolean) : Cond) ∈ sg_tbl := tb_7 _ (List.mem_of_getElem? (i := 198) (by decide +kernel)) (by decide +kernel)
theorem wl_7_197 : (.static yX12_hasLine : Cond) ∈ sg_tbl := tb_7 _ (List.mem_of_getElem? (i := 197) (by decide +kernel)) (by decide +kernel)
theorem wl_8_62 : (.code yX12_around cX12_around 6 (some .int) : Cond) ∈ sg_tbl := tb_8 _ (List.mem_of_getElem? (i := 62) (by decide +kernel)) (by decide +kernel)
theorem wl_8_61 : (.instanceMethod yX12_around : Cond) ∈ sg_tbl := tb_8 _ (List.mem_of_getElem? (i := 61) (by decide +kernel)) (by decide +kernel)
theorem wl_0_73 : (.selects RX12 yX12_around yX12_around : Cond) ∈ sg_tbl := tb_0 _ (List.mem_of_getElem? (i := 73) (by decide +kernel)) (by decide +kernel)
theorem wl_8_205 : (.code yX12_copy cX12_copy 4 none : Cond) ∈ sg_tbl := tb_8 _ (List.mem_of_getElem? (i := 205) (by decide +kernel)) (by decide +kernel)
theorem wl_8_204 : (.static yX12_copy : Cond) ∈ sg_tbl := tb_8 _ (List.mem_of_getElem? (i := 204) (by decide +kernel)) (by decide +kernel)
theorem wl_8_97 : (.code yX12_isOpen cX12_isOpen 2 (some .boolean) : Cond) ∈ sg_tbl := tb_8 _ (List.mem_of_getElem? (i := 97) (by decide +kernel)) (by decide +kernel)
theorem wl_8_96 : (.instanceMethod yX12_isOpen : Cond) ∈ sg_tbl := tb_8 _ (List.mem_of_getElem? (i := 96) (by decide +kernel)) (by decide +kernel)
theorem wl_0_77 : (.selects RX12 yX12_isOpen yX12_isOpen : Cond) ∈ sg_tbl := tb_0 _ (List.mem_of_getElem? (i := 77) (by decide +kernel)) (by decide +kernel)
theorem wl_9_111 : (.code yX12_turns cX12_turns 1 (some .int) : Cond) ∈ sg_tbl := tb_9 _ (List.mem_of_getElem? (i := 111) (by decide +kernel)) (by decide +kernel)
theorem wl_9_110 : (.instanceMethod yX12_turns : Cond) ∈ sg_tbl := tb_9 _ (List.mem_of_getElem? (i := 110) (by decide +kernel)) (by decide +kernel)
theorem wl_0_110 : (.selects RX12 yX12_turns yX12_turns : Cond) ∈ sg_tbl := tb_0 _ (List.mem_of_getElem? (i := 110) (by decide +kernel)) (by decide +kernel)
section
variable {p : Program} {l : Launch} {e : Env} {R : Room} {s : State} {m : MethodId} {args : Array Value} {below : List Frame} {meth : Method} {c : Code} {H : Heap} {locs : List Loc} {cells slots : Nat} {Q : State → Prop} {cc : ByteArray} {nL pc : Nat} {ls : Array Slot} {rest : List Value} {own : String} {D : va_G} {A : Nat → Prop} {tys : List (ClassId × FieldType)} {ad ks : List Nat} {P : sgPm} {H0 : Heap} {index : Nat} {base : Nat} {st0 : List Value} {a : Nat}
theorem gf_X12_18   (X : CallFix p m c cc nL s args sg_tbl own) (hK : va_K D vwCl tys s) (hG : sgG (KT P) D vwCl A tys ad ks H) (ha : isK ad ks 12 a) (hl : Cond.fieldLink own index "LawnAheadModel" "rule" "[I" ∈ sg_tbl) (hdg : decode cc pc = .ok (.getfield index, 3)) (kk : ∀ x : Nat, isK ad ks 49 x → fld D H 12 a 18 (.ref x) → W p l e R s m args below meth c H locs cells slots Q (F0 m (pc + 3) ls (.ref x :: rest))) : W p l e R s m args below meth c H locs cells slots Q (F0 m pc ls (.ref a :: rest)) :=
  sg_get X hK hG ha (k := 12) (ci := 12) rfl (C := RX12) (T := TX12) (N := 53) rfl inL_X12 18 (by decide) rfl hl (fun _ h => h) hdg (fun v hv hf => by
    obtain ⟨h1, -⟩ | ⟨x, rfl, hx⟩ := hv
    · cases h1
    · exact kk x hx hf)
theorem gf_X12_23s   (X : CallFix p m c cc nL s args sg_tbl own) (hK : va_K D vwCl tys s) (hG : sgG (KT P) D vwCl A tys ad ks H) (ha : isK ad ks 12 a) (hp : P.2.2.2.2.1 = true) (hl : Cond.fieldLink own index "LawnAheadModel" "cells" "I" ∈ sg_tbl) (hdg : decode cc pc = .ok (.getfield index, 3)) (kk : ∀ x : Int32, iv 1 30 x → fld D H 12 a 23 (.int x) → W p l e R s m args below meth c H locs cells slots Q (F0 m (pc + 3) ls (.int x :: rest))) : W p l e R s m args below meth c H locs cells slots Q (F0 m pc ls (.ref a :: rest)) :=
  sg_get X hK hG ha (k := 12) (ci := 12) rfl (C := RX12) (T := TX12) (N := 53) rfl inL_X12 23 (by decide) rfl hl (fun _ h => h) hdg (fun v hv hf => by
    obtain ⟨x, rfl, hx⟩ := hv
    exact kk x (sgC1_iv hp hx) hf)
theorem gg_X12_18   (X : CallFix p m c cc nL s args sg_tbl own) (hK : va_K D vwCl tys s) (hG : sgG (KT P) D vwCl A tys ad ks H) (ha : isK ad ks 12 a) (hl : Cond.fieldLink own index "LawnAheadModel" "rule" "[I" ∈ sg_tbl) {v : Value} (hf : fld D H 12 a 18 v) (hdg : decode cc pc = .ok (.getfield index, 3)) (kk : W p l e R s m args below meth c H locs cells slots Q (F0 m (pc + 3) ls (v :: rest))) : W p l e R s m args below meth c H locs cells slots Q (F0 m pc ls (.ref a :: rest)) :=
  sg_getf X hK hG ha (k := 12) (ci := 12) rfl (C := RX12) (T := TX12) (N := 53) rfl inL_X12 18 (by decide) (show 18 < 53 by decide) hl (fun _ h => h) hf hdg kk
theorem al_49  {i : Int32}  (X : CallFix p m c cc nL s args sg_tbl own) (hK : va_K D vwCl tys s) (hG : sgG (KT P) D vwCl A tys ad ks H) (ha : isK ad ks 49 a) (hin : vp_in i 7) (hdg : decode cc pc = .ok (.iaload, 1)) (kk : ∀ x : Int32, okV ad ks ((sg_ru P.2.2.2.2.1 (sgRw P) : Nat → sgT) i.toNatClampNeg) (.int x) → W p l e R s m args below meth c H locs cells slots Q (F0 m (pc + 1) ls (.int x :: rest))) : W p l e R s m args below meth c H locs cells slots Q (F0 m pc ls (.int i :: .ref a :: rest)) :=
  sg_iald X hK hG ha (k := 49) rfl hin hdg kk
theorem al_54  {i : Int32}  (X : CallFix p m c cc nL s args sg_tbl own) (hK : va_K D vwCl tys s) (hG : sgG (KT P) D vwCl A tys ad ks H) (ha : isK ad ks 54 a) (hin : vp_in i 249) (hdg : decode cc pc = .ok (.iaload, 1)) (kk : ∀ x : Int32, okV ad ks ((sg_nw (sgN P) (sgPin P) : Nat → sgT) i.toNatClampNeg) (.int x) → W p l e R s m args below meth c H locs cells slots Q (F0 m (pc + 1) ls (.int x :: rest))) : W p l e R s m args below meth c H locs cells slots Q (F0 m pc ls (.int i :: .ref a :: rest)) :=
  sg_iald X hK hG ha (k := 54) rfl hin hdg kk
theorem as_55  {i : Int32} {x : Int32}  (X : CallFix p m c cc nL s args sg_tbl own) (hK : va_K D vwCl tys s) (hG : sgG (KT P) D vwCl A tys ad ks H) (hS : va_S A H0 H locs) (ha : isK ad ks 55 a) (hin : vp_in i 249) (hv : okV ad ks ((sg_now (sgN P) : Nat → sgT) i.toNatClampNeg) (.int x)) (hdg : decode cc pc = .ok (.iastore, 1)) (kk : ∀ (H1 : Heap) (locs1 : List Loc), sgG (KT P) D vwCl A tys ad ks H1 → va_S A H0 H1 locs1 → sgFr (KT P) D vwCl ad ks H H1 (fun _ _ => False) → W p l e R s m args below meth c H1 locs1 cells slots Q (F0 m (pc + 1) ls rest)) : W p l e R s m args below meth c H locs cells slots Q (F0 m pc ls (.int x :: .int i :: .ref a :: rest)) :=
  sg_iast X hK hG hS ha (k := 55) rfl hin hv hdg kk
set_option maxHeartbeats 8000000 in
set_option maxRecDepth 100000 in
theorem m_X12_isIn (l : Launch) {D : va_G} {base : Nat} {tys : List (ClassId × FieldType)} {ad ks : List Nat} {P : sgPm} {Hx : Heap} (x0 : Int64) (x1 : Int64) (x2 : Int64) : sgPi l (KT P) D vwCl base tys ad ks Hx yX12_isIn cX12_isIn 6 (some .boolean) ({ frames := 0, cells := 0, slots := 0, locals := 0 }) [.long x0, .long x1, .long x2] (fun r : Int32 => iv 0 1 r ∧ (¬ r = 0 → x1.toInt ≤ x0.toInt ∧ x0.toInt ≤ x2.toInt)) := by
  refine sg_ofP (Pq := fun Hx => va_Qi (fun r (_ : Unit) => (fun r : Int32 => iv 0 1 r ∧ (¬ r = 0 → x1.toInt ≤ x0.toInt ∧ x0.toInt ≤ x2.toInt)) r) (fun _ t => t.heap = Hx) (fun _ : Nat => False)) (by decide +kernel) (Nat.le_of_ble_eq_true rfl) (fun p e s m below meth c X hr hlk hb hK hC hG ls hl => ?_)
  have hS : va_S (fun _ : Nat => False) s.heap s.heap [] := va_S.rf
  have hl : lv_has ls 6 [(0, .long x0), (2, .long x1), (4, .long x2)] := hl
  refine lv_lload_n X.1 X.2.1 dX12_isIn_0 rfl (lv_at hl 0 rfl) ?_
  refine lv_lload_n X.1 X.2.1 dX12_isIn_1 rfl (lv_at hl 1 rfl) ?_
  refine W.lcmp X.1 X.2.1 dX12_isIn_2 ?_
  refine lv_topi (fun f1 ef1 => ?_)
  have B3_17 : ∀ (locs : List Loc) (ls : Array Slot), va_S (fun _ : Nat => False) s.heap s.heap locs → lv_has ls 6 [] → W p l e (headSpec (Cond.code yX12_isIn cX12_isIn 6 (some .boolean) :: sg_tbl) ({ frames := 0, cells := 0, slots := 0, locals := 0 })).room s m #[.long x0, .long x1, .long x2] below meth c s.heap locs 0 0 (MQ below (va_Qi (fun r (_ : Unit) => (fun r : Int32 => iv 0 1 r ∧ (¬ r = 0 → x1.toInt ≤ x0.toInt ∧ x0.toInt ≤ x2.toInt)) r) (fun _ t => t.heap = s.heap) (fun _ : Nat => False)) #[.long x0, .long x1, .long x2] s 0 0 (fun _ : Nat => False)) (F0 m 17 ls []) := by
    intro locs ls hS hl
    refine lv_iconst (v := 0) X.1 X.2.1 dX12_isIn_17 (by decide +kernel) ?_
    exact sg_zretP X hr (sg_zn (iv_of (iv_c 0 (a := 0) (b := 0) (by decide +kernel)) (a' := 0) (b' := 1) (by decide +kernel))) hlk hS ⟨(iv_of (iv_c 0 (a := 0) (b := 0) (by decide +kernel)) (a' := 0) (b' := 1) (by decide +kernel)), fun h => absurd rfl h⟩ dX12_isIn_18
  refine lv_if_lt (tgt := 17) X.1 X.2.1 dX12_isIn_3 (by decide) (fun c2 => ?_) (fun c2 => ?_)
  · exact B3_17 _ _ hS (lv_sub hl [] rfl)
  · refine lv_lload_n X.1 X.2.1 dX12_isIn_6 rfl (lv_at hl 0 rfl) ?_
    refine lv_lload X.1 X.2.1 dX12_isIn_7 (lv_at hl 2 rfl) ?_
    refine W.lcmp X.1 X.2.1 dX12_isIn_9 ?_
    refine lv_topi (fun f4 ef4 => ?_)
    refine lv_if_gt (tgt := 17) X.1 X.2.1 dX12_isIn_10 (by decide) (fun c5 => ?_) (fun c5 => ?_)
    · exact B3_17 _ _ hS (lv_sub hl [] rfl)
    · refine lv_iconst (v := 1) X.1 X.2.1 dX12_isIn_13 (by decide +kernel) ?_
      refine lv_goto (tgt := 18) X.1 X.2.1 dX12_isIn_14 (by decide) ?_
      exact sg_zretP X hr (sg_zn (iv_of (iv_c 1 (a := 1) (b := 1) (by decide +kernel)) (a' := 0) (b' := 1) (by decide +kernel))) hlk hS ⟨(iv_of (iv_c 1 (a := 1) (b := 1) (by decide +kernel)) (a' := 0) (b' := 1) (by decide +kernel)), fun _ => ⟨sg_lge ef1 (iv_ge_of c2), sg_lle ef4 (iv_ge_of c5)⟩⟩ dX12_isIn_18

theorem ca_X12_isIn   (X : CallFix p m c cc nL s args sg_tbl own) (hK : va_K D vwCl tys s) (hG : sgG (KT P) D vwCl (fun q : Nat => base ≤ q) tys ad ks H) (hC : sgC base s) (hA : ∀ q : Nat, A q → base ≤ q) (hS : va_S A s.heap H locs) (hb : base ≤ s.heap.size) (x0 : Int64) (x1 : Int64) (x2 : Int64) (hl : Cond.methodLink own index yX12_isIn ∈ sg_tbl) (hsize : ls.size = nL) (hst : st0 = [.long x0, .long x1, .long x2].reverse ++ rest) (hW : (rest.map fun v => v.category).sum ≤ 8) (hR : 1 ≤ R.frames ∧ 25 ≤ R.locals) (hf : cells ≤ R.cells ∧ slots ≤ R.slots) (hdg : decode cc pc = .ok (.invokestatic index, 3)) (kk : ∀ (r : Int32) (locs1 : List Loc), (fun r : Int32 => iv 0 1 r ∧ (¬ r = 0 → x1.toInt ≤ x0.toInt ∧ x0.toInt ≤ x2.toInt)) r → va_S A s.heap H locs1 → W p l e R s m args below meth c H locs1 cells slots Q (F0 m (pc + 3) ls (.int r :: rest))) : W p l e R s m args below meth c H locs cells slots Q (F0 m pc ls st0) :=
  sg_callPSi X hK hG hC hA hS hb (m_X12_isIn l x0 x1 x2) wl_7_121 wl_1_13 wl_7_120 (n := 3) (by decide +kernel) rfl rfl rfl hl hsize hst hW hR hf hdg kk

set_option maxHeartbeats 8000000 in
set_option maxRecDepth 100000 in
theorem m_X12_has (l : Launch) {D : va_G} {base : Nat} {tys : List (ClassId × FieldType)} {ad ks : List Nat} {P : sgPm} {Hx : Heap} (x0 : Int32) (x1 : Int32) : sgPi l (KT P) D vwCl base tys ad ks Hx yX12_has cX12_has 2 (some .boolean) ({ frames := 0, cells := 0, slots := 0, locals := 0 }) [.int x0, .int x1] (fun r : Int32 => iv 0 1 r) := by
  refine sg_ofP (Pq := fun Hx => va_Qi (fun r (_ : Unit) => (fun r : Int32 => iv 0 1 r) r) (fun _ t => t.heap = Hx) (fun _ : Nat => False)) (by decide +kernel) (Nat.le_of_ble_eq_true rfl) (fun p e s m below meth c X hr hlk hb hK hC hG ls hl => ?_)
  have hS : va_S (fun _ : Nat => False) s.heap s.heap [] := va_S.rf
  have hl : lv_has ls 2 [(0, .int x0), (1, .int x1)] := hl
  refine lv_iload_n X.1 X.2.1 dX12_has_0 rfl (lv_at hl 0 rfl) ?_
  refine lv_iload_n X.1 X.2.1 dX12_has_1 rfl (lv_at hl 1 rfl) ?_
  refine lv_ishr X.1 X.2.1 dX12_has_2 ?_
  refine lv_topi (fun f1 ef1 => ?_)
  refine lv_iconst (v := 1) X.1 X.2.1 dX12_has_3 (by decide +kernel) ?_
  refine lv_iand X.1 X.2.1 dX12_has_4 ?_
  refine lv_topi (fun f2 ef2 => ?_)
  refine lv_iconst (v := 1) X.1 X.2.1 dX12_has_5 (by decide +kernel) ?_
  refine lv_icmp_ne (tgt := 13) X.1 X.2.1 dX12_has_6 (by decide) (fun c3 => ?_) (fun c3 => ?_)
  · refine lv_iconst (v := 0) X.1 X.2.1 dX12_has_13 (by decide +kernel) ?_
    exact sg_zretP X hr (sg_zn (iv_of (iv_c 0 (a := 0) (b := 0) (by decide +kernel)) (a' := 0) (b' := 1) (by decide +kernel))) hlk hS (iv_of (iv_c 0 (a := 0) (b := 0) (by decide +kernel)) (a' := 0) (b' := 1) (by decide +kernel)) dX12_has_14
  · refine lv_iconst (v := 1) X.1 X.2.1 dX12_has_9 (by decide +kernel) ?_
    refine lv_goto (tgt := 14) X.1 X.2.1 dX12_has_10 (by decide) ?_
    exact sg_zretP X hr (sg_zn (iv_of (iv_c 1 (a := 1) (b := 1) (by decide +kernel)) (a' := 0) (b' := 1) (by decide +kernel))) hlk hS (iv_of (iv_c 1 (a := 1) (b := 1) (by decide +kernel)) (a' := 0) (b' := 1) (by decide +kernel)) dX12_has_14

theorem ca_X12_has   (X : CallFix p m c cc nL s args sg_tbl own) (hK : va_K D vwCl tys s) (hG : sgG (KT P) D vwCl (fun q : Nat => base ≤ q) tys ad ks H) (hC : sgC base s) (hA : ∀ q : Nat, A q → base ≤ q) (hS : va_S A s.heap H locs) (hb : base ≤ s.heap.size) (x0 : Int32) (x1 : Int32) (hl : Cond.methodLink own index yX12_has ∈ sg_tbl) (hsize : ls.size = nL) (hst : st0 = [.int x0, .int x1].reverse ++ rest) (hW : (rest.map fun v => v.category).sum ≤ 8) (hR : 1 ≤ R.frames ∧ 21 ≤ R.locals) (hf : cells ≤ R.cells ∧ slots ≤ R.slots) (hdg : decode cc pc = .ok (.invokestatic index, 3)) (kk : ∀ (r : Int32) (locs1 : List Loc), (fun r : Int32 => iv 0 1 r) r → va_S A s.heap H locs1 → W p l e R s m args below meth c H locs1 cells slots Q (F0 m (pc + 3) ls (.int r :: rest))) : W p l e R s m args below meth c H locs cells slots Q (F0 m pc ls st0) :=
  sg_callPSi X hK hG hC hA hS hb (m_X12_has l x0 x1) wl_7_176 wl_1_13 wl_7_175 (n := 2) (by decide +kernel) rfl rfl rfl hl hsize hst hW hR hf hdg kk

set_option maxHeartbeats 8000000 in
set_option maxRecDepth 100000 in
theorem m_X12_isCell_1 (l : Launch) {D : va_G} {base : Nat} {tys : List (ClassId × FieldType)} {ad ks : List Nat} {P : sgPm} {Hx : Heap} (hp4 : P.2.2.2.2.1 = true) (a0 : Nat) (h0 : isK ad ks 12 a0) (x1 : Int32) : sgPi l (KT P) D vwCl base tys ad ks Hx yX12_isCell cX12_isCell 2 (some .boolean) ({ frames := 0, cells := 0, slots := 0, locals := 0 }) [.ref a0, .int x1] (fun r : Int32 => iv 0 1 r ∧ (¬ r = 0 → iv 0 29 x1)) := by
  refine sg_ofP (Pq := fun Hx => va_Qi (fun r (_ : Unit) => (fun r : Int32 => iv 0 1 r ∧ (¬ r = 0 → iv 0 29 x1)) r) (fun _ t => t.heap = Hx) (fun _ : Nat => False)) (by decide +kernel) (Nat.le_of_ble_eq_true rfl) (fun p e s m below meth c X hr hlk hb hK hC hG ls hl => ?_)
  have hS : va_S (fun _ : Nat => False) s.heap s.heap [] := va_S.rf
  have hl : lv_has ls 2 [(0, .ref a0), (1, .int x1)] := hl
  refine lv_iload_n X.1 X.2.1 dX12_isCell_0 rfl (lv_at hl 1 rfl) ?_
  have B2_16 : ∀ (locs : List Loc) (ls : Array Slot), va_S (fun _ : Nat => False) s.heap s.heap locs → lv_has ls 2 [] → W p l e (headSpec (Cond.code yX12_isCell cX12_isCell 2 (some .boolean) :: sg_tbl) ({ frames := 0, cells := 0, slots := 0, locals := 0 })).room s m #[.ref a0, .int x1] below meth c s.heap locs 0 0 (MQ below (va_Qi (fun r (_ : Unit) => (fun r : Int32 => iv 0 1 r ∧ (¬ r = 0 → iv 0 29 x1)) r) (fun _ t => t.heap = s.heap) (fun _ : Nat => False)) #[.ref a0, .int x1] s 0 0 (fun _ : Nat => False)) (F0 m 16 ls []) := by
    intro locs ls hS hl
    refine lv_iconst (v := 0) X.1 X.2.1 dX12_isCell_16 (by decide +kernel) ?_
    exact sg_zretP X hr (sg_zn (iv_of (iv_c 0 (a := 0) (b := 0) (by decide +kernel)) (a' := 0) (b' := 1) (by decide +kernel))) hlk hS ⟨(iv_of (iv_c 0 (a := 0) (b := 0) (by decide +kernel)) (a' := 0) (b' := 1) (by decide +kernel)), fun h => absurd rfl h⟩ dX12_isCell_17
  refine lv_if_lt (tgt := 16) X.1 X.2.1 dX12_isCell_1 (by decide) (fun c1 => ?_) (fun c1 => ?_)
  · exact B2_16 _ _ hS (lv_sub hl [] rfl)
  · refine lv_iload_n X.1 X.2.1 dX12_isCell_4 rfl (lv_at hl 1 rfl) ?_
    refine lv_aload_n X.1 X.2.1 dX12_isCell_5 rfl (lv_at hl 0 rfl) ?_
    refine gf_X12_23s X hK hG h0 hp4 wl_6_201 dX12_isCell_6 (fun f3 hf3 kf3 => ?_)
    refine lv_icmp_ge (tgt := 16) X.1 X.2.1 dX12_isCell_9 (by decide) (fun c4 => ?_) (fun c4 => ?_)
    · exact B2_16 _ _ hS (lv_sub hl [] rfl)
    · refine lv_iconst (v := 1) X.1 X.2.1 dX12_isCell_12 (by decide +kernel) ?_
      refine lv_goto (tgt := 17) X.1 X.2.1 dX12_isCell_13 (by decide) ?_
      exact sg_zretP X hr (sg_zn (iv_of (iv_c 1 (a := 1) (b := 1) (by decide +kernel)) (a' := 0) (b' := 1) (by decide +kernel))) hlk hS ⟨(iv_of (iv_c 1 (a := 1) (b := 1) (by decide +kernel)) (a' := 0) (b' := 1) (by decide +kernel)), fun h => (iv_lt (b' := 29) (iv_gt_of c4) (iv_ler (c' := 0) (iv_ge_of c1) (iv_c 0 (a := 0) (b := 0) (by decide +kernel)) (iv_top x1) (by decide +kernel)) hf3 (by decide +kernel))⟩ dX12_isCell_17

theorem ca_X12_isCell_1   (X : CallFix p m c cc nL s args sg_tbl own) (hK : va_K D vwCl tys s) (hG : sgG (KT P) D vwCl (fun q : Nat => base ≤ q) tys ad ks H) (hC : sgC base s) (hA : ∀ q : Nat, A q → base ≤ q) (hS : va_S A s.heap H locs) (hb : base ≤ s.heap.size) (hp4 : P.2.2.2.2.1 = true) (a0 : Nat) (h0 : isK ad ks 12 a0) (x1 : Int32) (hl : Cond.methodLink own index yX12_isCell ∈ sg_tbl) (hsize : ls.size = nL) (hst : st0 = [.int x1].reverse ++ .ref a0 :: rest) (hW : (rest.map fun v => v.category).sum ≤ 8) (hR : 1 ≤ R.frames ∧ 21 ≤ R.locals) (hf : cells ≤ R.cells ∧ slots ≤ R.slots) (hdg : decode cc pc = .ok (.invokevirtual index, 3)) (kk : ∀ (r : Int32) (locs1 : List Loc), (fun r : Int32 => iv 0 1 r ∧ (¬ r = 0 → iv 0 29 x1)) r → va_S A s.heap H locs1 → W p l e R s m args below meth c H locs1 cells slots Q (F0 m (pc + 3) ls (.int r :: rest))) : W p l e R s m args below meth c H locs cells slots Q (F0 m pc ls st0) :=
  sg_callPVi X hK hG hC hA hS hb (m_X12_isCell_1 l hp4 a0 h0 x1) h0 (k := 12) (ci := 12) rfl (C := RX12) (T := TX12) (N := 53) rfl wl_8_58 wl_1_13 wl_8_57 wl_0_72 (n := 1) (by decide +kernel) rfl rfl rfl hl hsize hst hW hR hf hdg kk

set_option maxHeartbeats 8000000 in
set_option maxRecDepth 100000 in
theorem m_X12_rowFrom_0 (l : Launch) {D : va_G} {base : Nat} {tys : List (ClassId × FieldType)} {ad ks : List Nat} {P : sgPm} {Hx : Heap} (hp4 : P.2.2.2.2.1 = true) (x0 : Int32) (x1 : Int32) (h1 : iv 0 29 x1) (x2 : Int32) (h2 : iv 0 0 x2) (a3 : Nat) (h3 : isK ad ks 49 a3) : sgPi l (KT P) D vwCl base tys ad ks Hx yX12_rowFrom cX12_rowFrom 9 (some .int) ({ frames := 1, cells := 0, slots := 0, locals := 21 }) [.int x0, .int x1, .int x2, .ref a3] (fun r : Int32 => True) := by
  refine sg_ofP (Pq := fun Hx => va_Qi (fun r (_ : Unit) => (fun r : Int32 => True) r) (fun _ t => t.heap = Hx) (fun _ : Nat => False)) (by decide +kernel) (Nat.le_of_ble_eq_true rfl) (fun p e s m below meth c X hr hlk hb hK hC hG ls hl => ?_)
  have hS : va_S (fun _ : Nat => False) s.heap s.heap [] := va_S.rf
  have hl : lv_has ls 9 [(0, .int x0), (1, .int x1), (2, .int x2), (3, .ref a3)] := hl
  refine lv_iload_n X.1 X.2.1 dX12_rowFrom_0 rfl (lv_at hl 1 rfl) ?_
  refine lv_aload_n X.1 X.2.1 dX12_rowFrom_1 rfl (lv_at hl 3 rfl) ?_
  refine lv_iconst (v := 0) X.1 X.2.1 dX12_rowFrom_2 (by decide +kernel) ?_
  refine al_49 X hK hG h3 (iv_vpin (iv_c 0 (a := 0) (b := 0) (by decide +kernel)) (by decide +kernel)) dX12_rowFrom_3 (fun f1 hf1 => ?_)
  have of1 := hf1
  have hf1 : iv 1 6 f1 := sg_r1 hp4 hf1 (iv_c 0 (a := 0) (b := 0) (by decide +kernel)) (by decide +kernel) rfl
  refine lv_irem X.1 X.2.1 dX12_rowFrom_4 (iv_ne0 hf1 (by decide +kernel)) ?_
  refine lv_topi (fun f2 ef2 => ?_)
  refine lv_istore (lv' := [(4, .int f2), (0, .int x0), (1, .int x1), (2, .int x2), (3, .ref a3)]) X.1 X.2.1 dX12_rowFrom_5 hl (by decide) rfl (fun ls hl => ?_)
  refine lv_iload_n X.1 X.2.1 dX12_rowFrom_7 rfl (lv_at hl 2 rfl) ?_
  refine lv_aload_n X.1 X.2.1 dX12_rowFrom_8 rfl (lv_at hl 4 rfl) ?_
  refine lv_iconst (v := 0) X.1 X.2.1 dX12_rowFrom_9 (by decide +kernel) ?_
  refine al_49 X hK hG h3 (iv_vpin (iv_c 0 (a := 0) (b := 0) (by decide +kernel)) (by decide +kernel)) dX12_rowFrom_10 (fun f3 hf3 => ?_)
  have of3 := hf3
  have hf3 : iv 1 6 f3 := sg_r1 hp4 hf3 (iv_c 0 (a := 0) (b := 0) (by decide +kernel)) (by decide +kernel) rfl
  refine lv_idiv X.1 X.2.1 dX12_rowFrom_11 (iv_ne0 hf3 (by decide +kernel)) ?_
  refine lv_topi (fun f4 ef4 => ?_)
  refine lv_istore (lv' := [(5, .int f4), (4, .int f2), (0, .int x0), (1, .int x1), (2, .int x2), (3, .ref a3)]) X.1 X.2.1 dX12_rowFrom_12 hl (by decide) rfl (fun ls hl => ?_)
  refine lv_iload_n X.1 X.2.1 dX12_rowFrom_14 rfl (lv_at hl 4 rfl) ?_
  have B6_37 : ∀ (locs : List Loc) (ls : Array Slot) (w6_0 : Int32), va_S (fun _ : Nat => False) s.heap s.heap locs → lv_has ls 9 [(0, .int x0), (2, .int x2), (3, .ref a3), (4, .int f2), (5, .int f4)] → iv 1 1 w6_0 → W p l e (headSpec (Cond.code yX12_rowFrom cX12_rowFrom 9 (some .int) :: sg_tbl) ({ frames := 1, cells := 0, slots := 0, locals := 21 })).room s m #[.int x0, .int x1, .int x2, .ref a3] below meth c s.heap locs 0 0 (MQ below (va_Qi (fun r (_ : Unit) => (fun r : Int32 => True) r) (fun _ t => t.heap = s.heap) (fun _ : Nat => False)) #[.int x0, .int x1, .int x2, .ref a3] s 0 0 (fun _ : Nat => False)) (F0 m 37 ls [.int w6_0]) := by
    intro locs ls w6_0 hS hl hw6_0
    refine lv_istore (lv' := [(6, .int w6_0), (0, .int x0), (2, .int x2), (3, .ref a3), (4, .int f2), (5, .int f4)]) X.1 X.2.1 dX12_rowFrom_37 hl (by decide) rfl (fun ls hl => ?_)
    refine lv_iload_n X.1 X.2.1 dX12_rowFrom_39 rfl (lv_at hl 2 rfl) ?_
    have B8_48 : ∀ (locs : List Loc) (ls : Array Slot) (w8_0 : Int32), va_S (fun _ : Nat => False) s.heap s.heap locs → lv_has ls 9 [(0, .int x0), (3, .ref a3), (4, .int f2), (5, .int f4), (6, .int w6_0)] → iv 0 0 w8_0 → W p l e (headSpec (Cond.code yX12_rowFrom cX12_rowFrom 9 (some .int) :: sg_tbl) ({ frames := 1, cells := 0, slots := 0, locals := 21 })).room s m #[.int x0, .int x1, .int x2, .ref a3] below meth c s.heap locs 0 0 (MQ below (va_Qi (fun r (_ : Unit) => (fun r : Int32 => True) r) (fun _ t => t.heap = s.heap) (fun _ : Nat => False)) #[.int x0, .int x1, .int x2, .ref a3] s 0 0 (fun _ : Nat => False)) (F0 m 48 ls [.int w8_0]) := by
      intro locs ls w8_0 hS hl hw8_0
      refine lv_istore (lv' := [(7, .int w8_0), (0, .int x0), (3, .ref a3), (4, .int f2), (5, .int f4), (6, .int w6_0)]) X.1 X.2.1 dX12_rowFrom_48 hl (by decide) rfl (fun ls hl => ?_)
      refine lv_iconst (v := 0) X.1 X.2.1 dX12_rowFrom_50 (by decide +kernel) ?_
      refine lv_istore (lv' := [(8, .int 0), (7, .int w8_0), (0, .int x0), (3, .ref a3), (4, .int f2), (5, .int f4), (6, .int w6_0)]) X.1 X.2.1 dX12_rowFrom_51 hl (by decide) rfl (fun ls hl => ?_)
      have B9_53 : ∀ (N : Nat) (locs : List Loc) (ls : Array Slot) (z9_4 : Int32) (z9_5 : Int32) (z9_8 : Int32), va_S (fun _ : Nat => False) s.heap s.heap locs → lv_has ls 9 [(0, .int x0), (3, .ref a3), (4, .int z9_4), (5, .int z9_5), (6, .int w6_0), (7, .int w8_0), (8, .int z9_8)] → iv 0 6 z9_4 → iv 0 29 z9_5 → (7 - z9_4.toInt).toNat ≤ N → W p l e (headSpec (Cond.code yX12_rowFrom cX12_rowFrom 9 (some .int) :: sg_tbl) ({ frames := 1, cells := 0, slots := 0, locals := 21 })).room s m #[.int x0, .int x1, .int x2, .ref a3] below meth c s.heap locs 0 0 (MQ below (va_Qi (fun r (_ : Unit) => (fun r : Int32 => True) r) (fun _ t => t.heap = s.heap) (fun _ : Nat => False)) #[.int x0, .int x1, .int x2, .ref a3] s 0 0 (fun _ : Nat => False)) (F0 m 53 ls []) := by
        intro N; induction N with
        | zero =>
          intro locs ls z9_4 z9_5 z9_8 hS hl hz9_4 hz9_5 hN
          exact absurd hN (by have := iv_up hz9_4; omega)
        | succ N ih9 =>
          intro locs ls z9_4 z9_5 z9_8 hS hl hz9_4 hz9_5 hN9
          refine lv_iload X.1 X.2.1 dX12_rowFrom_53 (lv_at hl 2 rfl) ?_
          refine lv_if_lt (tgt := 110) X.1 X.2.1 dX12_rowFrom_55 (by decide) (fun c10 => ?_) (fun c10 => ?_)
          · exact ((iv_no (iv_lt (b' := (-1)) c10 hz9_4 (iv_c 0 (a := 0) (b := 0) (by decide +kernel)) (by decide +kernel)) (by decide +kernel))).elim
          · refine lv_iload X.1 X.2.1 dX12_rowFrom_58 (lv_at hl 2 rfl) ?_
            refine lv_aload_n X.1 X.2.1 dX12_rowFrom_60 rfl (lv_at hl 1 rfl) ?_
            refine lv_iconst (v := 0) X.1 X.2.1 dX12_rowFrom_61 (by decide +kernel) ?_
            refine al_49 X hK hG h3 (iv_vpin (iv_c 0 (a := 0) (b := 0) (by decide +kernel)) (by decide +kernel)) dX12_rowFrom_62 (fun f11 hf11 => ?_)
            have of11 := hf11
            have hf11 : iv 1 6 f11 := sg_r1 hp4 hf11 (iv_c 0 (a := 0) (b := 0) (by decide +kernel)) (by decide +kernel) rfl
            refine lv_icmp_ge (tgt := 110) X.1 X.2.1 dX12_rowFrom_63 (by decide) (fun c12 => ?_) (fun c12 => ?_)
            · refine lv_iload X.1 X.2.1 dX12_rowFrom_110 (lv_at hl 6 rfl) ?_
              exact sg_iretP X hr hlk hS trivial dX12_rowFrom_112
            · refine lv_iload X.1 X.2.1 dX12_rowFrom_66 (lv_at hl 3 rfl) ?_
              refine lv_aload_n X.1 X.2.1 dX12_rowFrom_68 rfl (lv_at hl 1 rfl) ?_
              refine lv_iconst (v := 1) X.1 X.2.1 dX12_rowFrom_69 (by decide +kernel) ?_
              refine al_49 X hK hG h3 (iv_vpin (iv_c 1 (a := 1) (b := 1) (by decide +kernel)) (by decide +kernel)) dX12_rowFrom_70 (fun f13 hf13 => ?_)
              have of13 := hf13
              have hf13 : iv 1 5 f13 := sg_r1 hp4 hf13 (iv_c 1 (a := 1) (b := 1) (by decide +kernel)) (by decide +kernel) rfl
              refine lv_icmp_ge (tgt := 110) X.1 X.2.1 dX12_rowFrom_71 (by decide) (fun c14 => ?_) (fun c14 => ?_)
              · refine lv_iload X.1 X.2.1 dX12_rowFrom_110 (lv_at hl 6 rfl) ?_
                exact sg_iretP X hr hlk hS trivial dX12_rowFrom_112
              · refine lv_iload_n X.1 X.2.1 dX12_rowFrom_74 rfl (lv_at hl 0 rfl) ?_
                refine lv_iload X.1 X.2.1 dX12_rowFrom_75 (lv_at hl 3 rfl) ?_
                refine lv_aload_n X.1 X.2.1 dX12_rowFrom_77 rfl (lv_at hl 1 rfl) ?_
                refine lv_iconst (v := 0) X.1 X.2.1 dX12_rowFrom_78 (by decide +kernel) ?_
                refine al_49 X hK hG h3 (iv_vpin (iv_c 0 (a := 0) (b := 0) (by decide +kernel)) (by decide +kernel)) dX12_rowFrom_79 (fun f15 hf15 => ?_)
                have of15 := hf15
                have hf15 : iv 1 6 f15 := sg_r1 hp4 hf15 (iv_c 0 (a := 0) (b := 0) (by decide +kernel)) (by decide +kernel) rfl
                refine lv_imul X.1 X.2.1 dX12_rowFrom_80 ?_
                refine lv_topi (fun f16 ef16 => ?_)
                refine lv_iload X.1 X.2.1 dX12_rowFrom_81 (lv_at hl 2 rfl) ?_
                refine lv_iadd X.1 X.2.1 dX12_rowFrom_83 ?_
                refine lv_topi (fun f17 ef17 => ?_)
                refine ca_X12_has X hK hG hC (fun _ h => h.elim) hS hb x0 f17 wl_7_174 hl.1 (rest := []) rfl (Nat.le_of_ble_eq_true rfl) ⟨Nat.le_of_ble_eq_true rfl, Nat.le_of_ble_eq_true rfl⟩ ⟨Nat.le_of_ble_eq_true rfl, Nat.le_of_ble_eq_true rfl⟩ dX12_rowFrom_84 (fun f18 locs hf18 hS => ?_)
                refine lv_if_eq (tgt := 110) X.1 X.2.1 dX12_rowFrom_87 (by decide) (fun c19 => ?_) (fun c19 => ?_)
                · refine lv_iload X.1 X.2.1 dX12_rowFrom_110 (lv_at hl 6 rfl) ?_
                  exact sg_iretP X hr hlk hS trivial dX12_rowFrom_112
                · obtain ⟨y20, ey20⟩ : ∃ y : Int32, y = z9_8 + Int32.ofInt 1 := ⟨_, rfl⟩
                  refine lv_iinc (v := y20) (lv' := [(8, .int y20), (0, .int x0), (3, .ref a3), (4, .int z9_4), (5, .int z9_5), (6, .int w6_0), (7, .int w8_0)]) X.1 X.2.1 dX12_rowFrom_90 hl (k := 6) rfl ey20.symm (by decide) rfl (fun ls hl => ?_)
                  refine lv_iload X.1 X.2.1 dX12_rowFrom_93 (lv_at hl 3 rfl) ?_
                  refine lv_iload X.1 X.2.1 dX12_rowFrom_95 (lv_at hl 5 rfl) ?_
                  refine lv_iadd X.1 X.2.1 dX12_rowFrom_97 ?_
                  refine lv_topi (fun f21 ef21 => ?_)
                  refine lv_istore (lv' := [(4, .int f21), (8, .int y20), (0, .int x0), (3, .ref a3), (5, .int z9_5), (6, .int w6_0), (7, .int w8_0)]) X.1 X.2.1 dX12_rowFrom_98 hl (by decide) rfl (fun ls hl => ?_)
                  refine lv_iload X.1 X.2.1 dX12_rowFrom_100 (lv_at hl 4 rfl) ?_
                  refine lv_iload X.1 X.2.1 dX12_rowFrom_102 (lv_at hl 6 rfl) ?_
                  refine lv_iadd X.1 X.2.1 dX12_rowFrom_104 ?_
                  refine lv_topi (fun f22 ef22 => ?_)
                  refine lv_istore (lv' := [(5, .int f22), (4, .int f21), (8, .int y20), (0, .int x0), (3, .ref a3), (6, .int w6_0), (7, .int w8_0)]) X.1 X.2.1 dX12_rowFrom_105 hl (by decide) rfl (fun ls hl => ?_)
                  refine lv_goto (tgt := 53) X.1 X.2.1 dX12_rowFrom_107 (by decide) ?_
                  exact ih9 _ _ f21 f22 y20 hS (lv_sub hl [3, 4, 1, 0, 5, 6, 2] rfl) (iv_of (iv_add (a' := 1) (b' := 6) ef21 (iv_lt (b' := 5) (iv_gt_of c12) hz9_4 hf11 (by decide +kernel)) hw6_0 (by decide +kernel)) (a' := 0) (b' := 6) (by decide +kernel)) (iv_of (iv_add (a' := 0) (b' := 4) ef22 (iv_lt (b' := 4) (iv_gt_of c14) hz9_5 hf13 (by decide +kernel)) hw8_0 (by decide +kernel)) (a' := 0) (b' := 29) (by decide +kernel)) (iv_stepUv ef21 hw6_0 (iv_lt (b' := 5) (iv_gt_of c12) hz9_4 hf11 (by decide +kernel)) (by decide +kernel) hN9)
      exact B9_53 _ _ _ f2 f4 0 hS (lv_sub hl [2, 3, 4, 5, 6, 1, 0] rfl) (iv_of (iv_rem (a' := 0) (b' := 5) ef2 h1 hf1 (by decide +kernel)) (a' := 0) (b' := 6) (by decide +kernel)) (iv_div (a' := 0) (b' := 29) ef4 h1 hf3 (by decide +kernel)) (Nat.le_refl _)
    refine lv_if_ne (tgt := 47) X.1 X.2.1 dX12_rowFrom_40 (by decide) (fun c7 => ?_) (fun c7 => ?_)
    · exact ((c7 (iv_one h2 (iv_c 0 (a := 0) (b := 0) (by decide +kernel)) (by decide +kernel)))).elim
    · refine lv_iconst (v := 0) X.1 X.2.1 dX12_rowFrom_43 (by decide +kernel) ?_
      refine lv_goto (tgt := 48) X.1 X.2.1 dX12_rowFrom_44 (by decide) ?_
      exact B8_48 _ _ 0 hS (lv_sub hl [1, 3, 4, 5, 0] rfl) (iv_c 0 (a := 0) (b := 0) (by decide +kernel))
  have B23_23 : ∀ (locs : List Loc) (ls : Array Slot), va_S (fun _ : Nat => False) s.heap s.heap locs → lv_has ls 9 [(0, .int x0), (2, .int x2), (3, .ref a3), (4, .int f2), (5, .int f4)] → W p l e (headSpec (Cond.code yX12_rowFrom cX12_rowFrom 9 (some .int) :: sg_tbl) ({ frames := 1, cells := 0, slots := 0, locals := 21 })).room s m #[.int x0, .int x1, .int x2, .ref a3] below meth c s.heap locs 0 0 (MQ below (va_Qi (fun r (_ : Unit) => (fun r : Int32 => True) r) (fun _ t => t.heap = s.heap) (fun _ : Nat => False)) #[.int x0, .int x1, .int x2, .ref a3] s 0 0 (fun _ : Nat => False)) (F0 m 23 ls []) := by
    intro locs ls hS hl
    refine lv_iconst (v := 1) X.1 X.2.1 dX12_rowFrom_23 (by decide +kernel) ?_
    refine lv_goto (tgt := 37) X.1 X.2.1 dX12_rowFrom_24 (by decide) ?_
    exact B6_37 _ _ 1 hS (lv_sub hl [0, 1, 2, 3, 4] rfl) (iv_c 1 (a := 1) (b := 1) (by decide +kernel))
  refine lv_if_eq (tgt := 23) X.1 X.2.1 dX12_rowFrom_15 (by decide) (fun c5 => ?_) (fun c5 => ?_)
  · exact B23_23 _ _ hS (lv_sub hl [2, 4, 5, 1, 0] rfl)
  · exact ((c5 (iv_one h2 (iv_c 0 (a := 0) (b := 0) (by decide +kernel)) (by decide +kernel)))).elim

theorem ca_X12_rowFrom_0   (X : CallFix p m c cc nL s args sg_tbl own) (hK : va_K D vwCl tys s) (hG : sgG (KT P) D vwCl (fun q : Nat => base ≤ q) tys ad ks H) (hC : sgC base s) (hA : ∀ q : Nat, A q → base ≤ q) (hS : va_S A s.heap H locs) (hb : base ≤ s.heap.size) (hp4 : P.2.2.2.2.1 = true) (x0 : Int32) (x1 : Int32) (h1 : iv 0 29 x1) (x2 : Int32) (h2 : iv 0 0 x2) (a3 : Nat) (h3 : isK ad ks 49 a3) (hl : Cond.methodLink own index yX12_rowFrom ∈ sg_tbl) (hsize : ls.size = nL) (hst : st0 = [.int x0, .int x1, .int x2, .ref a3].reverse ++ rest) (hW : (rest.map fun v => v.category).sum ≤ 8) (hR : 2 ≤ R.frames ∧ 49 ≤ R.locals) (hf : cells ≤ R.cells ∧ slots ≤ R.slots) (hdg : decode cc pc = .ok (.invokestatic index, 3)) (kk : ∀ (r : Int32) (locs1 : List Loc), (fun r : Int32 => True) r → va_S A s.heap H locs1 → W p l e R s m args below meth c H locs1 cells slots Q (F0 m (pc + 3) ls (.int r :: rest))) : W p l e R s m args below meth c H locs cells slots Q (F0 m pc ls st0) :=
  sg_callPSi X hK hG hC hA hS hb (m_X12_rowFrom_0 l hp4 x0 x1 h1 x2 h2 a3 h3) wl_7_204 wl_1_13 wl_7_203 (n := 4) (by decide +kernel) rfl rfl rfl hl hsize hst hW hR hf hdg kk

set_option maxHeartbeats 8000000 in
set_option maxRecDepth 100000 in
theorem m_X12_rowFrom_1 (l : Launch) {D : va_G} {base : Nat} {tys : List (ClassId × FieldType)} {ad ks : List Nat} {P : sgPm} {Hx : Heap} (hp4 : P.2.2.2.2.1 = true) (x0 : Int32) (x1 : Int32) (h1 : iv 0 29 x1) (x2 : Int32) (h2 : iv 1 1 x2) (a3 : Nat) (h3 : isK ad ks 49 a3) : sgPi l (KT P) D vwCl base tys ad ks Hx yX12_rowFrom cX12_rowFrom 9 (some .int) ({ frames := 1, cells := 0, slots := 0, locals := 21 }) [.int x0, .int x1, .int x2, .ref a3] (fun r : Int32 => True) := by
  refine sg_ofP (Pq := fun Hx => va_Qi (fun r (_ : Unit) => (fun r : Int32 => True) r) (fun _ t => t.heap = Hx) (fun _ : Nat => False)) (by decide +kernel) (Nat.le_of_ble_eq_true rfl) (fun p e s m below meth c X hr hlk hb hK hC hG ls hl => ?_)
  have hS : va_S (fun _ : Nat => False) s.heap s.heap [] := va_S.rf
  have hl : lv_has ls 9 [(0, .int x0), (1, .int x1), (2, .int x2), (3, .ref a3)] := hl
  refine lv_iload_n X.1 X.2.1 dX12_rowFrom_0 rfl (lv_at hl 1 rfl) ?_
  refine lv_aload_n X.1 X.2.1 dX12_rowFrom_1 rfl (lv_at hl 3 rfl) ?_
  refine lv_iconst (v := 0) X.1 X.2.1 dX12_rowFrom_2 (by decide +kernel) ?_
  refine al_49 X hK hG h3 (iv_vpin (iv_c 0 (a := 0) (b := 0) (by decide +kernel)) (by decide +kernel)) dX12_rowFrom_3 (fun f1 hf1 => ?_)
  have of1 := hf1
  have hf1 : iv 1 6 f1 := sg_r1 hp4 hf1 (iv_c 0 (a := 0) (b := 0) (by decide +kernel)) (by decide +kernel) rfl
  refine lv_irem X.1 X.2.1 dX12_rowFrom_4 (iv_ne0 hf1 (by decide +kernel)) ?_
  refine lv_topi (fun f2 ef2 => ?_)
  refine lv_istore (lv' := [(4, .int f2), (0, .int x0), (1, .int x1), (2, .int x2), (3, .ref a3)]) X.1 X.2.1 dX12_rowFrom_5 hl (by decide) rfl (fun ls hl => ?_)
  refine lv_iload_n X.1 X.2.1 dX12_rowFrom_7 rfl (lv_at hl 2 rfl) ?_
  refine lv_aload_n X.1 X.2.1 dX12_rowFrom_8 rfl (lv_at hl 4 rfl) ?_
  refine lv_iconst (v := 0) X.1 X.2.1 dX12_rowFrom_9 (by decide +kernel) ?_
  refine al_49 X hK hG h3 (iv_vpin (iv_c 0 (a := 0) (b := 0) (by decide +kernel)) (by decide +kernel)) dX12_rowFrom_10 (fun f3 hf3 => ?_)
  have of3 := hf3
  have hf3 : iv 1 6 f3 := sg_r1 hp4 hf3 (iv_c 0 (a := 0) (b := 0) (by decide +kernel)) (by decide +kernel) rfl
  refine lv_idiv X.1 X.2.1 dX12_rowFrom_11 (iv_ne0 hf3 (by decide +kernel)) ?_
  refine lv_topi (fun f4 ef4 => ?_)
  refine lv_istore (lv' := [(5, .int f4), (4, .int f2), (0, .int x0), (1, .int x1), (2, .int x2), (3, .ref a3)]) X.1 X.2.1 dX12_rowFrom_12 hl (by decide) rfl (fun ls hl => ?_)
  refine lv_iload_n X.1 X.2.1 dX12_rowFrom_14 rfl (lv_at hl 4 rfl) ?_
  have B6_37 : ∀ (locs : List Loc) (ls : Array Slot) (w6_0 : Int32), va_S (fun _ : Nat => False) s.heap s.heap locs → lv_has ls 9 [(0, .int x0), (2, .int x2), (3, .ref a3), (4, .int f2), (5, .int f4)] → iv 0 0 w6_0 → W p l e (headSpec (Cond.code yX12_rowFrom cX12_rowFrom 9 (some .int) :: sg_tbl) ({ frames := 1, cells := 0, slots := 0, locals := 21 })).room s m #[.int x0, .int x1, .int x2, .ref a3] below meth c s.heap locs 0 0 (MQ below (va_Qi (fun r (_ : Unit) => (fun r : Int32 => True) r) (fun _ t => t.heap = s.heap) (fun _ : Nat => False)) #[.int x0, .int x1, .int x2, .ref a3] s 0 0 (fun _ : Nat => False)) (F0 m 37 ls [.int w6_0]) := by
    intro locs ls w6_0 hS hl hw6_0
    refine lv_istore (lv' := [(6, .int w6_0), (0, .int x0), (2, .int x2), (3, .ref a3), (4, .int f2), (5, .int f4)]) X.1 X.2.1 dX12_rowFrom_37 hl (by decide) rfl (fun ls hl => ?_)
    refine lv_iload_n X.1 X.2.1 dX12_rowFrom_39 rfl (lv_at hl 2 rfl) ?_
    have B8_48 : ∀ (locs : List Loc) (ls : Array Slot) (w8_0 : Int32), va_S (fun _ : Nat => False) s.heap s.heap locs → lv_has ls 9 [(0, .int x0), (3, .ref a3), (4, .int f2), (5, .int f4), (6, .int w6_0)] → iv 1 1 w8_0 → W p l e (headSpec (Cond.code yX12_rowFrom cX12_rowFrom 9 (some .int) :: sg_tbl) ({ frames := 1, cells := 0, slots := 0, locals := 21 })).room s m #[.int x0, .int x1, .int x2, .ref a3] below meth c s.heap locs 0 0 (MQ below (va_Qi (fun r (_ : Unit) => (fun r : Int32 => True) r) (fun _ t => t.heap = s.heap) (fun _ : Nat => False)) #[.int x0, .int x1, .int x2, .ref a3] s 0 0 (fun _ : Nat => False)) (F0 m 48 ls [.int w8_0]) := by
      intro locs ls w8_0 hS hl hw8_0
      refine lv_istore (lv' := [(7, .int w8_0), (0, .int x0), (3, .ref a3), (4, .int f2), (5, .int f4), (6, .int w6_0)]) X.1 X.2.1 dX12_rowFrom_48 hl (by decide) rfl (fun ls hl => ?_)
      refine lv_iconst (v := 0) X.1 X.2.1 dX12_rowFrom_50 (by decide +kernel) ?_
      refine lv_istore (lv' := [(8, .int 0), (7, .int w8_0), (0, .int x0), (3, .ref a3), (4, .int f2), (5, .int f4), (6, .int w6_0)]) X.1 X.2.1 dX12_rowFrom_51 hl (by decide) rfl (fun ls hl => ?_)
      have B9_53 : ∀ (N : Nat) (locs : List Loc) (ls : Array Slot) (z9_4 : Int32) (z9_5 : Int32) (z9_8 : Int32), va_S (fun _ : Nat => False) s.heap s.heap locs → lv_has ls 9 [(0, .int x0), (3, .ref a3), (4, .int z9_4), (5, .int z9_5), (6, .int w6_0), (7, .int w8_0), (8, .int z9_8)] → iv 0 5 z9_4 → iv 0 29 z9_5 → (30 - z9_5.toInt).toNat ≤ N → W p l e (headSpec (Cond.code yX12_rowFrom cX12_rowFrom 9 (some .int) :: sg_tbl) ({ frames := 1, cells := 0, slots := 0, locals := 21 })).room s m #[.int x0, .int x1, .int x2, .ref a3] below meth c s.heap locs 0 0 (MQ below (va_Qi (fun r (_ : Unit) => (fun r : Int32 => True) r) (fun _ t => t.heap = s.heap) (fun _ : Nat => False)) #[.int x0, .int x1, .int x2, .ref a3] s 0 0 (fun _ : Nat => False)) (F0 m 53 ls []) := by
        intro N; induction N with
        | zero =>
          intro locs ls z9_4 z9_5 z9_8 hS hl hz9_4 hz9_5 hN
          exact absurd hN (by have := iv_up hz9_5; omega)
        | succ N ih9 =>
          intro locs ls z9_4 z9_5 z9_8 hS hl hz9_4 hz9_5 hN9
          refine lv_iload X.1 X.2.1 dX12_rowFrom_53 (lv_at hl 2 rfl) ?_
          refine lv_if_lt (tgt := 110) X.1 X.2.1 dX12_rowFrom_55 (by decide) (fun c10 => ?_) (fun c10 => ?_)
          · exact ((iv_no (iv_lt (b' := (-1)) c10 hz9_4 (iv_c 0 (a := 0) (b := 0) (by decide +kernel)) (by decide +kernel)) (by decide +kernel))).elim
          · refine lv_iload X.1 X.2.1 dX12_rowFrom_58 (lv_at hl 2 rfl) ?_
            refine lv_aload_n X.1 X.2.1 dX12_rowFrom_60 rfl (lv_at hl 1 rfl) ?_
            refine lv_iconst (v := 0) X.1 X.2.1 dX12_rowFrom_61 (by decide +kernel) ?_
            refine al_49 X hK hG h3 (iv_vpin (iv_c 0 (a := 0) (b := 0) (by decide +kernel)) (by decide +kernel)) dX12_rowFrom_62 (fun f11 hf11 => ?_)
            have of11 := hf11
            have hf11 : iv 1 6 f11 := sg_r1 hp4 hf11 (iv_c 0 (a := 0) (b := 0) (by decide +kernel)) (by decide +kernel) rfl
            refine lv_icmp_ge (tgt := 110) X.1 X.2.1 dX12_rowFrom_63 (by decide) (fun c12 => ?_) (fun c12 => ?_)
            · refine lv_iload X.1 X.2.1 dX12_rowFrom_110 (lv_at hl 6 rfl) ?_
              exact sg_iretP X hr hlk hS trivial dX12_rowFrom_112
            · refine lv_iload X.1 X.2.1 dX12_rowFrom_66 (lv_at hl 3 rfl) ?_
              refine lv_aload_n X.1 X.2.1 dX12_rowFrom_68 rfl (lv_at hl 1 rfl) ?_
              refine lv_iconst (v := 1) X.1 X.2.1 dX12_rowFrom_69 (by decide +kernel) ?_
              refine al_49 X hK hG h3 (iv_vpin (iv_c 1 (a := 1) (b := 1) (by decide +kernel)) (by decide +kernel)) dX12_rowFrom_70 (fun f13 hf13 => ?_)
              have of13 := hf13
              have hf13 : iv 1 5 f13 := sg_r1 hp4 hf13 (iv_c 1 (a := 1) (b := 1) (by decide +kernel)) (by decide +kernel) rfl
              refine lv_icmp_ge (tgt := 110) X.1 X.2.1 dX12_rowFrom_71 (by decide) (fun c14 => ?_) (fun c14 => ?_)
              · refine lv_iload X.1 X.2.1 dX12_rowFrom_110 (lv_at hl 6 rfl) ?_
                exact sg_iretP X hr hlk hS trivial dX12_rowFrom_112
              · refine lv_iload_n X.1 X.2.1 dX12_rowFrom_74 rfl (lv_at hl 0 rfl) ?_
                refine lv_iload X.1 X.2.1 dX12_rowFrom_75 (lv_at hl 3 rfl) ?_
                refine lv_aload_n X.1 X.2.1 dX12_rowFrom_77 rfl (lv_at hl 1 rfl) ?_
                refine lv_iconst (v := 0) X.1 X.2.1 dX12_rowFrom_78 (by decide +kernel) ?_
                refine al_49 X hK hG h3 (iv_vpin (iv_c 0 (a := 0) (b := 0) (by decide +kernel)) (by decide +kernel)) dX12_rowFrom_79 (fun f15 hf15 => ?_)
                have of15 := hf15
                have hf15 : iv 1 6 f15 := sg_r1 hp4 hf15 (iv_c 0 (a := 0) (b := 0) (by decide +kernel)) (by decide +kernel) rfl
                refine lv_imul X.1 X.2.1 dX12_rowFrom_80 ?_
                refine lv_topi (fun f16 ef16 => ?_)
                refine lv_iload X.1 X.2.1 dX12_rowFrom_81 (lv_at hl 2 rfl) ?_
                refine lv_iadd X.1 X.2.1 dX12_rowFrom_83 ?_
                refine lv_topi (fun f17 ef17 => ?_)
                refine ca_X12_has X hK hG hC (fun _ h => h.elim) hS hb x0 f17 wl_7_174 hl.1 (rest := []) rfl (Nat.le_of_ble_eq_true rfl) ⟨Nat.le_of_ble_eq_true rfl, Nat.le_of_ble_eq_true rfl⟩ ⟨Nat.le_of_ble_eq_true rfl, Nat.le_of_ble_eq_true rfl⟩ dX12_rowFrom_84 (fun f18 locs hf18 hS => ?_)
                refine lv_if_eq (tgt := 110) X.1 X.2.1 dX12_rowFrom_87 (by decide) (fun c19 => ?_) (fun c19 => ?_)
                · refine lv_iload X.1 X.2.1 dX12_rowFrom_110 (lv_at hl 6 rfl) ?_
                  exact sg_iretP X hr hlk hS trivial dX12_rowFrom_112
                · obtain ⟨y20, ey20⟩ : ∃ y : Int32, y = z9_8 + Int32.ofInt 1 := ⟨_, rfl⟩
                  refine lv_iinc (v := y20) (lv' := [(8, .int y20), (0, .int x0), (3, .ref a3), (4, .int z9_4), (5, .int z9_5), (6, .int w6_0), (7, .int w8_0)]) X.1 X.2.1 dX12_rowFrom_90 hl (k := 6) rfl ey20.symm (by decide) rfl (fun ls hl => ?_)
                  refine lv_iload X.1 X.2.1 dX12_rowFrom_93 (lv_at hl 3 rfl) ?_
                  refine lv_iload X.1 X.2.1 dX12_rowFrom_95 (lv_at hl 5 rfl) ?_
                  refine lv_iadd X.1 X.2.1 dX12_rowFrom_97 ?_
                  refine lv_topi (fun f21 ef21 => ?_)
                  refine lv_istore (lv' := [(4, .int f21), (8, .int y20), (0, .int x0), (3, .ref a3), (5, .int z9_5), (6, .int w6_0), (7, .int w8_0)]) X.1 X.2.1 dX12_rowFrom_98 hl (by decide) rfl (fun ls hl => ?_)
                  refine lv_iload X.1 X.2.1 dX12_rowFrom_100 (lv_at hl 4 rfl) ?_
                  refine lv_iload X.1 X.2.1 dX12_rowFrom_102 (lv_at hl 6 rfl) ?_
                  refine lv_iadd X.1 X.2.1 dX12_rowFrom_104 ?_
                  refine lv_topi (fun f22 ef22 => ?_)
                  refine lv_istore (lv' := [(5, .int f22), (4, .int f21), (8, .int y20), (0, .int x0), (3, .ref a3), (6, .int w6_0), (7, .int w8_0)]) X.1 X.2.1 dX12_rowFrom_105 hl (by decide) rfl (fun ls hl => ?_)
                  refine lv_goto (tgt := 53) X.1 X.2.1 dX12_rowFrom_107 (by decide) ?_
                  exact ih9 _ _ f21 f22 y20 hS (lv_sub hl [3, 4, 1, 0, 5, 6, 2] rfl) (iv_add (a' := 0) (b' := 5) ef21 hz9_4 hw6_0 (by decide +kernel)) (iv_of (iv_add (a' := 1) (b' := 5) ef22 (iv_lt (b' := 4) (iv_gt_of c14) hz9_5 hf13 (by decide +kernel)) hw8_0 (by decide +kernel)) (a' := 0) (b' := 29) (by decide +kernel)) (iv_stepUv ef22 hw8_0 (iv_lt (b' := 4) (iv_gt_of c14) hz9_5 hf13 (by decide +kernel)) (by decide +kernel) hN9)
      exact B9_53 _ _ _ f2 f4 0 hS (lv_sub hl [2, 3, 4, 5, 6, 1, 0] rfl) (iv_rem (a' := 0) (b' := 5) ef2 h1 hf1 (by decide +kernel)) (iv_div (a' := 0) (b' := 29) ef4 h1 hf3 (by decide +kernel)) (Nat.le_refl _)
    refine lv_if_ne (tgt := 47) X.1 X.2.1 dX12_rowFrom_40 (by decide) (fun c7 => ?_) (fun c7 => ?_)
    · refine lv_iconst (v := 1) X.1 X.2.1 dX12_rowFrom_47 (by decide +kernel) ?_
      exact B8_48 _ _ 1 hS (lv_sub hl [1, 3, 4, 5, 0] rfl) (iv_c 1 (a := 1) (b := 1) (by decide +kernel))
    · exact ((iv_no (a := 1) (b := 0) (iv_eqm c7 h2 (iv_c 0 (a := 0) (b := 0) (by decide +kernel)) (by decide +kernel)) (by decide +kernel))).elim
  refine lv_if_eq (tgt := 23) X.1 X.2.1 dX12_rowFrom_15 (by decide) (fun c5 => ?_) (fun c5 => ?_)
  · exact ((iv_no (a := 1) (b := 0) (iv_eqm c5 h2 (iv_c 0 (a := 0) (b := 0) (by decide +kernel)) (by decide +kernel)) (by decide +kernel))).elim
  · refine lv_iload_n X.1 X.2.1 dX12_rowFrom_18 rfl (lv_at hl 4 rfl) ?_
    refine lv_iconst (v := 2) X.1 X.2.1 dX12_rowFrom_19 (by decide +kernel) ?_
    refine lv_icmp_ne (tgt := 27) X.1 X.2.1 dX12_rowFrom_20 (by decide) (fun c23 => ?_) (fun c23 => ?_)
    · refine lv_iload_n X.1 X.2.1 dX12_rowFrom_27 rfl (lv_at hl 4 rfl) ?_
      refine lv_iconst (v := 3) X.1 X.2.1 dX12_rowFrom_28 (by decide +kernel) ?_
      refine lv_icmp_ne (tgt := 36) X.1 X.2.1 dX12_rowFrom_29 (by decide) (fun c24 => ?_) (fun c24 => ?_)
      · refine lv_iconst (v := 0) X.1 X.2.1 dX12_rowFrom_36 (by decide +kernel) ?_
        exact B6_37 _ _ 0 hS (lv_sub hl [2, 4, 5, 1, 0] rfl) (iv_c 0 (a := 0) (b := 0) (by decide +kernel))
      · exact ((iv_no (a := 3) (b := 1) (iv_eqm c24 h2 (iv_c 3 (a := 3) (b := 3) (by decide +kernel)) (by decide +kernel)) (by decide +kernel))).elim
    · exact ((iv_no (a := 2) (b := 1) (iv_eqm c23 h2 (iv_c 2 (a := 2) (b := 2) (by decide +kernel)) (by decide +kernel)) (by decide +kernel))).elim

theorem ca_X12_rowFrom_1   (X : CallFix p m c cc nL s args sg_tbl own) (hK : va_K D vwCl tys s) (hG : sgG (KT P) D vwCl (fun q : Nat => base ≤ q) tys ad ks H) (hC : sgC base s) (hA : ∀ q : Nat, A q → base ≤ q) (hS : va_S A s.heap H locs) (hb : base ≤ s.heap.size) (hp4 : P.2.2.2.2.1 = true) (x0 : Int32) (x1 : Int32) (h1 : iv 0 29 x1) (x2 : Int32) (h2 : iv 1 1 x2) (a3 : Nat) (h3 : isK ad ks 49 a3) (hl : Cond.methodLink own index yX12_rowFrom ∈ sg_tbl) (hsize : ls.size = nL) (hst : st0 = [.int x0, .int x1, .int x2, .ref a3].reverse ++ rest) (hW : (rest.map fun v => v.category).sum ≤ 8) (hR : 2 ≤ R.frames ∧ 49 ≤ R.locals) (hf : cells ≤ R.cells ∧ slots ≤ R.slots) (hdg : decode cc pc = .ok (.invokestatic index, 3)) (kk : ∀ (r : Int32) (locs1 : List Loc), (fun r : Int32 => True) r → va_S A s.heap H locs1 → W p l e R s m args below meth c H locs1 cells slots Q (F0 m (pc + 3) ls (.int r :: rest))) : W p l e R s m args below meth c H locs cells slots Q (F0 m pc ls st0) :=
  sg_callPSi X hK hG hC hA hS hb (m_X12_rowFrom_1 l hp4 x0 x1 h1 x2 h2 a3 h3) wl_7_204 wl_1_13 wl_7_203 (n := 4) (by decide +kernel) rfl rfl rfl hl hsize hst hW hR hf hdg kk

set_option maxHeartbeats 8000000 in
set_option maxRecDepth 100000 in
theorem m_X12_rowFrom_2 (l : Launch) {D : va_G} {base : Nat} {tys : List (ClassId × FieldType)} {ad ks : List Nat} {P : sgPm} {Hx : Heap} (hp4 : P.2.2.2.2.1 = true) (x0 : Int32) (x1 : Int32) (h1 : iv 0 29 x1) (x2 : Int32) (h2 : iv 2 2 x2) (a3 : Nat) (h3 : isK ad ks 49 a3) : sgPi l (KT P) D vwCl base tys ad ks Hx yX12_rowFrom cX12_rowFrom 9 (some .int) ({ frames := 1, cells := 0, slots := 0, locals := 21 }) [.int x0, .int x1, .int x2, .ref a3] (fun r : Int32 => True) := by
  refine sg_ofP (Pq := fun Hx => va_Qi (fun r (_ : Unit) => (fun r : Int32 => True) r) (fun _ t => t.heap = Hx) (fun _ : Nat => False)) (by decide +kernel) (Nat.le_of_ble_eq_true rfl) (fun p e s m below meth c X hr hlk hb hK hC hG ls hl => ?_)
  have hS : va_S (fun _ : Nat => False) s.heap s.heap [] := va_S.rf
  have hl : lv_has ls 9 [(0, .int x0), (1, .int x1), (2, .int x2), (3, .ref a3)] := hl
  refine lv_iload_n X.1 X.2.1 dX12_rowFrom_0 rfl (lv_at hl 1 rfl) ?_
  refine lv_aload_n X.1 X.2.1 dX12_rowFrom_1 rfl (lv_at hl 3 rfl) ?_
  refine lv_iconst (v := 0) X.1 X.2.1 dX12_rowFrom_2 (by decide +kernel) ?_
  refine al_49 X hK hG h3 (iv_vpin (iv_c 0 (a := 0) (b := 0) (by decide +kernel)) (by decide +kernel)) dX12_rowFrom_3 (fun f1 hf1 => ?_)
  have of1 := hf1
  have hf1 : iv 1 6 f1 := sg_r1 hp4 hf1 (iv_c 0 (a := 0) (b := 0) (by decide +kernel)) (by decide +kernel) rfl
  refine lv_irem X.1 X.2.1 dX12_rowFrom_4 (iv_ne0 hf1 (by decide +kernel)) ?_
  refine lv_topi (fun f2 ef2 => ?_)
  refine lv_istore (lv' := [(4, .int f2), (0, .int x0), (1, .int x1), (2, .int x2), (3, .ref a3)]) X.1 X.2.1 dX12_rowFrom_5 hl (by decide) rfl (fun ls hl => ?_)
  refine lv_iload_n X.1 X.2.1 dX12_rowFrom_7 rfl (lv_at hl 2 rfl) ?_
  refine lv_aload_n X.1 X.2.1 dX12_rowFrom_8 rfl (lv_at hl 4 rfl) ?_
  refine lv_iconst (v := 0) X.1 X.2.1 dX12_rowFrom_9 (by decide +kernel) ?_
  refine al_49 X hK hG h3 (iv_vpin (iv_c 0 (a := 0) (b := 0) (by decide +kernel)) (by decide +kernel)) dX12_rowFrom_10 (fun f3 hf3 => ?_)
  have of3 := hf3
  have hf3 : iv 1 6 f3 := sg_r1 hp4 hf3 (iv_c 0 (a := 0) (b := 0) (by decide +kernel)) (by decide +kernel) rfl
  refine lv_idiv X.1 X.2.1 dX12_rowFrom_11 (iv_ne0 hf3 (by decide +kernel)) ?_
  refine lv_topi (fun f4 ef4 => ?_)
  refine lv_istore (lv' := [(5, .int f4), (4, .int f2), (0, .int x0), (1, .int x1), (2, .int x2), (3, .ref a3)]) X.1 X.2.1 dX12_rowFrom_12 hl (by decide) rfl (fun ls hl => ?_)
  refine lv_iload_n X.1 X.2.1 dX12_rowFrom_14 rfl (lv_at hl 4 rfl) ?_
  have B6_37 : ∀ (locs : List Loc) (ls : Array Slot) (w6_0 : Int32), va_S (fun _ : Nat => False) s.heap s.heap locs → lv_has ls 9 [(0, .int x0), (2, .int x2), (3, .ref a3), (4, .int f2), (5, .int f4)] → iv 1 1 w6_0 → W p l e (headSpec (Cond.code yX12_rowFrom cX12_rowFrom 9 (some .int) :: sg_tbl) ({ frames := 1, cells := 0, slots := 0, locals := 21 })).room s m #[.int x0, .int x1, .int x2, .ref a3] below meth c s.heap locs 0 0 (MQ below (va_Qi (fun r (_ : Unit) => (fun r : Int32 => True) r) (fun _ t => t.heap = s.heap) (fun _ : Nat => False)) #[.int x0, .int x1, .int x2, .ref a3] s 0 0 (fun _ : Nat => False)) (F0 m 37 ls [.int w6_0]) := by
    intro locs ls w6_0 hS hl hw6_0
    refine lv_istore (lv' := [(6, .int w6_0), (0, .int x0), (2, .int x2), (3, .ref a3), (4, .int f2), (5, .int f4)]) X.1 X.2.1 dX12_rowFrom_37 hl (by decide) rfl (fun ls hl => ?_)
    refine lv_iload_n X.1 X.2.1 dX12_rowFrom_39 rfl (lv_at hl 2 rfl) ?_
    have B8_48 : ∀ (locs : List Loc) (ls : Array Slot) (w8_0 : Int32), va_S (fun _ : Nat => False) s.heap s.heap locs → lv_has ls 9 [(0, .int x0), (3, .ref a3), (4, .int f2), (5, .int f4), (6, .int w6_0)] → iv 1 1 w8_0 → W p l e (headSpec (Cond.code yX12_rowFrom cX12_rowFrom 9 (some .int) :: sg_tbl) ({ frames := 1, cells := 0, slots := 0, locals := 21 })).room s m #[.int x0, .int x1, .int x2, .ref a3] below meth c s.heap locs 0 0 (MQ below (va_Qi (fun r (_ : Unit) => (fun r : Int32 => True) r) (fun _ t => t.heap = s.heap) (fun _ : Nat => False)) #[.int x0, .int x1, .int x2, .ref a3] s 0 0 (fun _ : Nat => False)) (F0 m 48 ls [.int w8_0]) := by
      intro locs ls w8_0 hS hl hw8_0
      refine lv_istore (lv' := [(7, .int w8_0), (0, .int x0), (3, .ref a3), (4, .int f2), (5, .int f4), (6, .int w6_0)]) X.1 X.2.1 dX12_rowFrom_48 hl (by decide) rfl (fun ls hl => ?_)
      refine lv_iconst (v := 0) X.1 X.2.1 dX12_rowFrom_50 (by decide +kernel) ?_
      refine lv_istore (lv' := [(8, .int 0), (7, .int w8_0), (0, .int x0), (3, .ref a3), (4, .int f2), (5, .int f4), (6, .int w6_0)]) X.1 X.2.1 dX12_rowFrom_51 hl (by decide) rfl (fun ls hl => ?_)
      have B9_53 : ∀ (N : Nat) (locs : List Loc) (ls : Array Slot) (z9_4 : Int32) (z9_5 : Int32) (z9_8 : Int32), va_S (fun _ : Nat => False) s.heap s.heap locs → lv_has ls 9 [(0, .int x0), (3, .ref a3), (4, .int z9_4), (5, .int z9_5), (6, .int w6_0), (7, .int w8_0), (8, .int z9_8)] → iv 0 6 z9_4 → iv 0 29 z9_5 → (7 - z9_4.toInt).toNat ≤ N → W p l e (headSpec (Cond.code yX12_rowFrom cX12_rowFrom 9 (some .int) :: sg_tbl) ({ frames := 1, cells := 0, slots := 0, locals := 21 })).room s m #[.int x0, .int x1, .int x2, .ref a3] below meth c s.heap locs 0 0 (MQ below (va_Qi (fun r (_ : Unit) => (fun r : Int32 => True) r) (fun _ t => t.heap = s.heap) (fun _ : Nat => False)) #[.int x0, .int x1, .int x2, .ref a3] s 0 0 (fun _ : Nat => False)) (F0 m 53 ls []) := by
        intro N; induction N with
        | zero =>
          intro locs ls z9_4 z9_5 z9_8 hS hl hz9_4 hz9_5 hN
          exact absurd hN (by have := iv_up hz9_4; omega)
        | succ N ih9 =>
          intro locs ls z9_4 z9_5 z9_8 hS hl hz9_4 hz9_5 hN9
          refine lv_iload X.1 X.2.1 dX12_rowFrom_53 (lv_at hl 2 rfl) ?_
          refine lv_if_lt (tgt := 110) X.1 X.2.1 dX12_rowFrom_55 (by decide) (fun c10 => ?_) (fun c10 => ?_)
          · exact ((iv_no (iv_lt (b' := (-1)) c10 hz9_4 (iv_c 0 (a := 0) (b := 0) (by decide +kernel)) (by decide +kernel)) (by decide +kernel))).elim
          · refine lv_iload X.1 X.2.1 dX12_rowFrom_58 (lv_at hl 2 rfl) ?_
            refine lv_aload_n X.1 X.2.1 dX12_rowFrom_60 rfl (lv_at hl 1 rfl) ?_
            refine lv_iconst (v := 0) X.1 X.2.1 dX12_rowFrom_61 (by decide +kernel) ?_
            refine al_49 X hK hG h3 (iv_vpin (iv_c 0 (a := 0) (b := 0) (by decide +kernel)) (by decide +kernel)) dX12_rowFrom_62 (fun f11 hf11 => ?_)
            have of11 := hf11
            have hf11 : iv 1 6 f11 := sg_r1 hp4 hf11 (iv_c 0 (a := 0) (b := 0) (by decide +kernel)) (by decide +kernel) rfl
            refine lv_icmp_ge (tgt := 110) X.1 X.2.1 dX12_rowFrom_63 (by decide) (fun c12 => ?_) (fun c12 => ?_)
            · refine lv_iload X.1 X.2.1 dX12_rowFrom_110 (lv_at hl 6 rfl) ?_
              exact sg_iretP X hr hlk hS trivial dX12_rowFrom_112
            · refine lv_iload X.1 X.2.1 dX12_rowFrom_66 (lv_at hl 3 rfl) ?_
              refine lv_aload_n X.1 X.2.1 dX12_rowFrom_68 rfl (lv_at hl 1 rfl) ?_
              refine lv_iconst (v := 1) X.1 X.2.1 dX12_rowFrom_69 (by decide +kernel) ?_
              refine al_49 X hK hG h3 (iv_vpin (iv_c 1 (a := 1) (b := 1) (by decide +kernel)) (by decide +kernel)) dX12_rowFrom_70 (fun f13 hf13 => ?_)
              have of13 := hf13
              have hf13 : iv 1 5 f13 := sg_r1 hp4 hf13 (iv_c 1 (a := 1) (b := 1) (by decide +kernel)) (by decide +kernel) rfl
              refine lv_icmp_ge (tgt := 110) X.1 X.2.1 dX12_rowFrom_71 (by decide) (fun c14 => ?_) (fun c14 => ?_)
              · refine lv_iload X.1 X.2.1 dX12_rowFrom_110 (lv_at hl 6 rfl) ?_
                exact sg_iretP X hr hlk hS trivial dX12_rowFrom_112
              · refine lv_iload_n X.1 X.2.1 dX12_rowFrom_74 rfl (lv_at hl 0 rfl) ?_
                refine lv_iload X.1 X.2.1 dX12_rowFrom_75 (lv_at hl 3 rfl) ?_
                refine lv_aload_n X.1 X.2.1 dX12_rowFrom_77 rfl (lv_at hl 1 rfl) ?_
                refine lv_iconst (v := 0) X.1 X.2.1 dX12_rowFrom_78 (by decide +kernel) ?_
                refine al_49 X hK hG h3 (iv_vpin (iv_c 0 (a := 0) (b := 0) (by decide +kernel)) (by decide +kernel)) dX12_rowFrom_79 (fun f15 hf15 => ?_)
                have of15 := hf15
                have hf15 : iv 1 6 f15 := sg_r1 hp4 hf15 (iv_c 0 (a := 0) (b := 0) (by decide +kernel)) (by decide +kernel) rfl
                refine lv_imul X.1 X.2.1 dX12_rowFrom_80 ?_
                refine lv_topi (fun f16 ef16 => ?_)
                refine lv_iload X.1 X.2.1 dX12_rowFrom_81 (lv_at hl 2 rfl) ?_
                refine lv_iadd X.1 X.2.1 dX12_rowFrom_83 ?_
                refine lv_topi (fun f17 ef17 => ?_)
                refine ca_X12_has X hK hG hC (fun _ h => h.elim) hS hb x0 f17 wl_7_174 hl.1 (rest := []) rfl (Nat.le_of_ble_eq_true rfl) ⟨Nat.le_of_ble_eq_true rfl, Nat.le_of_ble_eq_true rfl⟩ ⟨Nat.le_of_ble_eq_true rfl, Nat.le_of_ble_eq_true rfl⟩ dX12_rowFrom_84 (fun f18 locs hf18 hS => ?_)
                refine lv_if_eq (tgt := 110) X.1 X.2.1 dX12_rowFrom_87 (by decide) (fun c19 => ?_) (fun c19 => ?_)
                · refine lv_iload X.1 X.2.1 dX12_rowFrom_110 (lv_at hl 6 rfl) ?_
                  exact sg_iretP X hr hlk hS trivial dX12_rowFrom_112
                · obtain ⟨y20, ey20⟩ : ∃ y : Int32, y = z9_8 + Int32.ofInt 1 := ⟨_, rfl⟩
                  refine lv_iinc (v := y20) (lv' := [(8, .int y20), (0, .int x0), (3, .ref a3), (4, .int z9_4), (5, .int z9_5), (6, .int w6_0), (7, .int w8_0)]) X.1 X.2.1 dX12_rowFrom_90 hl (k := 6) rfl ey20.symm (by decide) rfl (fun ls hl => ?_)
                  refine lv_iload X.1 X.2.1 dX12_rowFrom_93 (lv_at hl 3 rfl) ?_
                  refine lv_iload X.1 X.2.1 dX12_rowFrom_95 (lv_at hl 5 rfl) ?_
                  refine lv_iadd X.1 X.2.1 dX12_rowFrom_97 ?_
                  refine lv_topi (fun f21 ef21 => ?_)
                  refine lv_istore (lv' := [(4, .int f21), (8, .int y20), (0, .int x0), (3, .ref a3), (5, .int z9_5), (6, .int w6_0), (7, .int w8_0)]) X.1 X.2.1 dX12_rowFrom_98 hl (by decide) rfl (fun ls hl => ?_)
                  refine lv_iload X.1 X.2.1 dX12_rowFrom_100 (lv_at hl 4 rfl) ?_
                  refine lv_iload X.1 X.2.1 dX12_rowFrom_102 (lv_at hl 6 rfl) ?_
                  refine lv_iadd X.1 X.2.1 dX12_rowFrom_104 ?_
                  refine lv_topi (fun f22 ef22 => ?_)
                  refine lv_istore (lv' := [(5, .int f22), (4, .int f21), (8, .int y20), (0, .int x0), (3, .ref a3), (6, .int w6_0), (7, .int w8_0)]) X.1 X.2.1 dX12_rowFrom_105 hl (by decide) rfl (fun ls hl => ?_)
                  refine lv_goto (tgt := 53) X.1 X.2.1 dX12_rowFrom_107 (by decide) ?_
                  exact ih9 _ _ f21 f22 y20 hS (lv_sub hl [3, 4, 1, 0, 5, 6, 2] rfl) (iv_of (iv_add (a' := 1) (b' := 6) ef21 (iv_lt (b' := 5) (iv_gt_of c12) hz9_4 hf11 (by decide +kernel)) hw6_0 (by decide +kernel)) (a' := 0) (b' := 6) (by decide +kernel)) (iv_of (iv_add (a' := 1) (b' := 5) ef22 (iv_lt (b' := 4) (iv_gt_of c14) hz9_5 hf13 (by decide +kernel)) hw8_0 (by decide +kernel)) (a' := 0) (b' := 29) (by decide +kernel)) (iv_stepUv ef21 hw6_0 (iv_lt (b' := 5) (iv_gt_of c12) hz9_4 hf11 (by decide +kernel)) (by decide +kernel) hN9)
      exact B9_53 _ _ _ f2 f4 0 hS (lv_sub hl [2, 3, 4, 5, 6, 1, 0] rfl) (iv_of (iv_rem (a' := 0) (b' := 5) ef2 h1 hf1 (by decide +kernel)) (a' := 0) (b' := 6) (by decide +kernel)) (iv_div (a' := 0) (b' := 29) ef4 h1 hf3 (by decide +kernel)) (Nat.le_refl _)
    refine lv_if_ne (tgt := 47) X.1 X.2.1 dX12_rowFrom_40 (by decide) (fun c7 => ?_) (fun c7 => ?_)
    · refine lv_iconst (v := 1) X.1 X.2.1 dX12_rowFrom_47 (by decide +kernel) ?_
      exact B8_48 _ _ 1 hS (lv_sub hl [1, 3, 4, 5, 0] rfl) (iv_c 1 (a := 1) (b := 1) (by decide +kernel))
    · exact ((iv_no (a := 2) (b := 0) (iv_eqm c7 h2 (iv_c 0 (a := 0) (b := 0) (by decide +kernel)) (by decide +kernel)) (by decide +kernel))).elim
  have B23_23 : ∀ (locs : List Loc) (ls : Array Slot), va_S (fun _ : Nat => False) s.heap s.heap locs → lv_has ls 9 [(0, .int x0), (2, .int x2), (3, .ref a3), (4, .int f2), (5, .int f4)] → W p l e (headSpec (Cond.code yX12_rowFrom cX12_rowFrom 9 (some .int) :: sg_tbl) ({ frames := 1, cells := 0, slots := 0, locals := 21 })).room s m #[.int x0, .int x1, .int x2, .ref a3] below meth c s.heap locs 0 0 (MQ below (va_Qi (fun r (_ : Unit) => (fun r : Int32 => True) r) (fun _ t => t.heap = s.heap) (fun _ : Nat => False)) #[.int x0, .int x1, .int x2, .ref a3] s 0 0 (fun _ : Nat => False)) (F0 m 23 ls []) := by
    intro locs ls hS hl
    refine lv_iconst (v := 1) X.1 X.2.1 dX12_rowFrom_23 (by decide +kernel) ?_
    refine lv_goto (tgt := 37) X.1 X.2.1 dX12_rowFrom_24 (by decide) ?_
    exact B6_37 _ _ 1 hS (lv_sub hl [0, 1, 2, 3, 4] rfl) (iv_c 1 (a := 1) (b := 1) (by decide +kernel))
  refine lv_if_eq (tgt := 23) X.1 X.2.1 dX12_rowFrom_15 (by decide) (fun c5 => ?_) (fun c5 => ?_)
  · exact ((iv_no (a := 2) (b := 0) (iv_eqm c5 h2 (iv_c 0 (a := 0) (b := 0) (by decide +kernel)) (by decide +kernel)) (by decide +kernel))).elim
  · refine lv_iload_n X.1 X.2.1 dX12_rowFrom_18 rfl (lv_at hl 4 rfl) ?_
    refine lv_iconst (v := 2) X.1 X.2.1 dX12_rowFrom_19 (by decide +kernel) ?_
    refine lv_icmp_ne (tgt := 27) X.1 X.2.1 dX12_rowFrom_20 (by decide) (fun c24 => ?_) (fun c24 => ?_)
    · exact ((c24 (iv_one h2 (iv_c 2 (a := 2) (b := 2) (by decide +kernel)) (by decide +kernel)))).elim
    · exact B23_23 _ _ hS (lv_sub hl [2, 4, 5, 1, 0] rfl)

theorem ca_X12_rowFrom_2   (X : CallFix p m c cc nL s args sg_tbl own) (hK : va_K D vwCl tys s) (hG : sgG (KT P) D vwCl (fun q : Nat => base ≤ q) tys ad ks H) (hC : sgC base s) (hA : ∀ q : Nat, A q → base ≤ q) (hS : va_S A s.heap H locs) (hb : base ≤ s.heap.size) (hp4 : P.2.2.2.2.1 = true) (x0 : Int32) (x1 : Int32) (h1 : iv 0 29 x1) (x2 : Int32) (h2 : iv 2 2 x2) (a3 : Nat) (h3 : isK ad ks 49 a3) (hl : Cond.methodLink own index yX12_rowFrom ∈ sg_tbl) (hsize : ls.size = nL) (hst : st0 = [.int x0, .int x1, .int x2, .ref a3].reverse ++ rest) (hW : (rest.map fun v => v.category).sum ≤ 8) (hR : 2 ≤ R.frames ∧ 49 ≤ R.locals) (hf : cells ≤ R.cells ∧ slots ≤ R.slots) (hdg : decode cc pc = .ok (.invokestatic index, 3)) (kk : ∀ (r : Int32) (locs1 : List Loc), (fun r : Int32 => True) r → va_S A s.heap H locs1 → W p l e R s m args below meth c H locs1 cells slots Q (F0 m (pc + 3) ls (.int r :: rest))) : W p l e R s m args below meth c H locs cells slots Q (F0 m pc ls st0) :=
  sg_callPSi X hK hG hC hA hS hb (m_X12_rowFrom_2 l hp4 x0 x1 h1 x2 h2 a3 h3) wl_7_204 wl_1_13 wl_7_203 (n := 4) (by decide +kernel) rfl rfl rfl hl hsize hst hW hR hf hdg kk

set_option maxHeartbeats 8000000 in
set_option maxRecDepth 100000 in
theorem m_X12_rowFrom_3 (l : Launch) {D : va_G} {base : Nat} {tys : List (ClassId × FieldType)} {ad ks : List Nat} {P : sgPm} {Hx : Heap} (hp4 : P.2.2.2.2.1 = true) (x0 : Int32) (x1 : Int32) (h1 : iv 0 29 x1) (x2 : Int32) (h2 : iv 3 3 x2) (a3 : Nat) (h3 : isK ad ks 49 a3) : sgPi l (KT P) D vwCl base tys ad ks Hx yX12_rowFrom cX12_rowFrom 9 (some .int) ({ frames := 1, cells := 0, slots := 0, locals := 21 }) [.int x0, .int x1, .int x2, .ref a3] (fun r : Int32 => True) := by
  refine sg_ofP (Pq := fun Hx => va_Qi (fun r (_ : Unit) => (fun r : Int32 => True) r) (fun _ t => t.heap = Hx) (fun _ : Nat => False)) (by decide +kernel) (Nat.le_of_ble_eq_true rfl) (fun p e s m below meth c X hr hlk hb hK hC hG ls hl => ?_)
  have hS : va_S (fun _ : Nat => False) s.heap s.heap [] := va_S.rf
  have hl : lv_has ls 9 [(0, .int x0), (1, .int x1), (2, .int x2), (3, .ref a3)] := hl
  refine lv_iload_n X.1 X.2.1 dX12_rowFrom_0 rfl (lv_at hl 1 rfl) ?_
  refine lv_aload_n X.1 X.2.1 dX12_rowFrom_1 rfl (lv_at hl 3 rfl) ?_
  refine lv_iconst (v := 0) X.1 X.2.1 dX12_rowFrom_2 (by decide +kernel) ?_
  refine al_49 X hK hG h3 (iv_vpin (iv_c 0 (a := 0) (b := 0) (by decide +kernel)) (by decide +kernel)) dX12_rowFrom_3 (fun f1 hf1 => ?_)
  have of1 := hf1
  have hf1 : iv 1 6 f1 := sg_r1 hp4 hf1 (iv_c 0 (a := 0) (b := 0) (by decide +kernel)) (by decide +kernel) rfl
  refine lv_irem X.1 X.2.1 dX12_rowFrom_4 (iv_ne0 hf1 (by decide +kernel)) ?_
  refine lv_topi (fun f2 ef2 => ?_)
  refine lv_istore (lv' := [(4, .int f2), (0, .int x0), (1, .int x1), (2, .int x2), (3, .ref a3)]) X.1 X.2.1 dX12_rowFrom_5 hl (by decide) rfl (fun ls hl => ?_)
  refine lv_iload_n X.1 X.2.1 dX12_rowFrom_7 rfl (lv_at hl 2 rfl) ?_
  refine lv_aload_n X.1 X.2.1 dX12_rowFrom_8 rfl (lv_at hl 4 rfl) ?_
  refine lv_iconst (v := 0) X.1 X.2.1 dX12_rowFrom_9 (by decide +kernel) ?_
  refine al_49 X hK hG h3 (iv_vpin (iv_c 0 (a := 0) (b := 0) (by decide +kernel)) (by decide +kernel)) dX12_rowFrom_10 (fun f3 hf3 => ?_)
  have of3 := hf3
  have hf3 : iv 1 6 f3 := sg_r1 hp4 hf3 (iv_c 0 (a := 0) (b := 0) (by decide +kernel)) (by decide +kernel) rfl
  refine lv_idiv X.1 X.2.1 dX12_rowFrom_11 (iv_ne0 hf3 (by decide +kernel)) ?_
  refine lv_topi (fun f4 ef4 => ?_)
  refine lv_istore (lv' := [(5, .int f4), (4, .int f2), (0, .int x0), (1, .int x1), (2, .int x2), (3, .ref a3)]) X.1 X.2.1 dX12_rowFrom_12 hl (by decide) rfl (fun ls hl => ?_)
  refine lv_iload_n X.1 X.2.1 dX12_rowFrom_14 rfl (lv_at hl 4 rfl) ?_
  have B6_37 : ∀ (locs : List Loc) (ls : Array Slot) (w6_0 : Int32), va_S (fun _ : Nat => False) s.heap s.heap locs → lv_has ls 9 [(0, .int x0), (2, .int x2), (3, .ref a3), (4, .int f2), (5, .int f4)] → iv (-1) (-1) w6_0 → W p l e (headSpec (Cond.code yX12_rowFrom cX12_rowFrom 9 (some .int) :: sg_tbl) ({ frames := 1, cells := 0, slots := 0, locals := 21 })).room s m #[.int x0, .int x1, .int x2, .ref a3] below meth c s.heap locs 0 0 (MQ below (va_Qi (fun r (_ : Unit) => (fun r : Int32 => True) r) (fun _ t => t.heap = s.heap) (fun _ : Nat => False)) #[.int x0, .int x1, .int x2, .ref a3] s 0 0 (fun _ : Nat => False)) (F0 m 37 ls [.int w6_0]) := by
    intro locs ls w6_0 hS hl hw6_0
    refine lv_istore (lv' := [(6, .int w6_0), (0, .int x0), (2, .int x2), (3, .ref a3), (4, .int f2), (5, .int f4)]) X.1 X.2.1 dX12_rowFrom_37 hl (by decide) rfl (fun ls hl => ?_)
    refine lv_iload_n X.1 X.2.1 dX12_rowFrom_39 rfl (lv_at hl 2 rfl) ?_
    have B8_48 : ∀ (locs : List Loc) (ls : Array Slot) (w8_0 : Int32), va_S (fun _ : Nat => False) s.heap s.heap locs → lv_has ls 9 [(0, .int x0), (3, .ref a3), (4, .int f2), (5, .int f4), (6, .int w6_0)] → iv 1 1 w8_0 → W p l e (headSpec (Cond.code yX12_rowFrom cX12_rowFrom 9 (some .int) :: sg_tbl) ({ frames := 1, cells := 0, slots := 0, locals := 21 })).room s m #[.int x0, .int x1, .int x2, .ref a3] below meth c s.heap locs 0 0 (MQ below (va_Qi (fun r (_ : Unit) => (fun r : Int32 => True) r) (fun _ t => t.heap = s.heap) (fun _ : Nat => False)) #[.int x0, .int x1, .int x2, .ref a3] s 0 0 (fun _ : Nat => False)) (F0 m 48 ls [.int w8_0]) := by
      intro locs ls w8_0 hS hl hw8_0
      refine lv_istore (lv' := [(7, .int w8_0), (0, .int x0), (3, .ref a3), (4, .int f2), (5, .int f4), (6, .int w6_0)]) X.1 X.2.1 dX12_rowFrom_48 hl (by decide) rfl (fun ls hl => ?_)
      refine lv_iconst (v := 0) X.1 X.2.1 dX12_rowFrom_50 (by decide +kernel) ?_
      refine lv_istore (lv' := [(8, .int 0), (7, .int w8_0), (0, .int x0), (3, .ref a3), (4, .int f2), (5, .int f4), (6, .int w6_0)]) X.1 X.2.1 dX12_rowFrom_51 hl (by decide) rfl (fun ls hl => ?_)
      have B9_53 : ∀ (N : Nat) (locs : List Loc) (ls : Array Slot) (z9_4 : Int32) (z9_5 : Int32) (z9_8 : Int32), va_S (fun _ : Nat => False) s.heap s.heap locs → lv_has ls 9 [(0, .int x0), (3, .ref a3), (4, .int z9_4), (5, .int z9_5), (6, .int w6_0), (7, .int w8_0), (8, .int z9_8)] → iv (-1) 5 z9_4 → iv 0 29 z9_5 → (z9_4.toInt - (-2)).toNat ≤ N → W p l e (headSpec (Cond.code yX12_rowFrom cX12_rowFrom 9 (some .int) :: sg_tbl) ({ frames := 1, cells := 0, slots := 0, locals := 21 })).room s m #[.int x0, .int x1, .int x2, .ref a3] below meth c s.heap locs 0 0 (MQ below (va_Qi (fun r (_ : Unit) => (fun r : Int32 => True) r) (fun _ t => t.heap = s.heap) (fun _ : Nat => False)) #[.int x0, .int x1, .int x2, .ref a3] s 0 0 (fun _ : Nat => False)) (F0 m 53 ls []) := by
        intro N; induction N with
        | zero =>
          intro locs ls z9_4 z9_5 z9_8 hS hl hz9_4 hz9_5 hN
          exact absurd hN (by have := iv_dn hz9_4; omega)
        | succ N ih9 =>
          intro locs ls z9_4 z9_5 z9_8 hS hl hz9_4 hz9_5 hN9
          refine lv_iload X.1 X.2.1 dX12_rowFrom_53 (lv_at hl 2 rfl) ?_
          refine lv_if_lt (tgt := 110) X.1 X.2.1 dX12_rowFrom_55 (by decide) (fun c10 => ?_) (fun c10 => ?_)
          · refine lv_iload X.1 X.2.1 dX12_rowFrom_110 (lv_at hl 6 rfl) ?_
            exact sg_iretP X hr hlk hS trivial dX12_rowFrom_112
          · refine lv_iload X.1 X.2.1 dX12_rowFrom_58 (lv_at hl 2 rfl) ?_
            refine lv_aload_n X.1 X.2.1 dX12_rowFrom_60 rfl (lv_at hl 1 rfl) ?_
            refine lv_iconst (v := 0) X.1 X.2.1 dX12_rowFrom_61 (by decide +kernel) ?_
            refine al_49 X hK hG h3 (iv_vpin (iv_c 0 (a := 0) (b := 0) (by decide +kernel)) (by decide +kernel)) dX12_rowFrom_62 (fun f11 hf11 => ?_)
            have of11 := hf11
            have hf11 : iv 1 6 f11 := sg_r1 hp4 hf11 (iv_c 0 (a := 0) (b := 0) (by decide +kernel)) (by decide +kernel) rfl
            refine lv_icmp_ge (tgt := 110) X.1 X.2.1 dX12_rowFrom_63 (by decide) (fun c12 => ?_) (fun c12 => ?_)
            · refine lv_iload X.1 X.2.1 dX12_rowFrom_110 (lv_at hl 6 rfl) ?_
              exact sg_iretP X hr hlk hS trivial dX12_rowFrom_112
            · refine lv_iload X.1 X.2.1 dX12_rowFrom_66 (lv_at hl 3 rfl) ?_
              refine lv_aload_n X.1 X.2.1 dX12_rowFrom_68 rfl (lv_at hl 1 rfl) ?_
              refine lv_iconst (v := 1) X.1 X.2.1 dX12_rowFrom_69 (by decide +kernel) ?_
              refine al_49 X hK hG h3 (iv_vpin (iv_c 1 (a := 1) (b := 1) (by decide +kernel)) (by decide +kernel)) dX12_rowFrom_70 (fun f13 hf13 => ?_)
              have of13 := hf13
              have hf13 : iv 1 5 f13 := sg_r1 hp4 hf13 (iv_c 1 (a := 1) (b := 1) (by decide +kernel)) (by decide +kernel) rfl
              refine lv_icmp_ge (tgt := 110) X.1 X.2.1 dX12_rowFrom_71 (by decide) (fun c14 => ?_) (fun c14 => ?_)
              · refine lv_iload X.1 X.2.1 dX12_rowFrom_110 (lv_at hl 6 rfl) ?_
                exact sg_iretP X hr hlk hS trivial dX12_rowFrom_112
              · refine lv_iload_n X.1 X.2.1 dX12_rowFrom_74 rfl (lv_at hl 0 rfl) ?_
                refine lv_iload X.1 X.2.1 dX12_rowFrom_75 (lv_at hl 3 rfl) ?_
                refine lv_aload_n X.1 X.2.1 dX12_rowFrom_77 rfl (lv_at hl 1 rfl) ?_
                refine lv_iconst (v := 0) X.1 X.2.1 dX12_rowFrom_78 (by decide +kernel) ?_
                refine al_49 X hK hG h3 (iv_vpin (iv_c 0 (a := 0) (b := 0) (by decide +kernel)) (by decide +kernel)) dX12_rowFrom_79 (fun f15 hf15 => ?_)
                have of15 := hf15
                have hf15 : iv 1 6 f15 := sg_r1 hp4 hf15 (iv_c 0 (a := 0) (b := 0) (by decide +kernel)) (by decide +kernel) rfl
                refine lv_imul X.1 X.2.1 dX12_rowFrom_80 ?_
                refine lv_topi (fun f16 ef16 => ?_)
                refine lv_iload X.1 X.2.1 dX12_rowFrom_81 (lv_at hl 2 rfl) ?_
                refine lv_iadd X.1 X.2.1 dX12_rowFrom_83 ?_
                refine lv_topi (fun f17 ef17 => ?_)
                refine ca_X12_has X hK hG hC (fun _ h => h.elim) hS hb x0 f17 wl_7_174 hl.1 (rest := []) rfl (Nat.le_of_ble_eq_true rfl) ⟨Nat.le_of_ble_eq_true rfl, Nat.le_of_ble_eq_true rfl⟩ ⟨Nat.le_of_ble_eq_true rfl, Nat.le_of_ble_eq_true rfl⟩ dX12_rowFrom_84 (fun f18 locs hf18 hS => ?_)
                refine lv_if_eq (tgt := 110) X.1 X.2.1 dX12_rowFrom_87 (by decide) (fun c19 => ?_) (fun c19 => ?_)
                · refine lv_iload X.1 X.2.1 dX12_rowFrom_110 (lv_at hl 6 rfl) ?_
                  exact sg_iretP X hr hlk hS trivial dX12_rowFrom_112
                · obtain ⟨y20, ey20⟩ : ∃ y : Int32, y = z9_8 + Int32.ofInt 1 := ⟨_, rfl⟩
                  refine lv_iinc (v := y20) (lv' := [(8, .int y20), (0, .int x0), (3, .ref a3), (4, .int z9_4), (5, .int z9_5), (6, .int w6_0), (7, .int w8_0)]) X.1 X.2.1 dX12_rowFrom_90 hl (k := 6) rfl ey20.symm (by decide) rfl (fun ls hl => ?_)
                  refine lv_iload X.1 X.2.1 dX12_rowFrom_93 (lv_at hl 3 rfl) ?_
                  refine lv_iload X.1 X.2.1 dX12_rowFrom_95 (lv_at hl 5 rfl) ?_
                  refine lv_iadd X.1 X.2.1 dX12_rowFrom_97 ?_
                  refine lv_topi (fun f21 ef21 => ?_)
                  refine lv_istore (lv' := [(4, .int f21), (8, .int y20), (0, .int x0), (3, .ref a3), (5, .int z9_5), (6, .int w6_0), (7, .int w8_0)]) X.1 X.2.1 dX12_rowFrom_98 hl (by decide) rfl (fun ls hl => ?_)
                  refine lv_iload X.1 X.2.1 dX12_rowFrom_100 (lv_at hl 4 rfl) ?_
                  refine lv_iload X.1 X.2.1 dX12_rowFrom_102 (lv_at hl 6 rfl) ?_
                  refine lv_iadd X.1 X.2.1 dX12_rowFrom_104 ?_
                  refine lv_topi (fun f22 ef22 => ?_)
                  refine lv_istore (lv' := [(5, .int f22), (4, .int f21), (8, .int y20), (0, .int x0), (3, .ref a3), (6, .int w6_0), (7, .int w8_0)]) X.1 X.2.1 dX12_rowFrom_105 hl (by decide) rfl (fun ls hl => ?_)
                  refine lv_goto (tgt := 53) X.1 X.2.1 dX12_rowFrom_107 (by decide) ?_
                  exact ih9 _ _ f21 f22 y20 hS (lv_sub hl [3, 4, 1, 0, 5, 6, 2] rfl) (iv_of (iv_add (a' := (-1)) (b' := 4) ef21 (iv_ler (c' := 0) (iv_ge_of c10) (iv_c 0 (a := 0) (b := 0) (by decide +kernel)) hz9_4 (by decide +kernel)) hw6_0 (by decide +kernel)) (a' := (-1)) (b' := 5) (by decide +kernel)) (iv_of (iv_add (a' := 1) (b' := 5) ef22 (iv_lt (b' := 4) (iv_gt_of c14) hz9_5 hf13 (by decide +kernel)) hw8_0 (by decide +kernel)) (a' := 0) (b' := 29) (by decide +kernel)) (iv_stepDv ef21 hw6_0 (iv_ler (c' := 0) (iv_ge_of c10) (iv_c 0 (a := 0) (b := 0) (by decide +kernel)) hz9_4 (by decide +kernel)) (by decide +kernel) hN9)
      exact B9_53 _ _ _ f2 f4 0 hS (lv_sub hl [2, 3, 4, 5, 6, 1, 0] rfl) (iv_of (iv_rem (a' := 0) (b' := 5) ef2 h1 hf1 (by decide +kernel)) (a' := (-1)) (b' := 5) (by decide +kernel)) (iv_div (a' := 0) (b' := 29) ef4 h1 hf3 (by decide +kernel)) (Nat.le_refl _)
    refine lv_if_ne (tgt := 47) X.1 X.2.1 dX12_rowFrom_40 (by decide) (fun c7 => ?_) (fun c7 => ?_)
    · refine lv_iconst (v := 1) X.1 X.2.1 dX12_rowFrom_47 (by decide +kernel) ?_
      exact B8_48 _ _ 1 hS (lv_sub hl [1, 3, 4, 5, 0] rfl) (iv_c 1 (a := 1) (b := 1) (by decide +kernel))
    · exact ((iv_no (a := 3) (b := 0) (iv_eqm c7 h2 (iv_c 0 (a := 0) (b := 0) (by decide +kernel)) (by decide +kernel)) (by decide +kernel))).elim
  refine lv_if_eq (tgt := 23) X.1 X.2.1 dX12_rowFrom_15 (by decide) (fun c5 => ?_) (fun c5 => ?_)
  · exact ((iv_no (a := 3) (b := 0) (iv_eqm c5 h2 (iv_c 0 (a := 0) (b := 0) (by decide +kernel)) (by decide +kernel)) (by decide +kernel))).elim
  · refine lv_iload_n X.1 X.2.1 dX12_rowFrom_18 rfl (lv_at hl 4 rfl) ?_
    refine lv_iconst (v := 2) X.1 X.2.1 dX12_rowFrom_19 (by decide +kernel) ?_
    refine lv_icmp_ne (tgt := 27) X.1 X.2.1 dX12_rowFrom_20 (by decide) (fun c23 => ?_) (fun c23 => ?_)
    · refine lv_iload_n X.1 X.2.1 dX12_rowFrom_27 rfl (lv_at hl 4 rfl) ?_
      refine lv_iconst (v := 3) X.1 X.2.1 dX12_rowFrom_28 (by decide +kernel) ?_
      refine lv_icmp_ne (tgt := 36) X.1 X.2.1 dX12_rowFrom_29 (by decide) (fun c24 => ?_) (fun c24 => ?_)
      · exact ((c24 (iv_one h2 (iv_c 3 (a := 3) (b := 3) (by decide +kernel)) (by decide +kernel)))).elim
      · refine lv_iconst (v := (-1)) X.1 X.2.1 dX12_rowFrom_32 (by decide +kernel) ?_
        refine lv_goto (tgt := 37) X.1 X.2.1 dX12_rowFrom_33 (by decide) ?_
        exact B6_37 _ _ (-1) hS (lv_sub hl [2, 4, 5, 1, 0] rfl) (iv_c (-1) (a := (-1)) (b := (-1)) (by decide +kernel))
    · exact ((iv_no (a := 3) (b := 2) (iv_eqm c23 h2 (iv_c 2 (a := 2) (b := 2) (by decide +kernel)) (by decide +kernel)) (by decide +kernel))).elim

theorem ca_X12_rowFrom_3   (X : CallFix p m c cc nL s args sg_tbl own) (hK : va_K D vwCl tys s) (hG : sgG (KT P) D vwCl (fun q : Nat => base ≤ q) tys ad ks H) (hC : sgC base s) (hA : ∀ q : Nat, A q → base ≤ q) (hS : va_S A s.heap H locs) (hb : base ≤ s.heap.size) (hp4 : P.2.2.2.2.1 = true) (x0 : Int32) (x1 : Int32) (h1 : iv 0 29 x1) (x2 : Int32) (h2 : iv 3 3 x2) (a3 : Nat) (h3 : isK ad ks 49 a3) (hl : Cond.methodLink own index yX12_rowFrom ∈ sg_tbl) (hsize : ls.size = nL) (hst : st0 = [.int x0, .int x1, .int x2, .ref a3].reverse ++ rest) (hW : (rest.map fun v => v.category).sum ≤ 8) (hR : 2 ≤ R.frames ∧ 49 ≤ R.locals) (hf : cells ≤ R.cells ∧ slots ≤ R.slots) (hdg : decode cc pc = .ok (.invokestatic index, 3)) (kk : ∀ (r : Int32) (locs1 : List Loc), (fun r : Int32 => True) r → va_S A s.heap H locs1 → W p l e R s m args below meth c H locs1 cells slots Q (F0 m (pc + 3) ls (.int r :: rest))) : W p l e R s m args below meth c H locs cells slots Q (F0 m pc ls st0) :=
  sg_callPSi X hK hG hC hA hS hb (m_X12_rowFrom_3 l hp4 x0 x1 h1 x2 h2 a3 h3) wl_7_204 wl_1_13 wl_7_203 (n := 4) (by decide +kernel) rfl rfl rfl hl hsize hst hW hR hf hdg kk

theorem m_X12_rowFrom_c (l : Launch) {D : va_G} {base : Nat} {tys : List (ClassId × FieldType)} {ad ks : List Nat} {P : sgPm} {Hx : Heap} (hp4 : P.2.2.2.2.1 = true) (x0 : Int32) (x1 : Int32) (h1 : iv 0 29 x1) (x2 : Int32) (h2 : iv 0 3 x2) (a3 : Nat) (h3 : isK ad ks 49 a3) : sgPi l (KT P) D vwCl base tys ad ks Hx yX12_rowFrom cX12_rowFrom 9 (some .int) ({ frames := 1, cells := 0, slots := 0, locals := 21 }) [.int x0, .int x1, .int x2, .ref a3] (fun r : Int32 => True) := by
  by_cases e0 : x2.toInt = 0
  · exact m_X12_rowFrom_0 l hp4 x0 x1 h1 x2 ⟨by omega, by omega⟩ a3 h3
  by_cases e1 : x2.toInt = 1
  · exact m_X12_rowFrom_1 l hp4 x0 x1 h1 x2 ⟨by omega, by omega⟩ a3 h3
  by_cases e2 : x2.toInt = 2
  · exact m_X12_rowFrom_2 l hp4 x0 x1 h1 x2 ⟨by omega, by omega⟩ a3 h3
  by_cases e3 : x2.toInt = 3
  · exact m_X12_rowFrom_3 l hp4 x0 x1 h1 x2 ⟨by omega, by omega⟩ a3 h3
  exact absurd h2 (fun q => by have := q.1; have := q.2; omega)

theorem ca_X12_rowFrom_c   (X : CallFix p m c cc nL s args sg_tbl own) (hK : va_K D vwCl tys s) (hG : sgG (KT P) D vwCl (fun q : Nat => base ≤ q) tys ad ks H) (hC : sgC base s) (hA : ∀ q : Nat, A q → base ≤ q) (hS : va_S A s.heap H locs) (hb : base ≤ s.heap.size) (hp4 : P.2.2.2.2.1 = true) (x0 : Int32) (x1 : Int32) (h1 : iv 0 29 x1) (x2 : Int32) (h2 : iv 0 3 x2) (a3 : Nat) (h3 : isK ad ks 49 a3) (hl : Cond.methodLink own index yX12_rowFrom ∈ sg_tbl) (hsize : ls.size = nL) (hst : st0 = [.int x0, .int x1, .int x2, .ref a3].reverse ++ rest) (hW : (rest.map fun v => v.category).sum ≤ 8) (hR : 2 ≤ R.frames ∧ 49 ≤ R.locals) (hf : cells ≤ R.cells ∧ slots ≤ R.slots) (hdg : decode cc pc = .ok (.invokestatic index, 3)) (kk : ∀ (r : Int32) (locs1 : List Loc), (fun r : Int32 => True) r → va_S A s.heap H locs1 → W p l e R s m args below meth c H locs1 cells slots Q (F0 m (pc + 3) ls (.int r :: rest))) : W p l e R s m args below meth c H locs cells slots Q (F0 m pc ls st0) :=
  sg_callPSi X hK hG hC hA hS hb (m_X12_rowFrom_c l hp4 x0 x1 h1 x2 h2 a3 h3) wl_7_204 wl_1_13 wl_7_203 (n := 4) (by decide +kernel) rfl rfl rfl hl hsize hst hW hR hf hdg kk

set_option maxHeartbeats 8000000 in
set_option maxRecDepth 100000 in
theorem m_X12_longestIn_1 (l : Launch) {D : va_G} {base : Nat} {tys : List (ClassId × FieldType)} {ad ks : List Nat} {P : sgPm} {Hx : Heap} (hp4 : P.2.2.2.2.1 = true) (x0 : Int32) (a1 : Nat) (h1 : isK ad ks 49 a1) : sgPi l (KT P) D vwCl base tys ad ks Hx yX12_longestIn cX12_longestIn 5 (some .int) ({ frames := 2, cells := 0, slots := 0, locals := 49 }) [.int x0, .ref a1] (fun r : Int32 => True) := by
  refine sg_ofP (Pq := fun Hx => va_Qi (fun r (_ : Unit) => (fun r : Int32 => True) r) (fun _ t => t.heap = Hx) (fun _ : Nat => False)) (by decide +kernel) (Nat.le_of_ble_eq_true rfl) (fun p e s m below meth c X hr hlk hb hK hC hG ls hl => ?_)
  have hS : va_S (fun _ : Nat => False) s.heap s.heap [] := va_S.rf
  have hl : lv_has ls 5 [(0, .int x0), (1, .ref a1)] := hl
  refine lv_iconst (v := 0) X.1 X.2.1 dX12_longestIn_0 (by decide +kernel) ?_
  refine lv_istore_n (lv' := [(2, .int 0), (0, .int x0), (1, .ref a1)]) X.1 X.2.1 dX12_longestIn_1 rfl hl (by decide) rfl (fun ls hl => ?_)
  refine lv_iconst (v := 0) X.1 X.2.1 dX12_longestIn_2 (by decide +kernel) ?_
  refine lv_istore_n (lv' := [(3, .int 0), (2, .int 0), (0, .int x0), (1, .ref a1)]) X.1 X.2.1 dX12_longestIn_3 rfl hl (by decide) rfl (fun ls hl => ?_)
  have B1_4 : ∀ (N : Nat) (locs : List Loc) (ls : Array Slot) (z1_2 : Int32) (z1_3 : Int32), va_S (fun _ : Nat => False) s.heap s.heap locs → lv_has ls 5 [(0, .int x0), (1, .ref a1), (2, .int z1_2), (3, .int z1_3)] → iv 0 2147483647 z1_2 → iv 0 30 z1_3 → (31 - z1_3.toInt).toNat ≤ N → W p l e (headSpec (Cond.code yX12_longestIn cX12_longestIn 5 (some .int) :: sg_tbl) ({ frames := 2, cells := 0, slots := 0, locals := 49 })).room s m #[.int x0, .ref a1] below meth c s.heap locs 0 0 (MQ below (va_Qi (fun r (_ : Unit) => (fun r : Int32 => True) r) (fun _ t => t.heap = s.heap) (fun _ : Nat => False)) #[.int x0, .ref a1] s 0 0 (fun _ : Nat => False)) (F0 m 4 ls []) := by
    intro N; induction N with
    | zero =>
      intro locs ls z1_2 z1_3 hS hl hz1_2 hz1_3 hN
      exact absurd hN (by have := iv_up hz1_3; omega)
    | succ N ih1 =>
      intro locs ls z1_2 z1_3 hS hl hz1_2 hz1_3 hN1
      refine lv_iload_n X.1 X.2.1 dX12_longestIn_4 rfl (lv_at hl 3 rfl) ?_
      refine lv_aload_n X.1 X.2.1 dX12_longestIn_5 rfl (lv_at hl 1 rfl) ?_
      refine lv_iconst (v := 0) X.1 X.2.1 dX12_longestIn_6 (by decide +kernel) ?_
      refine al_49 X hK hG h1 (iv_vpin (iv_c 0 (a := 0) (b := 0) (by decide +kernel)) (by decide +kernel)) dX12_longestIn_7 (fun f2 hf2 => ?_)
      have of2 := hf2
      have hf2 : iv 1 6 f2 := sg_r1 hp4 hf2 (iv_c 0 (a := 0) (b := 0) (by decide +kernel)) (by decide +kernel) rfl
      refine lv_aload_n X.1 X.2.1 dX12_longestIn_8 rfl (lv_at hl 1 rfl) ?_
      refine lv_iconst (v := 1) X.1 X.2.1 dX12_longestIn_9 (by decide +kernel) ?_
      refine al_49 X hK hG h1 (iv_vpin (iv_c 1 (a := 1) (b := 1) (by decide +kernel)) (by decide +kernel)) dX12_longestIn_10 (fun f3 hf3 => ?_)
      have of3 := hf3
      have hf3 : iv 1 5 f3 := sg_r1 hp4 hf3 (iv_c 1 (a := 1) (b := 1) (by decide +kernel)) (by decide +kernel) rfl
      refine lv_imul X.1 X.2.1 dX12_longestIn_11 ?_
      refine lv_topi (fun f4 ef4 => ?_)
      refine lv_icmp_ge (tgt := 49) X.1 X.2.1 dX12_longestIn_12 (by decide) (fun c5 => ?_) (fun c5 => ?_)
      · refine lv_iload_n X.1 X.2.1 dX12_longestIn_49 rfl (lv_at hl 2 rfl) ?_
        exact sg_iretP X hr hlk hS trivial dX12_longestIn_50
      · refine lv_iconst (v := 0) X.1 X.2.1 dX12_longestIn_15 (by decide +kernel) ?_
        refine lv_istore (lv' := [(4, .int 0), (0, .int x0), (1, .ref a1), (2, .int z1_2), (3, .int z1_3)]) X.1 X.2.1 dX12_longestIn_16 hl (by decide) rfl (fun ls hl => ?_)
        have B6_18 : ∀ (N : Nat) (locs : List Loc) (ls : Array Slot) (z6_2 : Int32) (z6_4 : Int32), va_S (fun _ : Nat => False) s.heap s.heap locs → lv_has ls 5 [(0, .int x0), (1, .ref a1), (2, .int z6_2), (3, .int z1_3), (4, .int z6_4)] → iv 0 2147483647 z6_2 → iv 0 4 z6_4 → (5 - z6_4.toInt).toNat ≤ N → W p l e (headSpec (Cond.code yX12_longestIn cX12_longestIn 5 (some .int) :: sg_tbl) ({ frames := 2, cells := 0, slots := 0, locals := 49 })).room s m #[.int x0, .ref a1] below meth c s.heap locs 0 0 (MQ below (va_Qi (fun r (_ : Unit) => (fun r : Int32 => True) r) (fun _ t => t.heap = s.heap) (fun _ : Nat => False)) #[.int x0, .ref a1] s 0 0 (fun _ : Nat => False)) (F0 m 18 ls []) := by
          intro N; induction N with
          | zero =>
            intro locs ls z6_2 z6_4 hS hl hz6_2 hz6_4 hN
            exact absurd hN (by have := iv_up hz6_4; omega)
          | succ N ih6 =>
            intro locs ls z6_2 z6_4 hS hl hz6_2 hz6_4 hN6
            refine lv_iload X.1 X.2.1 dX12_longestIn_18 (lv_at hl 4 rfl) ?_
            refine lv_iconst (v := 4) X.1 X.2.1 dX12_longestIn_20 (by decide +kernel) ?_
            refine lv_icmp_ge (tgt := 43) X.1 X.2.1 dX12_longestIn_21 (by decide) (fun c7 => ?_) (fun c7 => ?_)
            · obtain ⟨y8, ey8⟩ : ∃ y : Int32, y = z1_3 + Int32.ofInt 1 := ⟨_, rfl⟩
              refine lv_iinc (v := y8) (lv' := [(3, .int y8), (0, .int x0), (1, .ref a1), (2, .int z6_2), (4, .int z6_4)]) X.1 X.2.1 dX12_longestIn_43 hl (k := 3) rfl ey8.symm (by decide) rfl (fun ls hl => ?_)
              refine lv_goto (tgt := 4) X.1 X.2.1 dX12_longestIn_46 (by decide) ?_
              exact ih1 _ _ z6_2 y8 hS (lv_sub hl [1, 2, 3, 0] rfl) hz6_2 (iv_of (iv_add (a' := 1) (b' := 30) ey8 (iv_lt (b' := 29) (iv_gt_of c5) hz1_3 (iv_mul (a' := 1) (b' := 30) ef4 hf2 hf3 (by decide +kernel)) (by decide +kernel)) (iv_c _ (a := 1) (b := 1) (by decide +kernel)) (by decide +kernel)) (a' := 0) (b' := 30) (by decide +kernel)) (iv_stepU ey8 (iv_lt (b' := 29) (iv_gt_of c5) hz1_3 (iv_mul (a' := 1) (b' := 30) ef4 hf2 hf3 (by decide +kernel)) (by decide +kernel)) (by decide +kernel) hN1)
            · refine lv_iload_n X.1 X.2.1 dX12_longestIn_24 rfl (lv_at hl 2 rfl) ?_
              refine lv_iload_n X.1 X.2.1 dX12_longestIn_25 rfl (lv_at hl 0 rfl) ?_
              refine lv_iload_n X.1 X.2.1 dX12_longestIn_26 rfl (lv_at hl 3 rfl) ?_
              refine lv_iload X.1 X.2.1 dX12_longestIn_27 (lv_at hl 4 rfl) ?_
              refine lv_aload_n X.1 X.2.1 dX12_longestIn_29 rfl (lv_at hl 1 rfl) ?_
              refine ca_X12_rowFrom_c X hK hG hC (fun _ h => h.elim) hS hb hp4 x0 z1_3 (iv_lt (b' := 29) (iv_gt_of c5) hz1_3 (iv_mul (a' := 1) (b' := 30) ef4 hf2 hf3 (by decide +kernel)) (by decide +kernel)) z6_4 (iv_lt (b' := 3) (iv_gt_of c7) hz6_4 (iv_c 4 (a := 4) (b := 4) (by decide +kernel)) (by decide +kernel)) a1 h1 wl_7_202 hl.1 (rest := [.int z6_2]) rfl (Nat.le_of_ble_eq_true rfl) ⟨Nat.le_of_ble_eq_true rfl, Nat.le_of_ble_eq_true rfl⟩ ⟨Nat.le_of_ble_eq_true rfl, Nat.le_of_ble_eq_true rfl⟩ dX12_longestIn_30 (fun f9 locs hf9 hS => ?_)
              refine va_mmax X.1 X.2.1 (X.2.2.1.trans hl.1.symm) X.2.2.2.1 (X.2.2.2.2 _ wl_7_205) (X.2.2.2.2 _ wl_3_100) (X.2.2.2.2 _ wl_1_15) (X.2.2.2.2 _ wl_3_101) (Nat.le_of_ble_eq_true rfl) (Nat.le_of_ble_eq_true rfl) (Nat.le_of_ble_eq_true rfl) (Nat.le_of_ble_eq_true rfl) dX12_longestIn_33 ?_
              refine lv_topi (fun f10 ef10 => ?_)
              refine lv_istore_n (lv' := [(2, .int f10), (0, .int x0), (1, .ref a1), (3, .int z1_3), (4, .int z6_4)]) X.1 X.2.1 dX12_longestIn_36 rfl hl (by decide) rfl (fun ls hl => ?_)
              obtain ⟨y11, ey11⟩ : ∃ y : Int32, y = z6_4 + Int32.ofInt 1 := ⟨_, rfl⟩
              refine lv_iinc (v := y11) (lv' := [(4, .int y11), (2, .int f10), (0, .int x0), (1, .ref a1), (3, .int z1_3)]) X.1 X.2.1 dX12_longestIn_37 hl (k := 4) rfl ey11.symm (by decide) rfl (fun ls hl => ?_)
              refine lv_goto (tgt := 18) X.1 X.2.1 dX12_longestIn_40 (by decide) ?_
              exact ih6 _ _ f10 y11 hS (lv_sub hl [2, 3, 1, 4, 0] rfl) (iv_max (a' := 0) (b' := 2147483647) ef10 hz6_2 (iv_top f9) (by decide +kernel)) (iv_of (iv_add (a' := 1) (b' := 4) ey11 (iv_lt (b' := 3) (iv_gt_of c7) hz6_4 (iv_c 4 (a := 4) (b := 4) (by decide +kernel)) (by decide +kernel)) (iv_c _ (a := 1) (b := 1) (by decide +kernel)) (by decide +kernel)) (a' := 0) (b' := 4) (by decide +kernel)) (iv_stepU ey11 (iv_lt (b' := 3) (iv_gt_of c7) hz6_4 (iv_c 4 (a := 4) (b := 4) (by decide +kernel)) (by decide +kernel)) (by decide +kernel) hN6)
        exact B6_18 _ _ _ z1_2 0 hS (lv_sub hl [1, 2, 3, 4, 0] rfl) hz1_2 (iv_of (iv_c 0 (a := 0) (b := 0) (by decide +kernel)) (a' := 0) (b' := 4) (by decide +kernel)) (Nat.le_refl _)
  exact B1_4 _ _ _ 0 0 hS (lv_sub hl [2, 3, 1, 0] rfl) (iv_of (iv_c 0 (a := 0) (b := 0) (by decide +kernel)) (a' := 0) (b' := 2147483647) (by decide +kernel)) (iv_of (iv_c 0 (a := 0) (b := 0) (by decide +kernel)) (a' := 0) (b' := 30) (by decide +kernel)) (Nat.le_refl _)

theorem ca_X12_longestIn_1   (X : CallFix p m c cc nL s args sg_tbl own) (hK : va_K D vwCl tys s) (hG : sgG (KT P) D vwCl (fun q : Nat => base ≤ q) tys ad ks H) (hC : sgC base s) (hA : ∀ q : Nat, A q → base ≤ q) (hS : va_S A s.heap H locs) (hb : base ≤ s.heap.size) (hp4 : P.2.2.2.2.1 = true) (x0 : Int32) (a1 : Nat) (h1 : isK ad ks 49 a1) (hl : Cond.methodLink own index yX12_longestIn ∈ sg_tbl) (hsize : ls.size = nL) (hst : st0 = [.int x0, .ref a1].reverse ++ rest) (hW : (rest.map fun v => v.category).sum ≤ 8) (hR : 3 ≤ R.frames ∧ 73 ≤ R.locals) (hf : cells ≤ R.cells ∧ slots ≤ R.slots) (hdg : decode cc pc = .ok (.invokestatic index, 3)) (kk : ∀ (r : Int32) (locs1 : List Loc), (fun r : Int32 => True) r → va_S A s.heap H locs1 → W p l e R s m args below meth c H locs1 cells slots Q (F0 m (pc + 3) ls (.int r :: rest))) : W p l e R s m args below meth c H locs cells slots Q (F0 m pc ls st0) :=
  sg_callPSi X hK hG hC hA hS hb (m_X12_longestIn_1 l hp4 x0 a1 h1) wl_7_201 wl_1_13 wl_7_200 (n := 2) (by decide +kernel) rfl rfl rfl hl hsize hst hW hR hf hdg kk

set_option maxHeartbeats 8000000 in
set_option maxRecDepth 100000 in
theorem m_X12_hasLine_1 (l : Launch) {D : va_G} {base : Nat} {tys : List (ClassId × FieldType)} {ad ks : List Nat} {P : sgPm} {Hx : Heap} (hp4 : P.2.2.2.2.1 = true) (x0 : Int32) (a1 : Nat) (h1 : isK ad ks 49 a1) : sgPi l (KT P) D vwCl base tys ad ks Hx yX12_hasLine cX12_hasLine 2 (some .boolean) ({ frames := 3, cells := 0, slots := 0, locals := 73 }) [.int x0, .ref a1] (fun r : Int32 => iv 0 1 r) := by
  refine sg_ofP (Pq := fun Hx => va_Qi (fun r (_ : Unit) => (fun r : Int32 => iv 0 1 r) r) (fun _ t => t.heap = Hx) (fun _ : Nat => False)) (by decide +kernel) (Nat.le_of_ble_eq_true rfl) (fun p e s m below meth c X hr hlk hb hK hC hG ls hl => ?_)
  have hS : va_S (fun _ : Nat => False) s.heap s.heap [] := va_S.rf
  have hl : lv_has ls 2 [(0, .int x0), (1, .ref a1)] := hl
  refine lv_iload_n X.1 X.2.1 dX12_hasLine_0 rfl (lv_at hl 0 rfl) ?_
  refine lv_aload_n X.1 X.2.1 dX12_hasLine_1 rfl (lv_at hl 1 rfl) ?_
  refine ca_X12_longestIn_1 X hK hG hC (fun _ h => h.elim) hS hb hp4 x0 a1 h1 wl_7_199 hl.1 (rest := []) rfl (Nat.le_of_ble_eq_true rfl) ⟨Nat.le_of_ble_eq_true rfl, Nat.le_of_ble_eq_true rfl⟩ ⟨Nat.le_of_ble_eq_true rfl, Nat.le_of_ble_eq_true rfl⟩ dX12_hasLine_2 (fun f1 locs hf1 hS => ?_)
  refine lv_aload_n X.1 X.2.1 dX12_hasLine_5 rfl (lv_at hl 1 rfl) ?_
  refine lv_iconst (v := 2) X.1 X.2.1 dX12_hasLine_6 (by decide +kernel) ?_
  refine al_49 X hK hG h1 (iv_vpin (iv_c 2 (a := 2) (b := 2) (by decide +kernel)) (by decide +kernel)) dX12_hasLine_7 (fun f2 hf2 => ?_)
  have of2 := hf2
  have hf2 : iv 2 5 f2 := sg_r1 hp4 hf2 (iv_c 2 (a := 2) (b := 2) (by decide +kernel)) (by decide +kernel) rfl
  refine lv_icmp_lt (tgt := 15) X.1 X.2.1 dX12_hasLine_8 (by decide) (fun c3 => ?_) (fun c3 => ?_)
  · refine lv_iconst (v := 0) X.1 X.2.1 dX12_hasLine_15 (by decide +kernel) ?_
    exact sg_zretP X hr (sg_zn (iv_of (iv_c 0 (a := 0) (b := 0) (by decide +kernel)) (a' := 0) (b' := 1) (by decide +kernel))) hlk hS (iv_of (iv_c 0 (a := 0) (b := 0) (by decide +kernel)) (a' := 0) (b' := 1) (by decide +kernel)) dX12_hasLine_16
  · refine lv_iconst (v := 1) X.1 X.2.1 dX12_hasLine_11 (by decide +kernel) ?_
    refine lv_goto (tgt := 16) X.1 X.2.1 dX12_hasLine_12 (by decide) ?_
    exact sg_zretP X hr (sg_zn (iv_of (iv_c 1 (a := 1) (b := 1) (by decide +kernel)) (a' := 0) (b' := 1) (by decide +kernel))) hlk hS (iv_of (iv_c 1 (a := 1) (b := 1) (by decide +kernel)) (a' := 0) (b' := 1) (by decide +kernel)) dX12_hasLine_16

theorem ca_X12_hasLine_1   (X : CallFix p m c cc nL s args sg_tbl own) (hK : va_K D vwCl tys s) (hG : sgG (KT P) D vwCl (fun q : Nat => base ≤ q) tys ad ks H) (hC : sgC base s) (hA : ∀ q : Nat, A q → base ≤ q) (hS : va_S A s.heap H locs) (hb : base ≤ s.heap.size) (hp4 : P.2.2.2.2.1 = true) (x0 : Int32) (a1 : Nat) (h1 : isK ad ks 49 a1) (hl : Cond.methodLink own index yX12_hasLine ∈ sg_tbl) (hsize : ls.size = nL) (hst : st0 = [.int x0, .ref a1].reverse ++ rest) (hW : (rest.map fun v => v.category).sum ≤ 8) (hR : 4 ≤ R.frames ∧ 94 ≤ R.locals) (hf : cells ≤ R.cells ∧ slots ≤ R.slots) (hdg : decode cc pc = .ok (.invokestatic index, 3)) (kk : ∀ (r : Int32) (locs1 : List Loc), (fun r : Int32 => iv 0 1 r) r → va_S A s.heap H locs1 → W p l e R s m args below meth c H locs1 cells slots Q (F0 m (pc + 3) ls (.int r :: rest))) : W p l e R s m args below meth c H locs cells slots Q (F0 m pc ls st0) :=
  sg_callPSi X hK hG hC hA hS hb (m_X12_hasLine_1 l hp4 x0 a1 h1) wl_7_198 wl_1_13 wl_7_197 (n := 2) (by decide +kernel) rfl rfl rfl hl hsize hst hW hR hf hdg kk

set_option maxHeartbeats 8000000 in
set_option maxRecDepth 100000 in
theorem m_X12_around_1 (l : Launch) {D : va_G} {base : Nat} {tys : List (ClassId × FieldType)} {ad ks : List Nat} {P : sgPm} {Hx : Heap} (hp4 : P.2.2.2.2.1 = true) (a0 : Nat) (h0 : isK ad ks 12 a0) (x1 : Int32) (x2 : Int32) : sgPi l (KT P) D vwCl base tys ad ks Hx yX12_around cX12_around 6 (some .int) ({ frames := 1, cells := 0, slots := 0, locals := 21 }) [.ref a0, .int x1, .int x2] (fun r : Int32 => iv 0 30 r) := by
  refine sg_ofP (Pq := fun Hx => va_Qi (fun r (_ : Unit) => (fun r : Int32 => iv 0 30 r) r) (fun _ t => t.heap = Hx) (fun _ : Nat => False)) (by decide +kernel) (Nat.le_of_ble_eq_true rfl) (fun p e s m below meth c X hr hlk hb hK hC hG ls hl => ?_)
  have hS : va_S (fun _ : Nat => False) s.heap s.heap [] := va_S.rf
  have hl : lv_has ls 6 [(0, .ref a0), (1, .int x1), (2, .int x2)] := hl
  refine lv_iconst (v := 0) X.1 X.2.1 dX12_around_0 (by decide +kernel) ?_
  refine lv_istore_n (lv' := [(3, .int 0), (0, .ref a0), (1, .int x1), (2, .int x2)]) X.1 X.2.1 dX12_around_1 rfl hl (by decide) rfl (fun ls hl => ?_)
  refine lv_iconst (v := 0) X.1 X.2.1 dX12_around_2 (by decide +kernel) ?_
  refine lv_istore (lv' := [(4, .int 0), (3, .int 0), (0, .ref a0), (1, .int x1), (2, .int x2)]) X.1 X.2.1 dX12_around_3 hl (by decide) rfl (fun ls hl => ?_)
  have B1_5 : ∀ (N : Nat) (locs : List Loc) (ls : Array Slot) (z1_3 : Int32) (z1_4 : Int32), va_S (fun _ : Nat => False) s.heap s.heap locs → lv_has ls 6 [(0, .ref a0), (1, .int x1), (2, .int x2), (3, .int z1_3), (4, .int z1_4)] → iv 0 30 z1_3 → iv 0 30 z1_4 → z1_3.toInt ≤ z1_4.toInt → (31 - z1_4.toInt).toNat ≤ N → W p l e (headSpec (Cond.code yX12_around cX12_around 6 (some .int) :: sg_tbl) ({ frames := 1, cells := 0, slots := 0, locals := 21 })).room s m #[.ref a0, .int x1, .int x2] below meth c s.heap locs 0 0 (MQ below (va_Qi (fun r (_ : Unit) => (fun r : Int32 => iv 0 30 r) r) (fun _ t => t.heap = s.heap) (fun _ : Nat => False)) #[.ref a0, .int x1, .int x2] s 0 0 (fun _ : Nat => False)) (F0 m 5 ls []) := by
    intro N; induction N with
    | zero =>
      intro locs ls z1_3 z1_4 hS hl hz1_3 hz1_4 xf1 hN
      exact absurd hN (by have := iv_up hz1_4; omega)
    | succ N ih1 =>
      intro locs ls z1_3 z1_4 hS hl hz1_3 hz1_4 xf1 hN1
      refine lv_iload X.1 X.2.1 dX12_around_5 (lv_at hl 4 rfl) ?_
      refine lv_aload_n X.1 X.2.1 dX12_around_7 rfl (lv_at hl 0 rfl) ?_
      refine gf_X12_23s X hK hG h0 hp4 wl_6_201 dX12_around_8 (fun f2 hf2 kf2 => ?_)
      refine lv_icmp_ge (tgt := 105) X.1 X.2.1 dX12_around_11 (by decide) (fun c3 => ?_) (fun c3 => ?_)
      · refine lv_iload_n X.1 X.2.1 dX12_around_105 rfl (lv_at hl 3 rfl) ?_
        exact sg_iretP X hr hlk hS hz1_3 dX12_around_106
      · refine lv_iload X.1 X.2.1 dX12_around_14 (lv_at hl 4 rfl) ?_
        refine lv_iload_n X.1 X.2.1 dX12_around_16 rfl (lv_at hl 2 rfl) ?_
        have B5_75 : ∀ (locs : List Loc) (ls : Array Slot) (w5_0 : Int32), va_S (fun _ : Nat => False) s.heap s.heap locs → lv_has ls 6 [(0, .ref a0), (1, .int x1), (2, .int x2), (3, .int z1_3), (4, .int z1_4)] → iv 0 1 w5_0 → W p l e (headSpec (Cond.code yX12_around cX12_around 6 (some .int) :: sg_tbl) ({ frames := 1, cells := 0, slots := 0, locals := 21 })).room s m #[.ref a0, .int x1, .int x2] below meth c s.heap locs 0 0 (MQ below (va_Qi (fun r (_ : Unit) => (fun r : Int32 => iv 0 30 r) r) (fun _ t => t.heap = s.heap) (fun _ : Nat => False)) #[.ref a0, .int x1, .int x2] s 0 0 (fun _ : Nat => False)) (F0 m 75 ls [.int w5_0]) := by
          intro locs ls w5_0 hS hl hw5_0
          refine lv_istore (lv' := [(5, .int w5_0), (0, .ref a0), (1, .int x1), (2, .int x2), (3, .int z1_3), (4, .int z1_4)]) X.1 X.2.1 dX12_around_75 hl (by decide) rfl (fun ls hl => ?_)
          refine lv_iload_n X.1 X.2.1 dX12_around_77 rfl (lv_at hl 4 rfl) ?_
          refine lv_iload X.1 X.2.1 dX12_around_78 (lv_at hl 0 rfl) ?_
          have B7_97 : ∀ (locs : List Loc) (ls : Array Slot) (w7_0 : Int32), va_S (fun _ : Nat => False) s.heap s.heap locs → lv_has ls 6 [(0, .ref a0), (1, .int x1), (2, .int x2), (4, .int z1_4)] → iv 0 1 w7_0 → W p l e (headSpec (Cond.code yX12_around cX12_around 6 (some .int) :: sg_tbl) ({ frames := 1, cells := 0, slots := 0, locals := 21 })).room s m #[.ref a0, .int x1, .int x2] below meth c s.heap locs 0 0 (MQ below (va_Qi (fun r (_ : Unit) => (fun r : Int32 => iv 0 30 r) r) (fun _ t => t.heap = s.heap) (fun _ : Nat => False)) #[.ref a0, .int x1, .int x2] s 0 0 (fun _ : Nat => False)) (F0 m 97 ls [.int w7_0, .int z1_3]) := by
            intro locs ls w7_0 hS hl hw7_0
            refine lv_iadd X.1 X.2.1 dX12_around_97 ?_
            refine lv_topi (fun f8 ef8 => ?_)
            refine lv_istore_n (lv' := [(3, .int f8), (0, .ref a0), (1, .int x1), (2, .int x2), (4, .int z1_4)]) X.1 X.2.1 dX12_around_98 rfl hl (by decide) rfl (fun ls hl => ?_)
            obtain ⟨y9, ey9⟩ : ∃ y : Int32, y = z1_4 + Int32.ofInt 1 := ⟨_, rfl⟩
            refine lv_iinc (v := y9) (lv' := [(4, .int y9), (3, .int f8), (0, .ref a0), (1, .int x1), (2, .int x2)]) X.1 X.2.1 dX12_around_99 hl (k := 4) rfl ey9.symm (by decide) rfl (fun ls hl => ?_)
            refine lv_goto (tgt := 5) X.1 X.2.1 dX12_around_102 (by decide) ?_
            have bq10 : 0 ≤ z1_3.toInt ∧ z1_3.toInt ≤ 30 := hz1_3
            have bq11 : 0 ≤ w7_0.toInt ∧ w7_0.toInt ≤ 1 := hw7_0
            have xf8 : f8.toInt = z1_3.toInt + w7_0.toInt := sg_exadd ef8 hz1_3 hw7_0 (by decide +kernel) rfl rfl
            have bq12 : 0 ≤ z1_4.toInt ∧ z1_4.toInt ≤ 29 := (iv_lt (b' := 29) (iv_gt_of c3) hz1_4 hf2 (by decide +kernel))
            have xy9 : y9.toInt = z1_4.toInt + 1 := sg_inc (k := 1) ey9 (iv_lt (b' := 29) (iv_gt_of c3) hz1_4 hf2 (by decide +kernel)) (by decide +kernel)
            exact ih1 _ _ f8 y9 hS (lv_sub hl [2, 3, 4, 1, 0] rfl) ⟨by omega, by omega⟩ (iv_of (iv_add (a' := 1) (b' := 30) ey9 (iv_lt (b' := 29) (iv_gt_of c3) hz1_4 hf2 (by decide +kernel)) (iv_c _ (a := 1) (b := 1) (by decide +kernel)) (by decide +kernel)) (a' := 0) (b' := 30) (by decide +kernel)) (by omega) (iv_stepU ey9 (iv_lt (b' := 29) (iv_gt_of c3) hz1_4 hf2 (by decide +kernel)) (by decide +kernel) hN1)
          have B13_96 : ∀ (locs : List Loc) (ls : Array Slot), va_S (fun _ : Nat => False) s.heap s.heap locs → lv_has ls 6 [(0, .ref a0), (1, .int x1), (2, .int x2), (4, .int z1_4)] → W p l e (headSpec (Cond.code yX12_around cX12_around 6 (some .int) :: sg_tbl) ({ frames := 1, cells := 0, slots := 0, locals := 21 })).room s m #[.ref a0, .int x1, .int x2] below meth c s.heap locs 0 0 (MQ below (va_Qi (fun r (_ : Unit) => (fun r : Int32 => iv 0 30 r) r) (fun _ t => t.heap = s.heap) (fun _ : Nat => False)) #[.ref a0, .int x1, .int x2] s 0 0 (fun _ : Nat => False)) (F0 m 96 ls [.int z1_3]) := by
            intro locs ls hS hl
            refine lv_iconst (v := 0) X.1 X.2.1 dX12_around_96 (by decide +kernel) ?_
            exact B7_97 _ _ 0 hS (lv_sub hl [0, 1, 2, 3] rfl) (iv_of (iv_c 0 (a := 0) (b := 0) (by decide +kernel)) (a' := 0) (b' := 1) (by decide +kernel))
          refine lv_if_eq (tgt := 96) X.1 X.2.1 dX12_around_80 (by decide) (fun c6 => ?_) (fun c6 => ?_)
          · exact B13_96 _ _ hS (lv_sub hl [1, 2, 3, 5] rfl)
          · refine lv_iload_n X.1 X.2.1 dX12_around_83 rfl (lv_at hl 2 rfl) ?_
            refine lv_iload X.1 X.2.1 dX12_around_84 (lv_at hl 5 rfl) ?_
            refine ca_X12_has X hK hG hC (fun _ h => h.elim) hS hb x1 z1_4 wl_7_174 hl.1 (rest := [.int z1_3]) rfl (Nat.le_of_ble_eq_true rfl) ⟨Nat.le_of_ble_eq_true rfl, Nat.le_of_ble_eq_true rfl⟩ ⟨Nat.le_of_ble_eq_true rfl, Nat.le_of_ble_eq_true rfl⟩ dX12_around_86 (fun f14 locs hf14 hS => ?_)
            refine lv_if_eq (tgt := 96) X.1 X.2.1 dX12_around_89 (by decide) (fun c15 => ?_) (fun c15 => ?_)
            · exact B13_96 _ _ hS (lv_sub hl [1, 2, 3, 5] rfl)
            · refine lv_iconst (v := 1) X.1 X.2.1 dX12_around_92 (by decide +kernel) ?_
              refine lv_goto (tgt := 97) X.1 X.2.1 dX12_around_93 (by decide) ?_
              exact B7_97 _ _ 1 hS (lv_sub hl [1, 2, 3, 5] rfl) (iv_of (iv_c 1 (a := 1) (b := 1) (by decide +kernel)) (a' := 0) (b' := 1) (by decide +kernel))
        have B16_74 : ∀ (locs : List Loc) (ls : Array Slot), va_S (fun _ : Nat => False) s.heap s.heap locs → lv_has ls 6 [(0, .ref a0), (1, .int x1), (2, .int x2), (3, .int z1_3), (4, .int z1_4)] → W p l e (headSpec (Cond.code yX12_around cX12_around 6 (some .int) :: sg_tbl) ({ frames := 1, cells := 0, slots := 0, locals := 21 })).room s m #[.ref a0, .int x1, .int x2] below meth c s.heap locs 0 0 (MQ below (va_Qi (fun r (_ : Unit) => (fun r : Int32 => iv 0 30 r) r) (fun _ t => t.heap = s.heap) (fun _ : Nat => False)) #[.ref a0, .int x1, .int x2] s 0 0 (fun _ : Nat => False)) (F0 m 74 ls []) := by
          intro locs ls hS hl
          refine lv_iconst (v := 0) X.1 X.2.1 dX12_around_74 (by decide +kernel) ?_
          exact B5_75 _ _ 0 hS (lv_sub hl [0, 1, 2, 3, 4] rfl) (iv_of (iv_c 0 (a := 0) (b := 0) (by decide +kernel)) (a' := 0) (b' := 1) (by decide +kernel))
        refine lv_icmp_eq (tgt := 74) X.1 X.2.1 dX12_around_17 (by decide) (fun c4 => ?_) (fun c4 => ?_)
        · exact B16_74 _ _ hS (lv_sub hl [0, 1, 2, 3, 4] rfl)
        · refine lv_iload X.1 X.2.1 dX12_around_20 (lv_at hl 4 rfl) ?_
          refine lv_aload_n X.1 X.2.1 dX12_around_22 rfl (lv_at hl 0 rfl) ?_
          refine gf_X12_18 X hK hG h0 wl_6_196 dX12_around_23 (fun q17 hq17 kq17 => ?_)
          refine lv_iconst (v := 0) X.1 X.2.1 dX12_around_26 (by decide +kernel) ?_
          refine al_49 X hK hG hq17 (iv_vpin (iv_c 0 (a := 0) (b := 0) (by decide +kernel)) (by decide +kernel)) dX12_around_27 (fun f18 hf18 => ?_)
          have of18 := hf18
          have hf18 : iv 1 6 f18 := sg_r1 hp4 hf18 (iv_c 0 (a := 0) (b := 0) (by decide +kernel)) (by decide +kernel) rfl
          refine lv_irem X.1 X.2.1 dX12_around_28 (iv_ne0 hf18 (by decide +kernel)) ?_
          refine lv_topi (fun f19 ef19 => ?_)
          refine lv_iload_n X.1 X.2.1 dX12_around_29 rfl (lv_at hl 2 rfl) ?_
          refine lv_aload_n X.1 X.2.1 dX12_around_30 rfl (lv_at hl 0 rfl) ?_
          refine gg_X12_18 X hK hG h0 wl_6_196 kq17 dX12_around_31 ?_
          refine lv_iconst (v := 0) X.1 X.2.1 dX12_around_34 (by decide +kernel) ?_
          refine al_49 X hK hG hq17 (iv_vpin (iv_c 0 (a := 0) (b := 0) (by decide +kernel)) (by decide +kernel)) dX12_around_35 (fun f20 hf20 => ?_)
          have of20 := hf20
          have hf20 : iv 1 6 f20 := sg_r1 hp4 hf20 (iv_c 0 (a := 0) (b := 0) (by decide +kernel)) (by decide +kernel) rfl
          refine lv_irem X.1 X.2.1 dX12_around_36 (iv_ne0 hf20 (by decide +kernel)) ?_
          refine lv_topi (fun f21 ef21 => ?_)
          refine lv_isub X.1 X.2.1 dX12_around_37 ?_
          refine lv_topi (fun f22 ef22 => ?_)
          refine va_mabs X.1 X.2.1 (X.2.2.1.trans hl.1.symm) X.2.2.2.1 (X.2.2.2.2 _ wl_8_63) (X.2.2.2.2 _ wl_6_11) (X.2.2.2.2 _ wl_1_15) (X.2.2.2.2 _ wl_6_12) (Nat.le_of_ble_eq_true rfl) (Nat.le_of_ble_eq_true rfl) (Nat.le_of_ble_eq_true rfl) (Nat.le_of_ble_eq_true rfl) dX12_around_38 ?_
          refine lv_topi (fun f23 ef23 => ?_)
          refine lv_iconst (v := 2) X.1 X.2.1 dX12_around_41 (by decide +kernel) ?_
          refine lv_icmp_ge (tgt := 74) X.1 X.2.1 dX12_around_42 (by decide) (fun c24 => ?_) (fun c24 => ?_)
          · exact B16_74 _ _ hS (lv_sub hl [0, 1, 2, 3, 4] rfl)
          · refine lv_iload X.1 X.2.1 dX12_around_45 (lv_at hl 4 rfl) ?_
            refine lv_aload_n X.1 X.2.1 dX12_around_47 rfl (lv_at hl 0 rfl) ?_
            refine gg_X12_18 X hK hG h0 wl_6_196 kq17 dX12_around_48 ?_
            refine lv_iconst (v := 0) X.1 X.2.1 dX12_around_51 (by decide +kernel) ?_
            refine al_49 X hK hG hq17 (iv_vpin (iv_c 0 (a := 0) (b := 0) (by decide +kernel)) (by decide +kernel)) dX12_around_52 (fun f25 hf25 => ?_)
            have of25 := hf25
            have hf25 : iv 1 6 f25 := sg_r1 hp4 hf25 (iv_c 0 (a := 0) (b := 0) (by decide +kernel)) (by decide +kernel) rfl
            refine lv_idiv X.1 X.2.1 dX12_around_53 (iv_ne0 hf25 (by decide +kernel)) ?_
            refine lv_topi (fun f26 ef26 => ?_)
            refine lv_iload_n X.1 X.2.1 dX12_around_54 rfl (lv_at hl 2 rfl) ?_
            refine lv_aload_n X.1 X.2.1 dX12_around_55 rfl (lv_at hl 0 rfl) ?_
            refine gg_X12_18 X hK hG h0 wl_6_196 kq17 dX12_around_56 ?_
            refine lv_iconst (v := 0) X.1 X.2.1 dX12_around_59 (by decide +kernel) ?_
            refine al_49 X hK hG hq17 (iv_vpin (iv_c 0 (a := 0) (b := 0) (by decide +kernel)) (by decide +kernel)) dX12_around_60 (fun f27 hf27 => ?_)
            have of27 := hf27
            have hf27 : iv 1 6 f27 := sg_r1 hp4 hf27 (iv_c 0 (a := 0) (b := 0) (by decide +kernel)) (by decide +kernel) rfl
            refine lv_idiv X.1 X.2.1 dX12_around_61 (iv_ne0 hf27 (by decide +kernel)) ?_
            refine lv_topi (fun f28 ef28 => ?_)
            refine lv_isub X.1 X.2.1 dX12_around_62 ?_
            refine lv_topi (fun f29 ef29 => ?_)
            refine va_mabs X.1 X.2.1 (X.2.2.1.trans hl.1.symm) X.2.2.2.1 (X.2.2.2.2 _ wl_8_63) (X.2.2.2.2 _ wl_6_11) (X.2.2.2.2 _ wl_1_15) (X.2.2.2.2 _ wl_6_12) (Nat.le_of_ble_eq_true rfl) (Nat.le_of_ble_eq_true rfl) (Nat.le_of_ble_eq_true rfl) (Nat.le_of_ble_eq_true rfl) dX12_around_63 ?_
            refine lv_topi (fun f30 ef30 => ?_)
            refine lv_iconst (v := 2) X.1 X.2.1 dX12_around_66 (by decide +kernel) ?_
            refine lv_icmp_ge (tgt := 74) X.1 X.2.1 dX12_around_67 (by decide) (fun c31 => ?_) (fun c31 => ?_)
            · exact B16_74 _ _ hS (lv_sub hl [0, 1, 2, 3, 4] rfl)
            · refine lv_iconst (v := 1) X.1 X.2.1 dX12_around_70 (by decide +kernel) ?_
              refine lv_goto (tgt := 75) X.1 X.2.1 dX12_around_71 (by decide) ?_
              exact B5_75 _ _ 1 hS (lv_sub hl [0, 1, 2, 3, 4] rfl) (iv_of (iv_c 1 (a := 1) (b := 1) (by decide +kernel)) (a' := 0) (b' := 1) (by decide +kernel))
  have cq32 : (0 : Int32).toInt = 0 := by decide +kernel
  exact B1_5 _ _ _ 0 0 hS (lv_sub hl [2, 3, 4, 1, 0] rfl) (iv_of (iv_c 0 (a := 0) (b := 0) (by decide +kernel)) (a' := 0) (b' := 30) (by decide +kernel)) (iv_of (iv_c 0 (a := 0) (b := 0) (by decide +kernel)) (a' := 0) (b' := 30) (by decide +kernel)) (by omega) (Nat.le_refl _)

theorem ca_X12_around_1   (X : CallFix p m c cc nL s args sg_tbl own) (hK : va_K D vwCl tys s) (hG : sgG (KT P) D vwCl (fun q : Nat => base ≤ q) tys ad ks H) (hC : sgC base s) (hA : ∀ q : Nat, A q → base ≤ q) (hS : va_S A s.heap H locs) (hb : base ≤ s.heap.size) (hp4 : P.2.2.2.2.1 = true) (a0 : Nat) (h0 : isK ad ks 12 a0) (x1 : Int32) (x2 : Int32) (hl : Cond.methodLink own index yX12_around ∈ sg_tbl) (hsize : ls.size = nL) (hst : st0 = [.int x1, .int x2].reverse ++ .ref a0 :: rest) (hW : (rest.map fun v => v.category).sum ≤ 8) (hR : 2 ≤ R.frames ∧ 46 ≤ R.locals) (hf : cells ≤ R.cells ∧ slots ≤ R.slots) (hdg : decode cc pc = .ok (.invokevirtual index, 3)) (kk : ∀ (r : Int32) (locs1 : List Loc), (fun r : Int32 => iv 0 30 r) r → va_S A s.heap H locs1 → W p l e R s m args below meth c H locs1 cells slots Q (F0 m (pc + 3) ls (.int r :: rest))) : W p l e R s m args below meth c H locs cells slots Q (F0 m pc ls st0) :=
  sg_callPVi X hK hG hC hA hS hb (m_X12_around_1 l hp4 a0 h0 x1 x2) h0 (k := 12) (ci := 12) rfl (C := RX12) (T := TX12) (N := 53) rfl wl_8_62 wl_1_13 wl_8_61 wl_0_73 (n := 2) (by decide +kernel) rfl rfl rfl hl hsize hst hW hR hf hdg kk

set_option maxHeartbeats 8000000 in
set_option maxRecDepth 100000 in
theorem m_X12_copy_t (l : Launch) {D : va_G} {base : Nat} {tys : List (ClassId × FieldType)} {ad ks : List Nat} {P : sgPm} (a0 : Nat) (h0 : isK ad ks 54 a0) (a1 : Nat) (h1 : isK ad ks 55 a1) : sgMv l (KT P) D vwCl base tys ad ks yX12_copy cX12_copy 4 none ({ frames := 0, cells := 0, slots := 0, locals := 0 }) [.ref a0, .ref a1] := by
  refine sg_ofW (by decide +kernel) (Nat.le_of_ble_eq_true rfl) (fun p e s m below meth c X hr hlk hb hK hC hG ls hl => ?_)
  have hS : va_S (fun q : Nat => base ≤ q) s.heap s.heap [] := va_S.rf
  have hl : lv_has ls 4 [(0, .ref a0), (1, .ref a1)] := hl
  refine lv_bipush (v := 9) X.1 X.2.1 dX12_copy_0 (by decide +kernel) ?_
  refine lv_iconst (v := 4) X.1 X.2.1 dX12_copy_2 (by decide +kernel) ?_
  refine lv_aload_n X.1 X.2.1 dX12_copy_3 rfl (lv_at hl 0 rfl) ?_
  refine lv_bipush (v := 8) X.1 X.2.1 dX12_copy_4 (by decide +kernel) ?_
  refine al_54 X hK hG h0 (iv_vpin (iv_c 8 (a := 8) (b := 8) (by decide +kernel)) (by decide +kernel)) dX12_copy_6 (fun f1 hf1 => ?_)
  have hf1 := sg_nw_now hf1
  have of1 := hf1
  have hf1 : iv 0 60 f1 := sg_sp_now hf1 (iv_c 8 (a := 8) (b := 8) (by decide +kernel)) (by decide +kernel) rfl
  refine lv_imul X.1 X.2.1 dX12_copy_7 ?_
  refine lv_topi (fun f2 ef2 => ?_)
  refine lv_iadd X.1 X.2.1 dX12_copy_8 ?_
  refine lv_topi (fun f3 ef3 => ?_)
  refine lv_istore_n (lv' := [(2, .int f3), (0, .ref a0), (1, .ref a1)]) X.1 X.2.1 dX12_copy_9 rfl hl (by decide) rfl (fun ls hl => ?_)
  refine lv_iconst (v := 0) X.1 X.2.1 dX12_copy_10 (by decide +kernel) ?_
  refine lv_istore_n (lv' := [(3, .int 0), (2, .int f3), (0, .ref a0), (1, .ref a1)]) X.1 X.2.1 dX12_copy_11 rfl hl (by decide) rfl (fun ls hl => ?_)
  have B4_12 : ∀ (N : Nat) (H : Heap) (locs : List Loc) (ls : Array Slot) (z4_3 : Int32), sgG (KT P) D vwCl (fun q : Nat => base ≤ q) tys ad ks H → va_S (fun q : Nat => base ≤ q) s.heap H locs → lv_has ls 4 [(0, .ref a0), (1, .ref a1), (2, .int f3), (3, .int z4_3)] → iv 0 249 z4_3 → (250 - z4_3.toInt).toNat ≤ N → W p l e (headSpec (Cond.code yX12_copy cX12_copy 4 none :: sg_tbl) ({ frames := 0, cells := 0, slots := 0, locals := 0 })).room s m #[.ref a0, .ref a1] below meth c H locs 0 0 (MQ below (va_Qv (fun (_ : Unit) => True) (fun _ => sgB (KT P) D vwCl base tys ad ks) (fun q : Nat => base ≤ q)) #[.ref a0, .ref a1] s 0 0 (fun q : Nat => base ≤ q)) (F0 m 12 ls []) := by
    intro N; induction N with
    | zero =>
      intro H locs ls z4_3 hG hS hl hz4_3 hN
      exact absurd hN (by have := iv_up hz4_3; omega)
    | succ N ih4 =>
      intro H locs ls z4_3 hG hS hl hz4_3 hN4
      refine lv_iload_n X.1 X.2.1 dX12_copy_12 rfl (lv_at hl 3 rfl) ?_
      refine lv_iload_n X.1 X.2.1 dX12_copy_13 rfl (lv_at hl 2 rfl) ?_
      refine lv_icmp_ge (tgt := 29) X.1 X.2.1 dX12_copy_14 (by decide) (fun c5 => ?_) (fun c5 => ?_)
      · exact sg_vret X hr hlk hb hK hC hG hS dX12_copy_29
      · refine lv_aload_n X.1 X.2.1 dX12_copy_17 rfl (lv_at hl 1 rfl) ?_
        refine lv_iload_n X.1 X.2.1 dX12_copy_18 rfl (lv_at hl 3 rfl) ?_
        refine lv_aload_n X.1 X.2.1 dX12_copy_19 rfl (lv_at hl 0 rfl) ?_
        refine lv_iload_n X.1 X.2.1 dX12_copy_20 rfl (lv_at hl 3 rfl) ?_
        refine al_54 X hK hG h0 (iv_vpin (iv_lt (b' := 248) (iv_gt_of c5) hz4_3 (iv_add (a' := 9) (b' := 249) ef3 (iv_c 9 (a := 9) (b := 9) (by decide +kernel)) (iv_mul (a' := 0) (b' := 240) ef2 (iv_c 4 (a := 4) (b := 4) (by decide +kernel)) hf1 (by decide +kernel)) (by decide +kernel)) (by decide +kernel)) (by decide +kernel)) dX12_copy_21 (fun f6 hf6 => ?_)
        have hf6 := sg_nw_now hf6
        have of6 := hf6
        have hf6 : iv (-2147483648) 2147483647 f6 := sg_spa_now hf6
        refine as_55 X hK hG hS h1 (iv_vpin (iv_lt (b' := 248) (iv_gt_of c5) hz4_3 (iv_add (a' := 9) (b' := 249) ef3 (iv_c 9 (a := 9) (b := 9) (by decide +kernel)) (iv_mul (a' := 0) (b' := 240) ef2 (iv_c 4 (a := 4) (b := 4) (by decide +kernel)) hf1 (by decide +kernel)) (by decide +kernel)) (by decide +kernel)) (by decide +kernel)) of6 dX12_copy_22 (fun H locs hG hS ru7 => ?_)
        obtain ⟨y8, ey8⟩ : ∃ y : Int32, y = z4_3 + Int32.ofInt 1 := ⟨_, rfl⟩
        refine lv_iinc (v := y8) (lv' := [(3, .int y8), (0, .ref a0), (1, .ref a1), (2, .int f3)]) X.1 X.2.1 dX12_copy_23 hl (k := 3) rfl ey8.symm (by decide) rfl (fun ls hl => ?_)
        refine lv_goto (tgt := 12) X.1 X.2.1 dX12_copy_26 (by decide) ?_
        exact ih4 H _ _ y8 hG hS (lv_sub hl [1, 2, 3, 0] rfl) (iv_of (iv_add (a' := 1) (b' := 249) ey8 (iv_lt (b' := 248) (iv_gt_of c5) hz4_3 (iv_add (a' := 9) (b' := 249) ef3 (iv_c 9 (a := 9) (b := 9) (by decide +kernel)) (iv_mul (a' := 0) (b' := 240) ef2 (iv_c 4 (a := 4) (b := 4) (by decide +kernel)) hf1 (by decide +kernel)) (by decide +kernel)) (by decide +kernel)) (iv_c _ (a := 1) (b := 1) (by decide +kernel)) (by decide +kernel)) (a' := 0) (b' := 249) (by decide +kernel)) (iv_stepU ey8 (iv_lt (b' := 248) (iv_gt_of c5) hz4_3 (iv_add (a' := 9) (b' := 249) ef3 (iv_c 9 (a := 9) (b := 9) (by decide +kernel)) (iv_mul (a' := 0) (b' := 240) ef2 (iv_c 4 (a := 4) (b := 4) (by decide +kernel)) hf1 (by decide +kernel)) (by decide +kernel)) (by decide +kernel)) (by decide +kernel) hN4)
  exact B4_12 _ s.heap _ _ 0 hG hS (lv_sub hl [2, 3, 1, 0] rfl) (iv_of (iv_c 0 (a := 0) (b := 0) (by decide +kernel)) (a' := 0) (b' := 249) (by decide +kernel)) (Nat.le_refl _)

theorem ca_X12_copy_t   (X : CallFix p m c cc nL s args sg_tbl own) (hK : va_K D vwCl tys s) (hG : sgG (KT P) D vwCl (fun q : Nat => base ≤ q) tys ad ks H) (hC : sgC base s) (hS : va_S (fun q : Nat => base ≤ q) s.heap H locs) (hb : base ≤ s.heap.size) (a0 : Nat) (h0 : isK ad ks 54 a0) (a1 : Nat) (h1 : isK ad ks 55 a1) (hl : Cond.methodLink own index yX12_copy ∈ sg_tbl) (hsize : ls.size = nL) (hst : st0 = [.ref a0, .ref a1].reverse ++ rest) (hW : (rest.map fun v => v.category).sum ≤ 8) (hR : 1 ≤ R.frames ∧ 23 ≤ R.locals) (hf : cells ≤ R.cells ∧ slots ≤ R.slots) (hdg : decode cc pc = .ok (.invokestatic index, 3)) (kk : ∀ (H1 : Heap) (locs1 : List Loc), sgG (KT P) D vwCl (fun q : Nat => base ≤ q) tys ad ks H1 → va_S (fun q : Nat => base ≤ q) s.heap H1 locs1 → W p l e R s m args below meth c H1 locs1 cells slots Q (F0 m (pc + 3) ls rest)) : W p l e R s m args below meth c H locs cells slots Q (F0 m pc ls st0) :=
  sg_callSv X hK hG hC hS hb (m_X12_copy_t l a0 h0 a1 h1) wl_8_205 wl_1_13 wl_8_204 (n := 2) (by decide +kernel) rfl rfl rfl hl hsize hst hW hR hf hdg kk

set_option maxHeartbeats 8000000 in
set_option maxRecDepth 100000 in
theorem m_X12_isOpen_1 (l : Launch) {D : va_G} {base : Nat} {tys : List (ClassId × FieldType)} {ad ks : List Nat} {P : sgPm} {Hx : Heap} (hp4 : P.2.2.2.2.1 = true) (a0 : Nat) (h0 : isK ad ks 12 a0) (a1 : Nat) (h1 : isK ad ks 54 a1) : sgPi l (KT P) D vwCl base tys ad ks Hx yX12_isOpen cX12_isOpen 2 (some .boolean) ({ frames := 0, cells := 0, slots := 0, locals := 0 }) [.ref a0, .ref a1] (fun r : Int32 => iv 0 1 r) := by
  refine sg_ofP (Pq := fun Hx => va_Qi (fun r (_ : Unit) => (fun r : Int32 => iv 0 1 r) r) (fun _ t => t.heap = Hx) (fun _ : Nat => False)) (by decide +kernel) (Nat.le_of_ble_eq_true rfl) (fun p e s m below meth c X hr hlk hb hK hC hG ls hl => ?_)
  have hS : va_S (fun _ : Nat => False) s.heap s.heap [] := va_S.rf
  have hl : lv_has ls 2 [(0, .ref a0), (1, .ref a1)] := hl
  refine lv_aload_n X.1 X.2.1 dX12_isOpen_0 rfl (lv_at hl 0 rfl) ?_
  refine gf_X12_23s X hK hG h0 hp4 wl_6_201 dX12_isOpen_1 (fun f1 hf1 kf1 => ?_)
  have B3_17 : ∀ (locs : List Loc) (ls : Array Slot), va_S (fun _ : Nat => False) s.heap s.heap locs → lv_has ls 2 [] → W p l e (headSpec (Cond.code yX12_isOpen cX12_isOpen 2 (some .boolean) :: sg_tbl) ({ frames := 0, cells := 0, slots := 0, locals := 0 })).room s m #[.ref a0, .ref a1] below meth c s.heap locs 0 0 (MQ below (va_Qi (fun r (_ : Unit) => (fun r : Int32 => iv 0 1 r) r) (fun _ t => t.heap = s.heap) (fun _ : Nat => False)) #[.ref a0, .ref a1] s 0 0 (fun _ : Nat => False)) (F0 m 17 ls []) := by
    intro locs ls hS hl
    refine lv_iconst (v := 0) X.1 X.2.1 dX12_isOpen_17 (by decide +kernel) ?_
    exact sg_zretP X hr (sg_zn (iv_of (iv_c 0 (a := 0) (b := 0) (by decide +kernel)) (a' := 0) (b' := 1) (by decide +kernel))) hlk hS (iv_of (iv_c 0 (a := 0) (b := 0) (by decide +kernel)) (a' := 0) (b' := 1) (by decide +kernel)) dX12_isOpen_18
  refine lv_if_le (tgt := 17) X.1 X.2.1 dX12_isOpen_4 (by decide) (fun c2 => ?_) (fun c2 => ?_)
  · exact ((iv_no (iv_le (b' := 0) c2 hf1 (iv_c 0 (a := 0) (b := 0) (by decide +kernel)) (by decide +kernel)) (by decide +kernel))).elim
  · refine lv_aload_n X.1 X.2.1 dX12_isOpen_7 rfl (lv_at hl 1 rfl) ?_
    refine lv_iconst (v := 3) X.1 X.2.1 dX12_isOpen_8 (by decide +kernel) ?_
    refine al_54 X hK hG h1 (iv_vpin (iv_c 3 (a := 3) (b := 3) (by decide +kernel)) (by decide +kernel)) dX12_isOpen_9 (fun f4 hf4 => ?_)
    have hf4 := sg_nw_now hf4
    have of4 := hf4
    have hf4 : iv (-2147483648) 2147483647 f4 := sg_sp_now hf4 (iv_c 3 (a := 3) (b := 3) (by decide +kernel)) (by decide +kernel) rfl
    refine lv_if_ne (tgt := 17) X.1 X.2.1 dX12_isOpen_10 (by decide) (fun c5 => ?_) (fun c5 => ?_)
    · exact B3_17 _ _ hS (lv_sub hl [] rfl)
    · refine lv_iconst (v := 1) X.1 X.2.1 dX12_isOpen_13 (by decide +kernel) ?_
      refine lv_goto (tgt := 18) X.1 X.2.1 dX12_isOpen_14 (by decide) ?_
      exact sg_zretP X hr (sg_zn (iv_of (iv_c 1 (a := 1) (b := 1) (by decide +kernel)) (a' := 0) (b' := 1) (by decide +kernel))) hlk hS (iv_of (iv_c 1 (a := 1) (b := 1) (by decide +kernel)) (a' := 0) (b' := 1) (by decide +kernel)) dX12_isOpen_18

theorem ca_X12_isOpen_1   (X : CallFix p m c cc nL s args sg_tbl own) (hK : va_K D vwCl tys s) (hG : sgG (KT P) D vwCl (fun q : Nat => base ≤ q) tys ad ks H) (hC : sgC base s) (hA : ∀ q : Nat, A q → base ≤ q) (hS : va_S A s.heap H locs) (hb : base ≤ s.heap.size) (hp4 : P.2.2.2.2.1 = true) (a0 : Nat) (h0 : isK ad ks 12 a0) (a1 : Nat) (h1 : isK ad ks 54 a1) (hl : Cond.methodLink own index yX12_isOpen ∈ sg_tbl) (hsize : ls.size = nL) (hst : st0 = [.ref a1].reverse ++ .ref a0 :: rest) (hW : (rest.map fun v => v.category).sum ≤ 8) (hR : 1 ≤ R.frames ∧ 21 ≤ R.locals) (hf : cells ≤ R.cells ∧ slots ≤ R.slots) (hdg : decode cc pc = .ok (.invokevirtual index, 3)) (kk : ∀ (r : Int32) (locs1 : List Loc), (fun r : Int32 => iv 0 1 r) r → va_S A s.heap H locs1 → W p l e R s m args below meth c H locs1 cells slots Q (F0 m (pc + 3) ls (.int r :: rest))) : W p l e R s m args below meth c H locs cells slots Q (F0 m pc ls st0) :=
  sg_callPVi X hK hG hC hA hS hb (m_X12_isOpen_1 l hp4 a0 h0 a1 h1) h0 (k := 12) (ci := 12) rfl (C := RX12) (T := TX12) (N := 53) rfl wl_8_97 wl_1_13 wl_8_96 wl_0_77 (n := 1) (by decide +kernel) rfl rfl rfl hl hsize hst hW hR hf hdg kk

set_option maxHeartbeats 8000000 in
set_option maxRecDepth 100000 in
theorem m_X12_turns_1 (l : Launch) {D : va_G} {base : Nat} {tys : List (ClassId × FieldType)} {ad ks : List Nat} {P : sgPm} {Hx : Heap} (hp4 : P.2.2.2.2.1 = true) (a0 : Nat) (h0 : isK ad ks 12 a0) : sgPi l (KT P) D vwCl base tys ad ks Hx yX12_turns cX12_turns 1 (some .int) ({ frames := 0, cells := 0, slots := 0, locals := 0 }) [.ref a0] (fun r : Int32 => iv 4 8 r) := by
  refine sg_ofP (Pq := fun Hx => va_Qi (fun r (_ : Unit) => (fun r : Int32 => iv 4 8 r) r) (fun _ t => t.heap = Hx) (fun _ : Nat => False)) (by decide +kernel) (Nat.le_of_ble_eq_true rfl) (fun p e s m below meth c X hr hlk hb hK hC hG ls hl => ?_)
  have hS : va_S (fun _ : Nat => False) s.heap s.heap [] := va_S.rf
  have hl : lv_has ls 1 [(0, .ref a0)] := hl
  refine lv_aload_n X.1 X.2.1 dX12_turns_0 rfl (lv_at hl 0 rfl) ?_
  refine gf_X12_18 X hK hG h0 wl_6_196 dX12_turns_1 (fun q1 hq1 kq1 => ?_)
  refine lv_iconst (v := 0) X.1 X.2.1 dX12_turns_4 (by decide +kernel) ?_
  refine al_49 X hK hG hq1 (iv_vpin (iv_c 0 (a := 0) (b := 0) (by decide +kernel)) (by decide +kernel)) dX12_turns_5 (fun f2 hf2 => ?_)
  have of2 := hf2
  have hf2 : iv 1 6 f2 := sg_r1 hp4 hf2 (iv_c 0 (a := 0) (b := 0) (by decide +kernel)) (by decide +kernel) rfl
  refine lv_aload_n X.1 X.2.1 dX12_turns_6 rfl (lv_at hl 0 rfl) ?_
  refine gg_X12_18 X hK hG h0 wl_6_196 kq1 dX12_turns_7 ?_
  refine lv_iconst (v := 1) X.1 X.2.1 dX12_turns_10 (by decide +kernel) ?_
  refine al_49 X hK hG hq1 (iv_vpin (iv_c 1 (a := 1) (b := 1) (by decide +kernel)) (by decide +kernel)) dX12_turns_11 (fun f3 hf3 => ?_)
  have of3 := hf3
  have hf3 : iv 1 5 f3 := sg_r1 hp4 hf3 (iv_c 1 (a := 1) (b := 1) (by decide +kernel)) (by decide +kernel) rfl
  refine lv_icmp_ne (tgt := 20) X.1 X.2.1 dX12_turns_12 (by decide) (fun c4 => ?_) (fun c4 => ?_)
  · refine lv_iconst (v := 4) X.1 X.2.1 dX12_turns_20 (by decide +kernel) ?_
    exact sg_iretP X hr hlk hS (iv_of (iv_c 4 (a := 4) (b := 4) (by decide +kernel)) (a' := 4) (b' := 8) (by decide +kernel)) dX12_turns_21
  · refine lv_bipush (v := 8) X.1 X.2.1 dX12_turns_15 (by decide +kernel) ?_
    refine lv_goto (tgt := 21) X.1 X.2.1 dX12_turns_17 (by decide) ?_
    exact sg_iretP X hr hlk hS (iv_of (iv_c 8 (a := 8) (b := 8) (by decide +kernel)) (a' := 4) (b' := 8) (by decide +kernel)) dX12_turns_21

theorem ca_X12_turns_1   (X : CallFix p m c cc nL s args sg_tbl own) (hK : va_K D vwCl tys s) (hG : sgG (KT P) D vwCl (fun q : Nat => base ≤ q) tys ad ks H) (hC : sgC base s) (hA : ∀ q : Nat, A q → base ≤ q) (hS : va_S A s.heap H locs) (hb : base ≤ s.heap.size) (hp4 : P.2.2.2.2.1 = true) (a0 : Nat) (h0 : isK ad ks 12 a0) (hl : Cond.methodLink own index yX12_turns ∈ sg_tbl) (hsize : ls.size = nL) (hst : st0 = [].reverse ++ .ref a0 :: rest) (hW : (rest.map fun v => v.category).sum ≤ 8) (hR : 1 ≤ R.frames ∧ 20 ≤ R.locals) (hf : cells ≤ R.cells ∧ slots ≤ R.slots) (hdg : decode cc pc = .ok (.invokevirtual index, 3)) (kk : ∀ (r : Int32) (locs1 : List Loc), (fun r : Int32 => iv 4 8 r) r → va_S A s.heap H locs1 → W p l e R s m args below meth c H locs1 cells slots Q (F0 m (pc + 3) ls (.int r :: rest))) : W p l e R s m args below meth c H locs cells slots Q (F0 m pc ls st0) :=
  sg_callPVi X hK hG hC hA hS hb (m_X12_turns_1 l hp4 a0 h0) h0 (k := 12) (ci := 12) rfl (C := RX12) (T := TX12) (N := 53) rfl wl_9_111 wl_1_13 wl_9_110 wl_0_110 (n := 0) (by decide +kernel) rfl rfl rfl hl hsize hst hW hR hf hdg kk
end
