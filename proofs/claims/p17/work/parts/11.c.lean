abbrev cJ6_bitCount_0f7a4 : ByteArray := prog_20_method_49_code
def yJ6_bitCount_0f7a4 : MethodName := ⟨RJ6, "bitCount", "(I)I"⟩
abbrev cJ6_numberOfTrailingZeros_0f7a4 : ByteArray := prog_20_method_48_code
def yJ6_numberOfTrailingZeros_0f7a4 : MethodName := ⟨RJ6, "numberOfTrailingZeros", "(I)I"⟩
abbrev cJ7_fill_53178 : ByteArray := prog_30_method_103_code
def yJ7_fill_53178 : MethodName := ⟨RJ7, "fill", "([II)V"⟩
abbrev cX3_packed : ByteArray := prog_5_method_2_code
def yX3_packed : MethodName := ⟨RX3, "packed", "(IIII)I"⟩
abbrev cX3_unpacked : ByteArray := prog_5_method_3_code
def yX3_unpacked : MethodName := ⟨RX3, "unpacked", "(II)I"⟩
abbrev cX4_canCut : ByteArray := prog_6_method_21_code
def yX4_canCut : MethodName := ⟨RX4, "canCut", "(IIII)Z"⟩
abbrev cX4_cutBits : ByteArray := prog_6_method_20_code
def yX4_cutBits : MethodName := ⟨RX4, "cutBits", "(III)I"⟩
abbrev cX4_longestRow : ByteArray := prog_6_method_19_code
def yX4_longestRow : MethodName := ⟨RX4, "longestRow", "(I)I"⟩
abbrev cX4_mirroredBits : ByteArray := prog_6_method_24_code
def yX4_mirroredBits : MethodName := ⟨RX4, "mirroredBits", "(II)I"⟩
abbrev cX4_mirroredCell : ByteArray := prog_6_method_23_code
def yX4_mirroredCell : MethodName := ⟨RX4, "mirroredCell", "(II)I"⟩
abbrev cX4_mirroredLower : ByteArray := prog_6_method_25_code
def yX4_mirroredLower : MethodName := ⟨RX4, "mirroredLower", "(II)I"⟩
abbrev cX4_winners : ByteArray := prog_6_method_18_code
def yX4_winners : MethodName := ⟨RX4, "winners", "(I)I"⟩
theorem dJ6_bitCount_0f7a4_0 : decode cJ6_bitCount_0f7a4 0 = .ok (.iload_n 0, 1) := by decide +kernel
theorem dJ6_bitCount_0f7a4_1 : decode cJ6_bitCount_0f7a4 1 = .ok (.iload_n 0, 1) := by decide +kernel
theorem dJ6_bitCount_0f7a4_2 : decode cJ6_bitCount_0f7a4 2 = .ok (.iconst 1, 1) := by decide +kernel
theorem dJ6_bitCount_0f7a4_3 : decode cJ6_bitCount_0f7a4 3 = .ok (.iushr, 1) := by decide +kernel
theorem dJ6_bitCount_0f7a4_4 : decode cJ6_bitCount_0f7a4 4 = .ok (.ldc_w 265, 3) := by decide +kernel
theorem dJ6_bitCount_0f7a4_7 : decode cJ6_bitCount_0f7a4 7 = .ok (.iand, 1) := by decide +kernel
theorem dJ6_bitCount_0f7a4_8 : decode cJ6_bitCount_0f7a4 8 = .ok (.isub, 1) := by decide +kernel
theorem dJ6_bitCount_0f7a4_9 : decode cJ6_bitCount_0f7a4 9 = .ok (.istore_n 0, 1) := by decide +kernel
theorem dJ6_bitCount_0f7a4_10 : decode cJ6_bitCount_0f7a4 10 = .ok (.iload_n 0, 1) := by decide +kernel
theorem dJ6_bitCount_0f7a4_11 : decode cJ6_bitCount_0f7a4 11 = .ok (.ldc_w 266, 3) := by decide +kernel
theorem dJ6_bitCount_0f7a4_14 : decode cJ6_bitCount_0f7a4 14 = .ok (.iand, 1) := by decide +kernel
theorem dJ6_bitCount_0f7a4_15 : decode cJ6_bitCount_0f7a4 15 = .ok (.iload_n 0, 1) := by decide +kernel
theorem dJ6_bitCount_0f7a4_16 : decode cJ6_bitCount_0f7a4 16 = .ok (.iconst 2, 1) := by decide +kernel
theorem dJ6_bitCount_0f7a4_17 : decode cJ6_bitCount_0f7a4 17 = .ok (.iushr, 1) := by decide +kernel
theorem dJ6_bitCount_0f7a4_18 : decode cJ6_bitCount_0f7a4 18 = .ok (.ldc_w 266, 3) := by decide +kernel
theorem dJ6_bitCount_0f7a4_21 : decode cJ6_bitCount_0f7a4 21 = .ok (.iand, 1) := by decide +kernel
theorem dJ6_bitCount_0f7a4_22 : decode cJ6_bitCount_0f7a4 22 = .ok (.iadd, 1) := by decide +kernel
theorem dJ6_bitCount_0f7a4_23 : decode cJ6_bitCount_0f7a4 23 = .ok (.istore_n 0, 1) := by decide +kernel
theorem dJ6_bitCount_0f7a4_24 : decode cJ6_bitCount_0f7a4 24 = .ok (.iload_n 0, 1) := by decide +kernel
theorem dJ6_bitCount_0f7a4_25 : decode cJ6_bitCount_0f7a4 25 = .ok (.iload_n 0, 1) := by decide +kernel
theorem dJ6_bitCount_0f7a4_26 : decode cJ6_bitCount_0f7a4 26 = .ok (.iconst 4, 1) := by decide +kernel
theorem dJ6_bitCount_0f7a4_27 : decode cJ6_bitCount_0f7a4 27 = .ok (.iushr, 1) := by decide +kernel
theorem dJ6_bitCount_0f7a4_28 : decode cJ6_bitCount_0f7a4 28 = .ok (.iadd, 1) := by decide +kernel
theorem dJ6_bitCount_0f7a4_29 : decode cJ6_bitCount_0f7a4 29 = .ok (.ldc_w 267, 3) := by decide +kernel
theorem dJ6_bitCount_0f7a4_32 : decode cJ6_bitCount_0f7a4 32 = .ok (.iand, 1) := by decide +kernel
theorem dJ6_bitCount_0f7a4_33 : decode cJ6_bitCount_0f7a4 33 = .ok (.istore_n 0, 1) := by decide +kernel
theorem dJ6_bitCount_0f7a4_34 : decode cJ6_bitCount_0f7a4 34 = .ok (.iload_n 0, 1) := by decide +kernel
theorem dJ6_bitCount_0f7a4_35 : decode cJ6_bitCount_0f7a4 35 = .ok (.iload_n 0, 1) := by decide +kernel
theorem dJ6_bitCount_0f7a4_36 : decode cJ6_bitCount_0f7a4 36 = .ok (.bipush 8, 2) := by decide +kernel
theorem dJ6_bitCount_0f7a4_38 : decode cJ6_bitCount_0f7a4 38 = .ok (.iushr, 1) := by decide +kernel
theorem dJ6_bitCount_0f7a4_39 : decode cJ6_bitCount_0f7a4 39 = .ok (.iadd, 1) := by decide +kernel
theorem dJ6_bitCount_0f7a4_40 : decode cJ6_bitCount_0f7a4 40 = .ok (.istore_n 0, 1) := by decide +kernel
theorem dJ6_bitCount_0f7a4_41 : decode cJ6_bitCount_0f7a4 41 = .ok (.iload_n 0, 1) := by decide +kernel
theorem dJ6_bitCount_0f7a4_42 : decode cJ6_bitCount_0f7a4 42 = .ok (.iload_n 0, 1) := by decide +kernel
theorem dJ6_bitCount_0f7a4_43 : decode cJ6_bitCount_0f7a4 43 = .ok (.bipush 16, 2) := by decide +kernel
theorem dJ6_bitCount_0f7a4_45 : decode cJ6_bitCount_0f7a4 45 = .ok (.iushr, 1) := by decide +kernel
theorem dJ6_bitCount_0f7a4_46 : decode cJ6_bitCount_0f7a4 46 = .ok (.iadd, 1) := by decide +kernel
theorem dJ6_bitCount_0f7a4_47 : decode cJ6_bitCount_0f7a4 47 = .ok (.istore_n 0, 1) := by decide +kernel
theorem dJ6_bitCount_0f7a4_48 : decode cJ6_bitCount_0f7a4 48 = .ok (.iload_n 0, 1) := by decide +kernel
theorem dJ6_bitCount_0f7a4_49 : decode cJ6_bitCount_0f7a4 49 = .ok (.bipush 63, 2) := by decide +kernel
theorem dJ6_bitCount_0f7a4_51 : decode cJ6_bitCount_0f7a4 51 = .ok (.iand, 1) := by decide +kernel
theorem dJ6_bitCount_0f7a4_52 : decode cJ6_bitCount_0f7a4 52 = .ok (.ireturn, 1) := by decide +kernel
theorem dJ6_numberOfTrailingZeros_0f7a4_0 : decode cJ6_numberOfTrailingZeros_0f7a4 0 = .ok (.iload_n 0, 1) := by decide +kernel
theorem dJ6_numberOfTrailingZeros_0f7a4_1 : decode cJ6_numberOfTrailingZeros_0f7a4 1 = .ok (.iconst (-1), 1) := by decide +kernel
theorem dJ6_numberOfTrailingZeros_0f7a4_2 : decode cJ6_numberOfTrailingZeros_0f7a4 2 = .ok (.ixor, 1) := by decide +kernel
theorem dJ6_numberOfTrailingZeros_0f7a4_3 : decode cJ6_numberOfTrailingZeros_0f7a4 3 = .ok (.iload_n 0, 1) := by decide +kernel
theorem dJ6_numberOfTrailingZeros_0f7a4_4 : decode cJ6_numberOfTrailingZeros_0f7a4 4 = .ok (.iconst 1, 1) := by decide +kernel
theorem dJ6_numberOfTrailingZeros_0f7a4_5 : decode cJ6_numberOfTrailingZeros_0f7a4 5 = .ok (.isub, 1) := by decide +kernel
theorem dJ6_numberOfTrailingZeros_0f7a4_6 : decode cJ6_numberOfTrailingZeros_0f7a4 6 = .ok (.iand, 1) := by decide +kernel
theorem dJ6_numberOfTrailingZeros_0f7a4_7 : decode cJ6_numberOfTrailingZeros_0f7a4 7 = .ok (.istore_n 0, 1) := by decide +kernel
theorem dJ6_numberOfTrailingZeros_0f7a4_8 : decode cJ6_numberOfTrailingZeros_0f7a4 8 = .ok (.iload_n 0, 1) := by decide +kernel
theorem dJ6_numberOfTrailingZeros_0f7a4_9 : decode cJ6_numberOfTrailingZeros_0f7a4 9 = .ok (.ifCond .gt 8, 3) := by decide +kernel
theorem dJ6_numberOfTrailingZeros_0f7a4_12 : decode cJ6_numberOfTrailingZeros_0f7a4 12 = .ok (.iload_n 0, 1) := by decide +kernel
theorem dJ6_numberOfTrailingZeros_0f7a4_13 : decode cJ6_numberOfTrailingZeros_0f7a4 13 = .ok (.bipush 32, 2) := by decide +kernel
theorem dJ6_numberOfTrailingZeros_0f7a4_15 : decode cJ6_numberOfTrailingZeros_0f7a4 15 = .ok (.iand, 1) := by decide +kernel
theorem dJ6_numberOfTrailingZeros_0f7a4_16 : decode cJ6_numberOfTrailingZeros_0f7a4 16 = .ok (.ireturn, 1) := by decide +kernel
theorem dJ6_numberOfTrailingZeros_0f7a4_17 : decode cJ6_numberOfTrailingZeros_0f7a4 17 = .ok (.iconst 1, 1) := by decide +kernel
theorem dJ6_numberOfTrailingZeros_0f7a4_18 : decode cJ6_numberOfTrailingZeros_0f7a4 18 = .ok (.istore_n 1, 1) := by decide +kernel
theorem dJ6_numberOfTrailingZeros_0f7a4_19 : decode cJ6_numberOfTrailingZeros_0f7a4 19 = .ok (.iload_n 0, 1) := by decide +kernel
theorem dJ6_numberOfTrailingZeros_0f7a4_20 : decode cJ6_numberOfTrailingZeros_0f7a4 20 = .ok (.ldc_w 264, 3) := by decide +kernel
theorem dJ6_numberOfTrailingZeros_0f7a4_23 : decode cJ6_numberOfTrailingZeros_0f7a4 23 = .ok (.if_icmp .le 11, 3) := by decide +kernel
theorem dJ6_numberOfTrailingZeros_0f7a4_26 : decode cJ6_numberOfTrailingZeros_0f7a4 26 = .ok (.iinc 1 16, 3) := by decide +kernel
theorem dJ6_numberOfTrailingZeros_0f7a4_29 : decode cJ6_numberOfTrailingZeros_0f7a4 29 = .ok (.iload_n 0, 1) := by decide +kernel
theorem dJ6_numberOfTrailingZeros_0f7a4_30 : decode cJ6_numberOfTrailingZeros_0f7a4 30 = .ok (.bipush 16, 2) := by decide +kernel
theorem dJ6_numberOfTrailingZeros_0f7a4_32 : decode cJ6_numberOfTrailingZeros_0f7a4 32 = .ok (.iushr, 1) := by decide +kernel
theorem dJ6_numberOfTrailingZeros_0f7a4_33 : decode cJ6_numberOfTrailingZeros_0f7a4 33 = .ok (.istore_n 0, 1) := by decide +kernel
theorem dJ6_numberOfTrailingZeros_0f7a4_34 : decode cJ6_numberOfTrailingZeros_0f7a4 34 = .ok (.iload_n 0, 1) := by decide +kernel
theorem dJ6_numberOfTrailingZeros_0f7a4_35 : decode cJ6_numberOfTrailingZeros_0f7a4 35 = .ok (.sipush 256, 3) := by decide +kernel
theorem dJ6_numberOfTrailingZeros_0f7a4_38 : decode cJ6_numberOfTrailingZeros_0f7a4 38 = .ok (.if_icmp .le 11, 3) := by decide +kernel
theorem dJ6_numberOfTrailingZeros_0f7a4_41 : decode cJ6_numberOfTrailingZeros_0f7a4 41 = .ok (.iinc 1 8, 3) := by decide +kernel
theorem dJ6_numberOfTrailingZeros_0f7a4_44 : decode cJ6_numberOfTrailingZeros_0f7a4 44 = .ok (.iload_n 0, 1) := by decide +kernel
theorem dJ6_numberOfTrailingZeros_0f7a4_45 : decode cJ6_numberOfTrailingZeros_0f7a4 45 = .ok (.bipush 8, 2) := by decide +kernel
theorem dJ6_numberOfTrailingZeros_0f7a4_47 : decode cJ6_numberOfTrailingZeros_0f7a4 47 = .ok (.iushr, 1) := by decide +kernel
theorem dJ6_numberOfTrailingZeros_0f7a4_48 : decode cJ6_numberOfTrailingZeros_0f7a4 48 = .ok (.istore_n 0, 1) := by decide +kernel
theorem dJ6_numberOfTrailingZeros_0f7a4_49 : decode cJ6_numberOfTrailingZeros_0f7a4 49 = .ok (.iload_n 0, 1) := by decide +kernel
theorem dJ6_numberOfTrailingZeros_0f7a4_50 : decode cJ6_numberOfTrailingZeros_0f7a4 50 = .ok (.bipush 16, 2) := by decide +kernel
theorem dJ6_numberOfTrailingZeros_0f7a4_52 : decode cJ6_numberOfTrailingZeros_0f7a4 52 = .ok (.if_icmp .le 10, 3) := by decide +kernel
theorem dJ6_numberOfTrailingZeros_0f7a4_55 : decode cJ6_numberOfTrailingZeros_0f7a4 55 = .ok (.iinc 1 4, 3) := by decide +kernel
theorem dJ6_numberOfTrailingZeros_0f7a4_58 : decode cJ6_numberOfTrailingZeros_0f7a4 58 = .ok (.iload_n 0, 1) := by decide +kernel
theorem dJ6_numberOfTrailingZeros_0f7a4_59 : decode cJ6_numberOfTrailingZeros_0f7a4 59 = .ok (.iconst 4, 1) := by decide +kernel
theorem dJ6_numberOfTrailingZeros_0f7a4_60 : decode cJ6_numberOfTrailingZeros_0f7a4 60 = .ok (.iushr, 1) := by decide +kernel
theorem dJ6_numberOfTrailingZeros_0f7a4_61 : decode cJ6_numberOfTrailingZeros_0f7a4 61 = .ok (.istore_n 0, 1) := by decide +kernel
theorem dJ6_numberOfTrailingZeros_0f7a4_62 : decode cJ6_numberOfTrailingZeros_0f7a4 62 = .ok (.iload_n 0, 1) := by decide +kernel
theorem dJ6_numberOfTrailingZeros_0f7a4_63 : decode cJ6_numberOfTrailingZeros_0f7a4 63 = .ok (.iconst 4, 1) := by decide +kernel
theorem dJ6_numberOfTrailingZeros_0f7a4_64 : decode cJ6_numberOfTrailingZeros_0f7a4 64 = .ok (.if_icmp .le 10, 3) := by decide +kernel
theorem dJ6_numberOfTrailingZeros_0f7a4_67 : decode cJ6_numberOfTrailingZeros_0f7a4 67 = .ok (.iinc 1 2, 3) := by decide +kernel
theorem dJ6_numberOfTrailingZeros_0f7a4_70 : decode cJ6_numberOfTrailingZeros_0f7a4 70 = .ok (.iload_n 0, 1) := by decide +kernel
theorem dJ6_numberOfTrailingZeros_0f7a4_71 : decode cJ6_numberOfTrailingZeros_0f7a4 71 = .ok (.iconst 2, 1) := by decide +kernel
theorem dJ6_numberOfTrailingZeros_0f7a4_72 : decode cJ6_numberOfTrailingZeros_0f7a4 72 = .ok (.iushr, 1) := by decide +kernel
theorem dJ6_numberOfTrailingZeros_0f7a4_73 : decode cJ6_numberOfTrailingZeros_0f7a4 73 = .ok (.istore_n 0, 1) := by decide +kernel
theorem dJ6_numberOfTrailingZeros_0f7a4_74 : decode cJ6_numberOfTrailingZeros_0f7a4 74 = .ok (.iload_n 1, 1) := by decide +kernel
theorem dJ6_numberOfTrailingZeros_0f7a4_75 : decode cJ6_numberOfTrailingZeros_0f7a4 75 = .ok (.iload_n 0, 1) := by decide +kernel
theorem dJ6_numberOfTrailingZeros_0f7a4_76 : decode cJ6_numberOfTrailingZeros_0f7a4 76 = .ok (.iconst 1, 1) := by decide +kernel
theorem dJ6_numberOfTrailingZeros_0f7a4_77 : decode cJ6_numberOfTrailingZeros_0f7a4 77 = .ok (.iushr, 1) := by decide +kernel
theorem dJ6_numberOfTrailingZeros_0f7a4_78 : decode cJ6_numberOfTrailingZeros_0f7a4 78 = .ok (.iadd, 1) := by decide +kernel
theorem dJ6_numberOfTrailingZeros_0f7a4_79 : decode cJ6_numberOfTrailingZeros_0f7a4 79 = .ok (.ireturn, 1) := by decide +kernel
theorem dJ7_fill_53178_0 : decode cJ7_fill_53178 0 = .ok (.iconst 0, 1) := by decide +kernel
theorem dJ7_fill_53178_1 : decode cJ7_fill_53178 1 = .ok (.istore_n 2, 1) := by decide +kernel
theorem dJ7_fill_53178_2 : decode cJ7_fill_53178 2 = .ok (.aload_n 0, 1) := by decide +kernel
theorem dJ7_fill_53178_3 : decode cJ7_fill_53178 3 = .ok (.arraylength, 1) := by decide +kernel
theorem dJ7_fill_53178_4 : decode cJ7_fill_53178 4 = .ok (.istore_n 3, 1) := by decide +kernel
theorem dJ7_fill_53178_5 : decode cJ7_fill_53178 5 = .ok (.iload_n 2, 1) := by decide +kernel
theorem dJ7_fill_53178_6 : decode cJ7_fill_53178 6 = .ok (.iload_n 3, 1) := by decide +kernel
theorem dJ7_fill_53178_7 : decode cJ7_fill_53178 7 = .ok (.if_icmp .ge 13, 3) := by decide +kernel
theorem dJ7_fill_53178_10 : decode cJ7_fill_53178 10 = .ok (.aload_n 0, 1) := by decide +kernel
theorem dJ7_fill_53178_11 : decode cJ7_fill_53178 11 = .ok (.iload_n 2, 1) := by decide +kernel
theorem dJ7_fill_53178_12 : decode cJ7_fill_53178 12 = .ok (.iload_n 1, 1) := by decide +kernel
theorem dJ7_fill_53178_13 : decode cJ7_fill_53178 13 = .ok (.iastore, 1) := by decide +kernel
theorem dJ7_fill_53178_14 : decode cJ7_fill_53178 14 = .ok (.iinc 2 1, 3) := by decide +kernel
theorem dJ7_fill_53178_17 : decode cJ7_fill_53178 17 = .ok (.goto (-12), 3) := by decide +kernel
theorem dJ7_fill_53178_20 : decode cJ7_fill_53178 20 = .ok (.return_, 1) := by decide +kernel
theorem dX3_packed_0 : decode cX3_packed 0 = .ok (.iload_n 0, 1) := by decide +kernel
theorem dX3_packed_1 : decode cX3_packed 1 = .ok (.bipush 31, 2) := by decide +kernel
theorem dX3_packed_3 : decode cX3_packed 3 = .ok (.imul, 1) := by decide +kernel
theorem dX3_packed_4 : decode cX3_packed 4 = .ok (.iload_n 1, 1) := by decide +kernel
theorem dX3_packed_5 : decode cX3_packed 5 = .ok (.iadd, 1) := by decide +kernel
theorem dX3_packed_6 : decode cX3_packed 6 = .ok (.iconst 1, 1) := by decide +kernel
theorem dX3_packed_7 : decode cX3_packed 7 = .ok (.iadd, 1) := by decide +kernel
theorem dX3_packed_8 : decode cX3_packed 8 = .ok (.iconst 2, 1) := by decide +kernel
theorem dX3_packed_9 : decode cX3_packed 9 = .ok (.imul, 1) := by decide +kernel
theorem dX3_packed_10 : decode cX3_packed 10 = .ok (.iload_n 2, 1) := by decide +kernel
theorem dX3_packed_11 : decode cX3_packed 11 = .ok (.iadd, 1) := by decide +kernel
theorem dX3_packed_12 : decode cX3_packed 12 = .ok (.bipush 6, 2) := by decide +kernel
theorem dX3_packed_14 : decode cX3_packed 14 = .ok (.imul, 1) := by decide +kernel
theorem dX3_packed_15 : decode cX3_packed 15 = .ok (.iload_n 3, 1) := by decide +kernel
theorem dX3_packed_16 : decode cX3_packed 16 = .ok (.iadd, 1) := by decide +kernel
theorem dX3_packed_17 : decode cX3_packed 17 = .ok (.ireturn, 1) := by decide +kernel
theorem dX3_unpacked_0 : decode cX3_unpacked 0 = .ok (.iload_n 1, 1) := by decide +kernel
theorem dX3_unpacked_1 : decode cX3_unpacked 1 = .ok (.tableswitch 52 0 2 #[27, 35, 45], 27) := by decide +kernel
theorem dX3_unpacked_28 : decode cX3_unpacked 28 = .ok (.iload_n 0, 1) := by decide +kernel
theorem dX3_unpacked_29 : decode cX3_unpacked 29 = .ok (.bipush 12, 2) := by decide +kernel
theorem dX3_unpacked_31 : decode cX3_unpacked 31 = .ok (.idiv, 1) := by decide +kernel
theorem dX3_unpacked_32 : decode cX3_unpacked 32 = .ok (.bipush 31, 2) := by decide +kernel
theorem dX3_unpacked_34 : decode cX3_unpacked 34 = .ok (.idiv, 1) := by decide +kernel
theorem dX3_unpacked_35 : decode cX3_unpacked 35 = .ok (.ireturn, 1) := by decide +kernel
theorem dX3_unpacked_36 : decode cX3_unpacked 36 = .ok (.iload_n 0, 1) := by decide +kernel
theorem dX3_unpacked_37 : decode cX3_unpacked 37 = .ok (.bipush 12, 2) := by decide +kernel
theorem dX3_unpacked_39 : decode cX3_unpacked 39 = .ok (.idiv, 1) := by decide +kernel
theorem dX3_unpacked_40 : decode cX3_unpacked 40 = .ok (.bipush 31, 2) := by decide +kernel
theorem dX3_unpacked_42 : decode cX3_unpacked 42 = .ok (.irem, 1) := by decide +kernel
theorem dX3_unpacked_43 : decode cX3_unpacked 43 = .ok (.iconst 1, 1) := by decide +kernel
theorem dX3_unpacked_44 : decode cX3_unpacked 44 = .ok (.isub, 1) := by decide +kernel
theorem dX3_unpacked_45 : decode cX3_unpacked 45 = .ok (.ireturn, 1) := by decide +kernel
theorem dX3_unpacked_46 : decode cX3_unpacked 46 = .ok (.iload_n 0, 1) := by decide +kernel
theorem dX3_unpacked_47 : decode cX3_unpacked 47 = .ok (.bipush 6, 2) := by decide +kernel
theorem dX3_unpacked_49 : decode cX3_unpacked 49 = .ok (.idiv, 1) := by decide +kernel
theorem dX3_unpacked_50 : decode cX3_unpacked 50 = .ok (.iconst 2, 1) := by decide +kernel
theorem dX3_unpacked_51 : decode cX3_unpacked 51 = .ok (.irem, 1) := by decide +kernel
theorem dX3_unpacked_52 : decode cX3_unpacked 52 = .ok (.ireturn, 1) := by decide +kernel
theorem dX3_unpacked_53 : decode cX3_unpacked 53 = .ok (.iload_n 0, 1) := by decide +kernel
theorem dX3_unpacked_54 : decode cX3_unpacked 54 = .ok (.bipush 6, 2) := by decide +kernel
theorem dX3_unpacked_56 : decode cX3_unpacked 56 = .ok (.irem, 1) := by decide +kernel
theorem dX3_unpacked_57 : decode cX3_unpacked 57 = .ok (.ireturn, 1) := by decide +kernel
theorem dX4_canCut_0 : decode cX4_canCut 0 = .ok (.aload_n 0, 1) := by decide +kernel
theorem dX4_canCut_1 : decode cX4_canCut 1 = .ok (.iload_n 2, 1) := by decide +kernel
theorem dX4_canCut_2 : decode cX4_canCut 2 = .ok (.iload_n 3, 1) := by decide +kernel
theorem dX4_canCut_3 : decode cX4_canCut 3 = .ok (.iload 4, 2) := by decide +kernel
theorem dX4_canCut_5 : decode cX4_canCut 5 = .ok (.invokevirtual 162, 3) := by decide +kernel
theorem dX4_canCut_8 : decode cX4_canCut 8 = .ok (.istore 5, 2) := by decide +kernel
theorem dX4_canCut_10 : decode cX4_canCut 10 = .ok (.iload 5, 2) := by decide +kernel
theorem dX4_canCut_12 : decode cX4_canCut 12 = .ok (.ifCond .eq 16, 3) := by decide +kernel
theorem dX4_canCut_15 : decode cX4_canCut 15 = .ok (.iload_n 1, 1) := by decide +kernel
theorem dX4_canCut_16 : decode cX4_canCut 16 = .ok (.iload 5, 2) := by decide +kernel
theorem dX4_canCut_18 : decode cX4_canCut 18 = .ok (.iand, 1) := by decide +kernel
theorem dX4_canCut_19 : decode cX4_canCut 19 = .ok (.iload 5, 2) := by decide +kernel
theorem dX4_canCut_21 : decode cX4_canCut 21 = .ok (.if_icmp .ne 7, 3) := by decide +kernel
theorem dX4_canCut_24 : decode cX4_canCut 24 = .ok (.iconst 1, 1) := by decide +kernel
theorem dX4_canCut_25 : decode cX4_canCut 25 = .ok (.goto 4, 3) := by decide +kernel
theorem dX4_canCut_28 : decode cX4_canCut 28 = .ok (.iconst 0, 1) := by decide +kernel
theorem dX4_canCut_29 : decode cX4_canCut 29 = .ok (.ireturn, 1) := by decide +kernel
theorem dX4_cutBits_0 : decode cX4_cutBits 0 = .ok (.iload_n 1, 1) := by decide +kernel
theorem dX4_cutBits_1 : decode cX4_cutBits 1 = .ok (.ifCond .lt 26, 3) := by decide +kernel
theorem dX4_cutBits_4 : decode cX4_cutBits 4 = .ok (.iload_n 1, 1) := by decide +kernel
theorem dX4_cutBits_5 : decode cX4_cutBits 5 = .ok (.aload_n 0, 1) := by decide +kernel
theorem dX4_cutBits_6 : decode cX4_cutBits 6 = .ok (.getfield 123, 3) := by decide +kernel
theorem dX4_cutBits_9 : decode cX4_cutBits 9 = .ok (.if_icmp .ge 18, 3) := by decide +kernel
theorem dX4_cutBits_12 : decode cX4_cutBits 12 = .ok (.iload_n 3, 1) := by decide +kernel
theorem dX4_cutBits_13 : decode cX4_cutBits 13 = .ok (.iconst 1, 1) := by decide +kernel
theorem dX4_cutBits_14 : decode cX4_cutBits 14 = .ok (.if_icmp .lt 13, 3) := by decide +kernel
theorem dX4_cutBits_17 : decode cX4_cutBits 17 = .ok (.iload_n 3, 1) := by decide +kernel
theorem dX4_cutBits_18 : decode cX4_cutBits 18 = .ok (.aload_n 0, 1) := by decide +kernel
theorem dX4_cutBits_19 : decode cX4_cutBits 19 = .ok (.getfield 11, 3) := by decide +kernel
theorem dX4_cutBits_22 : decode cX4_cutBits 22 = .ok (.iconst 3, 1) := by decide +kernel
theorem dX4_cutBits_23 : decode cX4_cutBits 23 = .ok (.iaload, 1) := by decide +kernel
theorem dX4_cutBits_24 : decode cX4_cutBits 24 = .ok (.if_icmp .le 5, 3) := by decide +kernel
theorem dX4_cutBits_27 : decode cX4_cutBits 27 = .ok (.iconst 0, 1) := by decide +kernel
theorem dX4_cutBits_28 : decode cX4_cutBits 28 = .ok (.ireturn, 1) := by decide +kernel
theorem dX4_cutBits_29 : decode cX4_cutBits 29 = .ok (.iload_n 2, 1) := by decide +kernel
theorem dX4_cutBits_30 : decode cX4_cutBits 30 = .ok (.ifCond .ne 29, 3) := by decide +kernel
theorem dX4_cutBits_33 : decode cX4_cutBits 33 = .ok (.aload_n 0, 1) := by decide +kernel
theorem dX4_cutBits_34 : decode cX4_cutBits 34 = .ok (.iload_n 1, 1) := by decide +kernel
theorem dX4_cutBits_35 : decode cX4_cutBits 35 = .ok (.invokevirtual 135, 3) := by decide +kernel
theorem dX4_cutBits_38 : decode cX4_cutBits 38 = .ok (.iload_n 3, 1) := by decide +kernel
theorem dX4_cutBits_39 : decode cX4_cutBits 39 = .ok (.iadd, 1) := by decide +kernel
theorem dX4_cutBits_40 : decode cX4_cutBits 40 = .ok (.aload_n 0, 1) := by decide +kernel
theorem dX4_cutBits_41 : decode cX4_cutBits 41 = .ok (.getfield 117, 3) := by decide +kernel
theorem dX4_cutBits_44 : decode cX4_cutBits 44 = .ok (.if_icmp .le 7, 3) := by decide +kernel
theorem dX4_cutBits_47 : decode cX4_cutBits 47 = .ok (.iconst 0, 1) := by decide +kernel
theorem dX4_cutBits_48 : decode cX4_cutBits 48 = .ok (.goto 10, 3) := by decide +kernel
theorem dX4_cutBits_51 : decode cX4_cutBits 51 = .ok (.iconst 1, 1) := by decide +kernel
theorem dX4_cutBits_52 : decode cX4_cutBits 52 = .ok (.iload_n 3, 1) := by decide +kernel
theorem dX4_cutBits_53 : decode cX4_cutBits 53 = .ok (.ishl, 1) := by decide +kernel
theorem dX4_cutBits_54 : decode cX4_cutBits 54 = .ok (.iconst 1, 1) := by decide +kernel
theorem dX4_cutBits_55 : decode cX4_cutBits 55 = .ok (.isub, 1) := by decide +kernel
theorem dX4_cutBits_56 : decode cX4_cutBits 56 = .ok (.iload_n 1, 1) := by decide +kernel
theorem dX4_cutBits_57 : decode cX4_cutBits 57 = .ok (.ishl, 1) := by decide +kernel
theorem dX4_cutBits_58 : decode cX4_cutBits 58 = .ok (.ireturn, 1) := by decide +kernel
theorem dX4_cutBits_59 : decode cX4_cutBits 59 = .ok (.iload_n 2, 1) := by decide +kernel
theorem dX4_cutBits_60 : decode cX4_cutBits 60 = .ok (.iconst 1, 1) := by decide +kernel
theorem dX4_cutBits_61 : decode cX4_cutBits 61 = .ok (.if_icmp .ne 17, 3) := by decide +kernel
theorem dX4_cutBits_64 : decode cX4_cutBits 64 = .ok (.aload_n 0, 1) := by decide +kernel
theorem dX4_cutBits_65 : decode cX4_cutBits 65 = .ok (.iload_n 1, 1) := by decide +kernel
theorem dX4_cutBits_66 : decode cX4_cutBits 66 = .ok (.invokevirtual 159, 3) := by decide +kernel
theorem dX4_cutBits_69 : decode cX4_cutBits 69 = .ok (.iload_n 3, 1) := by decide +kernel
theorem dX4_cutBits_70 : decode cX4_cutBits 70 = .ok (.iadd, 1) := by decide +kernel
theorem dX4_cutBits_71 : decode cX4_cutBits 71 = .ok (.aload_n 0, 1) := by decide +kernel
theorem dX4_cutBits_72 : decode cX4_cutBits 72 = .ok (.getfield 120, 3) := by decide +kernel
theorem dX4_cutBits_75 : decode cX4_cutBits 75 = .ok (.if_icmp .le 5, 3) := by decide +kernel
theorem dX4_cutBits_78 : decode cX4_cutBits 78 = .ok (.iconst 0, 1) := by decide +kernel
theorem dX4_cutBits_79 : decode cX4_cutBits 79 = .ok (.ireturn, 1) := by decide +kernel
theorem dX4_cutBits_80 : decode cX4_cutBits 80 = .ok (.iconst 0, 1) := by decide +kernel
theorem dX4_cutBits_81 : decode cX4_cutBits 81 = .ok (.istore 4, 2) := by decide +kernel
theorem dX4_cutBits_83 : decode cX4_cutBits 83 = .ok (.iconst 0, 1) := by decide +kernel
theorem dX4_cutBits_84 : decode cX4_cutBits 84 = .ok (.istore 5, 2) := by decide +kernel
theorem dX4_cutBits_86 : decode cX4_cutBits 86 = .ok (.iload 5, 2) := by decide +kernel
theorem dX4_cutBits_88 : decode cX4_cutBits 88 = .ok (.iload_n 3, 1) := by decide +kernel
theorem dX4_cutBits_89 : decode cX4_cutBits 89 = .ok (.if_icmp .ge 25, 3) := by decide +kernel
theorem dX4_cutBits_92 : decode cX4_cutBits 92 = .ok (.iload 4, 2) := by decide +kernel
theorem dX4_cutBits_94 : decode cX4_cutBits 94 = .ok (.iconst 1, 1) := by decide +kernel
theorem dX4_cutBits_95 : decode cX4_cutBits 95 = .ok (.iload_n 1, 1) := by decide +kernel
theorem dX4_cutBits_96 : decode cX4_cutBits 96 = .ok (.iload 5, 2) := by decide +kernel
theorem dX4_cutBits_98 : decode cX4_cutBits 98 = .ok (.aload_n 0, 1) := by decide +kernel
theorem dX4_cutBits_99 : decode cX4_cutBits 99 = .ok (.getfield 117, 3) := by decide +kernel
theorem dX4_cutBits_102 : decode cX4_cutBits 102 = .ok (.imul, 1) := by decide +kernel
theorem dX4_cutBits_103 : decode cX4_cutBits 103 = .ok (.iadd, 1) := by decide +kernel
theorem dX4_cutBits_104 : decode cX4_cutBits 104 = .ok (.ishl, 1) := by decide +kernel
theorem dX4_cutBits_105 : decode cX4_cutBits 105 = .ok (.ior, 1) := by decide +kernel
theorem dX4_cutBits_106 : decode cX4_cutBits 106 = .ok (.istore 4, 2) := by decide +kernel
theorem dX4_cutBits_108 : decode cX4_cutBits 108 = .ok (.iinc 5 1, 3) := by decide +kernel
theorem dX4_cutBits_111 : decode cX4_cutBits 111 = .ok (.goto (-25), 3) := by decide +kernel
theorem dX4_cutBits_114 : decode cX4_cutBits 114 = .ok (.iload 4, 2) := by decide +kernel
theorem dX4_cutBits_116 : decode cX4_cutBits 116 = .ok (.ireturn, 1) := by decide +kernel
theorem dX4_longestRow_0 : decode cX4_longestRow 0 = .ok (.iconst 0, 1) := by decide +kernel
theorem dX4_longestRow_1 : decode cX4_longestRow 1 = .ok (.istore_n 2, 1) := by decide +kernel
theorem dX4_longestRow_2 : decode cX4_longestRow 2 = .ok (.iconst 0, 1) := by decide +kernel
theorem dX4_longestRow_3 : decode cX4_longestRow 3 = .ok (.istore_n 3, 1) := by decide +kernel
theorem dX4_longestRow_4 : decode cX4_longestRow 4 = .ok (.iload_n 3, 1) := by decide +kernel
theorem dX4_longestRow_5 : decode cX4_longestRow 5 = .ok (.iconst 4, 1) := by decide +kernel
theorem dX4_longestRow_6 : decode cX4_longestRow 6 = .ok (.if_icmp .ge 60, 3) := by decide +kernel
theorem dX4_longestRow_9 : decode cX4_longestRow 9 = .ok (.iload_n 1, 1) := by decide +kernel
theorem dX4_longestRow_10 : decode cX4_longestRow 10 = .ok (.istore 4, 2) := by decide +kernel
theorem dX4_longestRow_12 : decode cX4_longestRow 12 = .ok (.iconst 1, 1) := by decide +kernel
theorem dX4_longestRow_13 : decode cX4_longestRow 13 = .ok (.istore 5, 2) := by decide +kernel
theorem dX4_longestRow_15 : decode cX4_longestRow 15 = .ok (.iload 5, 2) := by decide +kernel
theorem dX4_longestRow_17 : decode cX4_longestRow 17 = .ok (.bipush 30, 2) := by decide +kernel
theorem dX4_longestRow_19 : decode cX4_longestRow 19 = .ok (.if_icmp .gt 41, 3) := by decide +kernel
theorem dX4_longestRow_22 : decode cX4_longestRow 22 = .ok (.iload 4, 2) := by decide +kernel
theorem dX4_longestRow_24 : decode cX4_longestRow 24 = .ok (.ifCond .eq 36, 3) := by decide +kernel
theorem dX4_longestRow_27 : decode cX4_longestRow 27 = .ok (.iload_n 2, 1) := by decide +kernel
theorem dX4_longestRow_28 : decode cX4_longestRow 28 = .ok (.iload 5, 2) := by decide +kernel
theorem dX4_longestRow_30 : decode cX4_longestRow 30 = .ok (.invokestatic 153, 3) := by decide +kernel
theorem dX4_longestRow_33 : decode cX4_longestRow 33 = .ok (.istore_n 2, 1) := by decide +kernel
theorem dX4_longestRow_34 : decode cX4_longestRow 34 = .ok (.iload_n 1, 1) := by decide +kernel
theorem dX4_longestRow_35 : decode cX4_longestRow 35 = .ok (.aload_n 0, 1) := by decide +kernel
theorem dX4_longestRow_36 : decode cX4_longestRow 36 = .ok (.getfield 21, 3) := by decide +kernel
theorem dX4_longestRow_39 : decode cX4_longestRow 39 = .ok (.iload_n 3, 1) := by decide +kernel
theorem dX4_longestRow_40 : decode cX4_longestRow 40 = .ok (.iaload, 1) := by decide +kernel
theorem dX4_longestRow_41 : decode cX4_longestRow 41 = .ok (.iand, 1) := by decide +kernel
theorem dX4_longestRow_42 : decode cX4_longestRow 42 = .ok (.iload 4, 2) := by decide +kernel
theorem dX4_longestRow_44 : decode cX4_longestRow 44 = .ok (.aload_n 0, 1) := by decide +kernel
theorem dX4_longestRow_45 : decode cX4_longestRow 45 = .ok (.getfield 18, 3) := by decide +kernel
theorem dX4_longestRow_48 : decode cX4_longestRow 48 = .ok (.iload_n 3, 1) := by decide +kernel
theorem dX4_longestRow_49 : decode cX4_longestRow 49 = .ok (.iaload, 1) := by decide +kernel
theorem dX4_longestRow_50 : decode cX4_longestRow 50 = .ok (.iushr, 1) := by decide +kernel
theorem dX4_longestRow_51 : decode cX4_longestRow 51 = .ok (.iand, 1) := by decide +kernel
theorem dX4_longestRow_52 : decode cX4_longestRow 52 = .ok (.istore 4, 2) := by decide +kernel
theorem dX4_longestRow_54 : decode cX4_longestRow 54 = .ok (.iinc 5 1, 3) := by decide +kernel
theorem dX4_longestRow_57 : decode cX4_longestRow 57 = .ok (.goto (-42), 3) := by decide +kernel
theorem dX4_longestRow_60 : decode cX4_longestRow 60 = .ok (.iinc 3 1, 3) := by decide +kernel
theorem dX4_longestRow_63 : decode cX4_longestRow 63 = .ok (.goto (-59), 3) := by decide +kernel
theorem dX4_longestRow_66 : decode cX4_longestRow 66 = .ok (.iload_n 2, 1) := by decide +kernel
theorem dX4_longestRow_67 : decode cX4_longestRow 67 = .ok (.ireturn, 1) := by decide +kernel
theorem dX4_mirroredBits_0 : decode cX4_mirroredBits 0 = .ok (.iconst 0, 1) := by decide +kernel
theorem dX4_mirroredBits_1 : decode cX4_mirroredBits 1 = .ok (.istore_n 3, 1) := by decide +kernel
theorem dX4_mirroredBits_2 : decode cX4_mirroredBits 2 = .ok (.iconst 0, 1) := by decide +kernel
theorem dX4_mirroredBits_3 : decode cX4_mirroredBits 3 = .ok (.istore 4, 2) := by decide +kernel
theorem dX4_mirroredBits_5 : decode cX4_mirroredBits 5 = .ok (.iload 4, 2) := by decide +kernel
theorem dX4_mirroredBits_7 : decode cX4_mirroredBits 7 = .ok (.aload_n 0, 1) := by decide +kernel
theorem dX4_mirroredBits_8 : decode cX4_mirroredBits 8 = .ok (.getfield 123, 3) := by decide +kernel
theorem dX4_mirroredBits_11 : decode cX4_mirroredBits 11 = .ok (.if_icmp .ge 30, 3) := by decide +kernel
theorem dX4_mirroredBits_14 : decode cX4_mirroredBits 14 = .ok (.iload_n 1, 1) := by decide +kernel
theorem dX4_mirroredBits_15 : decode cX4_mirroredBits 15 = .ok (.iload 4, 2) := by decide +kernel
theorem dX4_mirroredBits_17 : decode cX4_mirroredBits 17 = .ok (.ishr, 1) := by decide +kernel
theorem dX4_mirroredBits_18 : decode cX4_mirroredBits 18 = .ok (.iconst 1, 1) := by decide +kernel
theorem dX4_mirroredBits_19 : decode cX4_mirroredBits 19 = .ok (.iand, 1) := by decide +kernel
theorem dX4_mirroredBits_20 : decode cX4_mirroredBits 20 = .ok (.ifCond .eq 15, 3) := by decide +kernel
theorem dX4_mirroredBits_23 : decode cX4_mirroredBits 23 = .ok (.iload_n 3, 1) := by decide +kernel
theorem dX4_mirroredBits_24 : decode cX4_mirroredBits 24 = .ok (.iconst 1, 1) := by decide +kernel
theorem dX4_mirroredBits_25 : decode cX4_mirroredBits 25 = .ok (.aload_n 0, 1) := by decide +kernel
theorem dX4_mirroredBits_26 : decode cX4_mirroredBits 26 = .ok (.iload 4, 2) := by decide +kernel
theorem dX4_mirroredBits_28 : decode cX4_mirroredBits 28 = .ok (.iload_n 2, 1) := by decide +kernel
theorem dX4_mirroredBits_29 : decode cX4_mirroredBits 29 = .ok (.invokevirtual 165, 3) := by decide +kernel
theorem dX4_mirroredBits_32 : decode cX4_mirroredBits 32 = .ok (.ishl, 1) := by decide +kernel
theorem dX4_mirroredBits_33 : decode cX4_mirroredBits 33 = .ok (.ior, 1) := by decide +kernel
theorem dX4_mirroredBits_34 : decode cX4_mirroredBits 34 = .ok (.istore_n 3, 1) := by decide +kernel
theorem dX4_mirroredBits_35 : decode cX4_mirroredBits 35 = .ok (.iinc 4 1, 3) := by decide +kernel
theorem dX4_mirroredBits_38 : decode cX4_mirroredBits 38 = .ok (.goto (-33), 3) := by decide +kernel
theorem dX4_mirroredBits_41 : decode cX4_mirroredBits 41 = .ok (.iload_n 3, 1) := by decide +kernel
theorem dX4_mirroredBits_42 : decode cX4_mirroredBits 42 = .ok (.ireturn, 1) := by decide +kernel
theorem dX4_mirroredCell_0 : decode cX4_mirroredCell 0 = .ok (.iload_n 2, 1) := by decide +kernel
theorem dX4_mirroredCell_1 : decode cX4_mirroredCell 1 = .ok (.iconst 1, 1) := by decide +kernel
theorem dX4_mirroredCell_2 : decode cX4_mirroredCell 2 = .ok (.iand, 1) := by decide +kernel
theorem dX4_mirroredCell_3 : decode cX4_mirroredCell 3 = .ok (.ifCond .ne 11, 3) := by decide +kernel
theorem dX4_mirroredCell_6 : decode cX4_mirroredCell 6 = .ok (.aload_n 0, 1) := by decide +kernel
theorem dX4_mirroredCell_7 : decode cX4_mirroredCell 7 = .ok (.iload_n 1, 1) := by decide +kernel
theorem dX4_mirroredCell_8 : decode cX4_mirroredCell 8 = .ok (.invokevirtual 159, 3) := by decide +kernel
theorem dX4_mirroredCell_11 : decode cX4_mirroredCell 11 = .ok (.goto 15, 3) := by decide +kernel
theorem dX4_mirroredCell_14 : decode cX4_mirroredCell 14 = .ok (.aload_n 0, 1) := by decide +kernel
theorem dX4_mirroredCell_15 : decode cX4_mirroredCell 15 = .ok (.getfield 120, 3) := by decide +kernel
theorem dX4_mirroredCell_18 : decode cX4_mirroredCell 18 = .ok (.iconst 1, 1) := by decide +kernel
theorem dX4_mirroredCell_19 : decode cX4_mirroredCell 19 = .ok (.isub, 1) := by decide +kernel
theorem dX4_mirroredCell_20 : decode cX4_mirroredCell 20 = .ok (.aload_n 0, 1) := by decide +kernel
theorem dX4_mirroredCell_21 : decode cX4_mirroredCell 21 = .ok (.iload_n 1, 1) := by decide +kernel
theorem dX4_mirroredCell_22 : decode cX4_mirroredCell 22 = .ok (.invokevirtual 159, 3) := by decide +kernel
theorem dX4_mirroredCell_25 : decode cX4_mirroredCell 25 = .ok (.isub, 1) := by decide +kernel
theorem dX4_mirroredCell_26 : decode cX4_mirroredCell 26 = .ok (.istore_n 3, 1) := by decide +kernel
theorem dX4_mirroredCell_27 : decode cX4_mirroredCell 27 = .ok (.iload_n 2, 1) := by decide +kernel
theorem dX4_mirroredCell_28 : decode cX4_mirroredCell 28 = .ok (.iconst 2, 1) := by decide +kernel
theorem dX4_mirroredCell_29 : decode cX4_mirroredCell 29 = .ok (.iand, 1) := by decide +kernel
theorem dX4_mirroredCell_30 : decode cX4_mirroredCell 30 = .ok (.ifCond .ne 11, 3) := by decide +kernel
theorem dX4_mirroredCell_33 : decode cX4_mirroredCell 33 = .ok (.aload_n 0, 1) := by decide +kernel
theorem dX4_mirroredCell_34 : decode cX4_mirroredCell 34 = .ok (.iload_n 1, 1) := by decide +kernel
theorem dX4_mirroredCell_35 : decode cX4_mirroredCell 35 = .ok (.invokevirtual 135, 3) := by decide +kernel
theorem dX4_mirroredCell_38 : decode cX4_mirroredCell 38 = .ok (.goto 15, 3) := by decide +kernel
theorem dX4_mirroredCell_41 : decode cX4_mirroredCell 41 = .ok (.aload_n 0, 1) := by decide +kernel
theorem dX4_mirroredCell_42 : decode cX4_mirroredCell 42 = .ok (.getfield 117, 3) := by decide +kernel
theorem dX4_mirroredCell_45 : decode cX4_mirroredCell 45 = .ok (.iconst 1, 1) := by decide +kernel
theorem dX4_mirroredCell_46 : decode cX4_mirroredCell 46 = .ok (.isub, 1) := by decide +kernel
theorem dX4_mirroredCell_47 : decode cX4_mirroredCell 47 = .ok (.aload_n 0, 1) := by decide +kernel
theorem dX4_mirroredCell_48 : decode cX4_mirroredCell 48 = .ok (.iload_n 1, 1) := by decide +kernel
theorem dX4_mirroredCell_49 : decode cX4_mirroredCell 49 = .ok (.invokevirtual 135, 3) := by decide +kernel
theorem dX4_mirroredCell_52 : decode cX4_mirroredCell 52 = .ok (.isub, 1) := by decide +kernel
theorem dX4_mirroredCell_53 : decode cX4_mirroredCell 53 = .ok (.istore 4, 2) := by decide +kernel
theorem dX4_mirroredCell_55 : decode cX4_mirroredCell 55 = .ok (.iload_n 2, 1) := by decide +kernel
theorem dX4_mirroredCell_56 : decode cX4_mirroredCell 56 = .ok (.iconst 4, 1) := by decide +kernel
theorem dX4_mirroredCell_57 : decode cX4_mirroredCell 57 = .ok (.iand, 1) := by decide +kernel
theorem dX4_mirroredCell_58 : decode cX4_mirroredCell 58 = .ok (.ifCond .ne 15, 3) := by decide +kernel
theorem dX4_mirroredCell_61 : decode cX4_mirroredCell 61 = .ok (.iload_n 3, 1) := by decide +kernel
theorem dX4_mirroredCell_62 : decode cX4_mirroredCell 62 = .ok (.aload_n 0, 1) := by decide +kernel
theorem dX4_mirroredCell_63 : decode cX4_mirroredCell 63 = .ok (.getfield 117, 3) := by decide +kernel
theorem dX4_mirroredCell_66 : decode cX4_mirroredCell 66 = .ok (.imul, 1) := by decide +kernel
theorem dX4_mirroredCell_67 : decode cX4_mirroredCell 67 = .ok (.iload 4, 2) := by decide +kernel
theorem dX4_mirroredCell_69 : decode cX4_mirroredCell 69 = .ok (.iadd, 1) := by decide +kernel
theorem dX4_mirroredCell_70 : decode cX4_mirroredCell 70 = .ok (.goto 12, 3) := by decide +kernel
theorem dX4_mirroredCell_73 : decode cX4_mirroredCell 73 = .ok (.iload 4, 2) := by decide +kernel
theorem dX4_mirroredCell_75 : decode cX4_mirroredCell 75 = .ok (.aload_n 0, 1) := by decide +kernel
theorem dX4_mirroredCell_76 : decode cX4_mirroredCell 76 = .ok (.getfield 117, 3) := by decide +kernel
theorem dX4_mirroredCell_79 : decode cX4_mirroredCell 79 = .ok (.imul, 1) := by decide +kernel
theorem dX4_mirroredCell_80 : decode cX4_mirroredCell 80 = .ok (.iload_n 3, 1) := by decide +kernel
theorem dX4_mirroredCell_81 : decode cX4_mirroredCell 81 = .ok (.iadd, 1) := by decide +kernel
theorem dX4_mirroredCell_82 : decode cX4_mirroredCell 82 = .ok (.ireturn, 1) := by decide +kernel
theorem dX4_mirroredLower_0 : decode cX4_mirroredLower 0 = .ok (.iconst 0, 1) := by decide +kernel
theorem dX4_mirroredLower_1 : decode cX4_mirroredLower 1 = .ok (.istore_n 3, 1) := by decide +kernel
theorem dX4_mirroredLower_2 : decode cX4_mirroredLower 2 = .ok (.iconst 0, 1) := by decide +kernel
theorem dX4_mirroredLower_3 : decode cX4_mirroredLower 3 = .ok (.istore 4, 2) := by decide +kernel
theorem dX4_mirroredLower_5 : decode cX4_mirroredLower 5 = .ok (.iload 4, 2) := by decide +kernel
theorem dX4_mirroredLower_7 : decode cX4_mirroredLower 7 = .ok (.aload_n 0, 1) := by decide +kernel
theorem dX4_mirroredLower_8 : decode cX4_mirroredLower 8 = .ok (.getfield 123, 3) := by decide +kernel
theorem dX4_mirroredLower_11 : decode cX4_mirroredLower 11 = .ok (.if_icmp .ge 50, 3) := by decide +kernel
theorem dX4_mirroredLower_14 : decode cX4_mirroredLower 14 = .ok (.aload_n 0, 1) := by decide +kernel
theorem dX4_mirroredLower_15 : decode cX4_mirroredLower 15 = .ok (.iload 4, 2) := by decide +kernel
theorem dX4_mirroredLower_17 : decode cX4_mirroredLower 17 = .ok (.iload_n 2, 1) := by decide +kernel
theorem dX4_mirroredLower_18 : decode cX4_mirroredLower 18 = .ok (.invokevirtual 165, 3) := by decide +kernel
theorem dX4_mirroredLower_21 : decode cX4_mirroredLower 21 = .ok (.istore 5, 2) := by decide +kernel
theorem dX4_mirroredLower_23 : decode cX4_mirroredLower 23 = .ok (.iload_n 1, 1) := by decide +kernel
theorem dX4_mirroredLower_24 : decode cX4_mirroredLower 24 = .ok (.iload 4, 2) := by decide +kernel
theorem dX4_mirroredLower_26 : decode cX4_mirroredLower 26 = .ok (.ishr, 1) := by decide +kernel
theorem dX4_mirroredLower_27 : decode cX4_mirroredLower 27 = .ok (.iconst 1, 1) := by decide +kernel
theorem dX4_mirroredLower_28 : decode cX4_mirroredLower 28 = .ok (.iand, 1) := by decide +kernel
theorem dX4_mirroredLower_29 : decode cX4_mirroredLower 29 = .ok (.ifCond .eq 26, 3) := by decide +kernel
theorem dX4_mirroredLower_32 : decode cX4_mirroredLower 32 = .ok (.iload_n 1, 1) := by decide +kernel
theorem dX4_mirroredLower_33 : decode cX4_mirroredLower 33 = .ok (.iload 5, 2) := by decide +kernel
theorem dX4_mirroredLower_35 : decode cX4_mirroredLower 35 = .ok (.ishr, 1) := by decide +kernel
theorem dX4_mirroredLower_36 : decode cX4_mirroredLower 36 = .ok (.iconst 1, 1) := by decide +kernel
theorem dX4_mirroredLower_37 : decode cX4_mirroredLower 37 = .ok (.iand, 1) := by decide +kernel
theorem dX4_mirroredLower_38 : decode cX4_mirroredLower 38 = .ok (.ifCond .eq 17, 3) := by decide +kernel
theorem dX4_mirroredLower_41 : decode cX4_mirroredLower 41 = .ok (.iload 5, 2) := by decide +kernel
theorem dX4_mirroredLower_43 : decode cX4_mirroredLower 43 = .ok (.iload 4, 2) := by decide +kernel
theorem dX4_mirroredLower_45 : decode cX4_mirroredLower 45 = .ok (.if_icmp .ge 10, 3) := by decide +kernel
theorem dX4_mirroredLower_48 : decode cX4_mirroredLower 48 = .ok (.iload_n 3, 1) := by decide +kernel
theorem dX4_mirroredLower_49 : decode cX4_mirroredLower 49 = .ok (.iconst 1, 1) := by decide +kernel
theorem dX4_mirroredLower_50 : decode cX4_mirroredLower 50 = .ok (.iload 4, 2) := by decide +kernel
theorem dX4_mirroredLower_52 : decode cX4_mirroredLower 52 = .ok (.ishl, 1) := by decide +kernel
theorem dX4_mirroredLower_53 : decode cX4_mirroredLower 53 = .ok (.ior, 1) := by decide +kernel
theorem dX4_mirroredLower_54 : decode cX4_mirroredLower 54 = .ok (.istore_n 3, 1) := by decide +kernel
theorem dX4_mirroredLower_55 : decode cX4_mirroredLower 55 = .ok (.iinc 4 1, 3) := by decide +kernel
theorem dX4_mirroredLower_58 : decode cX4_mirroredLower 58 = .ok (.goto (-53), 3) := by decide +kernel
theorem dX4_mirroredLower_61 : decode cX4_mirroredLower 61 = .ok (.iload_n 3, 1) := by decide +kernel
theorem dX4_mirroredLower_62 : decode cX4_mirroredLower 62 = .ok (.ireturn, 1) := by decide +kernel
theorem dX4_winners_0 : decode cX4_winners 0 = .ok (.aload_n 0, 1) := by decide +kernel
theorem dX4_winners_1 : decode cX4_winners 1 = .ok (.iload_n 1, 1) := by decide +kernel
theorem dX4_winners_2 : decode cX4_winners 2 = .ok (.invokevirtual 132, 3) := by decide +kernel
theorem dX4_winners_5 : decode cX4_winners 5 = .ok (.ifCond .eq 8, 3) := by decide +kernel
theorem dX4_winners_8 : decode cX4_winners 8 = .ok (.aload_n 0, 1) := by decide +kernel
theorem dX4_winners_9 : decode cX4_winners 9 = .ok (.getfield 126, 3) := by decide +kernel
theorem dX4_winners_12 : decode cX4_winners 12 = .ok (.ireturn, 1) := by decide +kernel
theorem dX4_winners_13 : decode cX4_winners 13 = .ok (.iconst 0, 1) := by decide +kernel
theorem dX4_winners_14 : decode cX4_winners 14 = .ok (.istore_n 2, 1) := by decide +kernel
theorem dX4_winners_15 : decode cX4_winners 15 = .ok (.iconst 0, 1) := by decide +kernel
theorem dX4_winners_16 : decode cX4_winners 16 = .ok (.istore_n 3, 1) := by decide +kernel
theorem dX4_winners_17 : decode cX4_winners 17 = .ok (.iload_n 3, 1) := by decide +kernel
theorem dX4_winners_18 : decode cX4_winners 18 = .ok (.iconst 4, 1) := by decide +kernel
theorem dX4_winners_19 : decode cX4_winners 19 = .ok (.if_icmp .ge 50, 3) := by decide +kernel
theorem dX4_winners_22 : decode cX4_winners 22 = .ok (.iconst 0, 1) := by decide +kernel
theorem dX4_winners_23 : decode cX4_winners 23 = .ok (.istore 4, 2) := by decide +kernel
theorem dX4_winners_25 : decode cX4_winners 25 = .ok (.iload 4, 2) := by decide +kernel
theorem dX4_winners_27 : decode cX4_winners 27 = .ok (.aload_n 0, 1) := by decide +kernel
theorem dX4_winners_28 : decode cX4_winners 28 = .ok (.getfield 11, 3) := by decide +kernel
theorem dX4_winners_31 : decode cX4_winners 31 = .ok (.iconst 2, 1) := by decide +kernel
theorem dX4_winners_32 : decode cX4_winners 32 = .ok (.iaload, 1) := by decide +kernel
theorem dX4_winners_33 : decode cX4_winners 33 = .ok (.if_icmp .ge 30, 3) := by decide +kernel
theorem dX4_winners_36 : decode cX4_winners 36 = .ok (.iload_n 2, 1) := by decide +kernel
theorem dX4_winners_37 : decode cX4_winners 37 = .ok (.aload_n 0, 1) := by decide +kernel
theorem dX4_winners_38 : decode cX4_winners 38 = .ok (.iload 4, 2) := by decide +kernel
theorem dX4_winners_40 : decode cX4_winners 40 = .ok (.iload_n 3, 1) := by decide +kernel
theorem dX4_winners_41 : decode cX4_winners 41 = .ok (.iload_n 1, 1) := by decide +kernel
theorem dX4_winners_42 : decode cX4_winners 42 = .ok (.invokevirtual 150, 3) := by decide +kernel
theorem dX4_winners_45 : decode cX4_winners 45 = .ok (.iload 4, 2) := by decide +kernel
theorem dX4_winners_47 : decode cX4_winners 47 = .ok (.aload_n 0, 1) := by decide +kernel
theorem dX4_winners_48 : decode cX4_winners 48 = .ok (.getfield 18, 3) := by decide +kernel
theorem dX4_winners_51 : decode cX4_winners 51 = .ok (.iload_n 3, 1) := by decide +kernel
theorem dX4_winners_52 : decode cX4_winners 52 = .ok (.iaload, 1) := by decide +kernel
theorem dX4_winners_53 : decode cX4_winners 53 = .ok (.imul, 1) := by decide +kernel
theorem dX4_winners_54 : decode cX4_winners 54 = .ok (.ishl, 1) := by decide +kernel
theorem dX4_winners_55 : decode cX4_winners 55 = .ok (.ior, 1) := by decide +kernel
theorem dX4_winners_56 : decode cX4_winners 56 = .ok (.istore_n 2, 1) := by decide +kernel
theorem dX4_winners_57 : decode cX4_winners 57 = .ok (.iinc 4 1, 3) := by decide +kernel
theorem dX4_winners_60 : decode cX4_winners 60 = .ok (.goto (-35), 3) := by decide +kernel
theorem dX4_winners_63 : decode cX4_winners 63 = .ok (.iinc 3 1, 3) := by decide +kernel
theorem dX4_winners_66 : decode cX4_winners 66 = .ok (.goto (-49), 3) := by decide +kernel
theorem dX4_winners_69 : decode cX4_winners 69 = .ok (.iload_n 2, 1) := by decide +kernel
theorem dX4_winners_70 : decode cX4_winners 70 = .ok (.ireturn, 1) := by decide +kernel
theorem wl_3_193 : (.methodLink RX4 132 yX4_hasLine : Cond) ∈ sg_tbl := tb_3 _ (List.mem_of_getElem? (i := 193) (by decide +kernel)) (by decide +kernel)
theorem wl_6_78 : (.methodLink RX4 153 Lib.Math.max.name : Cond) ∈ sg_tbl := tb_6 _ (List.mem_of_getElem? (i := 78) (by decide +kernel)) (by decide +kernel)
theorem wl_3_100 : (.static Lib.Math.max.name : Cond) ∈ sg_tbl := tb_3 _ (List.mem_of_getElem? (i := 100) (by decide +kernel)) (by decide +kernel)
theorem wl_1_15 : (.initialized "java/lang/Math" : Cond) ∈ sg_tbl := tb_1 _ (List.mem_of_getElem? (i := 15) (by decide +kernel)) (by decide +kernel)
theorem wl_3_101 : (.code Lib.Math.max.name Lib.Math.max.code 2 (some .int) : Cond) ∈ sg_tbl := tb_3 _ (List.mem_of_getElem? (i := 101) (by decide +kernel)) (by decide +kernel)
theorem wl_1_221 : (.fieldLink RX4 123 "LawnAhead$Ground" "cells" "I" : Cond) ∈ sg_tbl := tb_1 _ (List.mem_of_getElem? (i := 221) (by decide +kernel)) (by decide +kernel)
theorem wl_4_149 : (.methodLink RX4 159 yX4_row : Cond) ∈ sg_tbl := tb_4 _ (List.mem_of_getElem? (i := 149) (by decide +kernel)) (by decide +kernel)
theorem wl_3_181 : (.methodLink RX4 135 yX4_column : Cond) ∈ sg_tbl := tb_3 _ (List.mem_of_getElem? (i := 181) (by decide +kernel)) (by decide +kernel)
theorem wl_4_145 : (.methodLink RX4 162 yX4_cutBits : Cond) ∈ sg_tbl := tb_4 _ (List.mem_of_getElem? (i := 145) (by decide +kernel)) (by decide +kernel)
theorem wl_6_25 : (.methodLink RX4 165 yX4_mirroredCell : Cond) ∈ sg_tbl := tb_6 _ (List.mem_of_getElem? (i := 25) (by decide +kernel)) (by decide +kernel)
theorem wl_4_105 : (.constant RJ6 265 (1431655765) : Cond) ∈ sg_tbl := tb_4 _ (List.mem_of_getElem? (i := 105) (by decide +kernel)) (by decide +kernel)
theorem wl_4_106 : (.constant RJ6 266 (858993459) : Cond) ∈ sg_tbl := tb_4 _ (List.mem_of_getElem? (i := 106) (by decide +kernel)) (by decide +kernel)
theorem wl_4_107 : (.constant RJ6 267 (252645135) : Cond) ∈ sg_tbl := tb_4 _ (List.mem_of_getElem? (i := 107) (by decide +kernel)) (by decide +kernel)
theorem wl_5_178 : (.constant RJ6 264 (65536) : Cond) ∈ sg_tbl := tb_5 _ (List.mem_of_getElem? (i := 178) (by decide +kernel)) (by decide +kernel)
theorem wl_4_157 : (.code yX4_winners cX4_winners 5 (some .int) : Cond) ∈ sg_tbl := tb_4 _ (List.mem_of_getElem? (i := 157) (by decide +kernel)) (by decide +kernel)
theorem wl_4_155 : (.instanceMethod yX4_winners : Cond) ∈ sg_tbl := tb_4 _ (List.mem_of_getElem? (i := 155) (by decide +kernel)) (by decide +kernel)
theorem wl_4_156 : (.selects RX4 yX4_winners yX4_winners : Cond) ∈ sg_tbl := tb_4 _ (List.mem_of_getElem? (i := 156) (by decide +kernel)) (by decide +kernel)
theorem wl_6_77 : (.code yX4_longestRow cX4_longestRow 6 (some .int) : Cond) ∈ sg_tbl := tb_6 _ (List.mem_of_getElem? (i := 77) (by decide +kernel)) (by decide +kernel)
theorem wl_6_75 : (.instanceMethod yX4_longestRow : Cond) ∈ sg_tbl := tb_6 _ (List.mem_of_getElem? (i := 75) (by decide +kernel)) (by decide +kernel)
theorem wl_6_76 : (.selects RX4 yX4_longestRow yX4_longestRow : Cond) ∈ sg_tbl := tb_6 _ (List.mem_of_getElem? (i := 76) (by decide +kernel)) (by decide +kernel)
theorem wl_4_148 : (.code yX4_cutBits cX4_cutBits 6 (some .int) : Cond) ∈ sg_tbl := tb_4 _ (List.mem_of_getElem? (i := 148) (by decide +kernel)) (by decide +kernel)
theorem wl_4_146 : (.instanceMethod yX4_cutBits : Cond) ∈ sg_tbl := tb_4 _ (List.mem_of_getElem? (i := 146) (by decide +kernel)) (by decide +kernel)
theorem wl_4_147 : (.selects RX4 yX4_cutBits yX4_cutBits : Cond) ∈ sg_tbl := tb_4 _ (List.mem_of_getElem? (i := 147) (by decide +kernel)) (by decide +kernel)
theorem wl_4_144 : (.code yX4_canCut cX4_canCut 6 (some .boolean) : Cond) ∈ sg_tbl := tb_4 _ (List.mem_of_getElem? (i := 144) (by decide +kernel)) (by decide +kernel)
theorem wl_4_142 : (.instanceMethod yX4_canCut : Cond) ∈ sg_tbl := tb_4 _ (List.mem_of_getElem? (i := 142) (by decide +kernel)) (by decide +kernel)
theorem wl_4_143 : (.selects RX4 yX4_canCut yX4_canCut : Cond) ∈ sg_tbl := tb_4 _ (List.mem_of_getElem? (i := 143) (by decide +kernel)) (by decide +kernel)
theorem wl_6_28 : (.code yX4_mirroredCell cX4_mirroredCell 5 (some .int) : Cond) ∈ sg_tbl := tb_6 _ (List.mem_of_getElem? (i := 28) (by decide +kernel)) (by decide +kernel)
theorem wl_6_27 : (.instanceMethod yX4_mirroredCell : Cond) ∈ sg_tbl := tb_6 _ (List.mem_of_getElem? (i := 27) (by decide +kernel)) (by decide +kernel)
theorem wl_0_44 : (.selects RX4 yX4_mirroredCell yX4_mirroredCell : Cond) ∈ sg_tbl := tb_0 _ (List.mem_of_getElem? (i := 44) (by decide +kernel)) (by decide +kernel)
theorem wl_6_24 : (.code yX4_mirroredBits cX4_mirroredBits 5 (some .int) : Cond) ∈ sg_tbl := tb_6 _ (List.mem_of_getElem? (i := 24) (by decide +kernel)) (by decide +kernel)
theorem wl_6_22 : (.instanceMethod yX4_mirroredBits : Cond) ∈ sg_tbl := tb_6 _ (List.mem_of_getElem? (i := 22) (by decide +kernel)) (by decide +kernel)
theorem wl_6_23 : (.selects RX4 yX4_mirroredBits yX4_mirroredBits : Cond) ∈ sg_tbl := tb_6 _ (List.mem_of_getElem? (i := 23) (by decide +kernel)) (by decide +kernel)
theorem wl_6_41 : (.code yX4_mirroredLower cX4_mirroredLower 6 (some .int) : Cond) ∈ sg_tbl := tb_6 _ (List.mem_of_getElem? (i := 41) (by decide +kernel)) (by decide +kernel)
theorem wl_6_39 : (.instanceMethod yX4_mirroredLower : Cond) ∈ sg_tbl := tb_6 _ (List.mem_of_getElem? (i := 39) (by decide +kernel)) (by decide +kernel)
theorem wl_6_40 : (.selects RX4 yX4_mirroredLower yX4_mirroredLower : Cond) ∈ sg_tbl := tb_6 _ (List.mem_of_getElem? (i := 40) (by decide +kernel)) (by decide +kernel)
theorem wl_1_4 : (.initialized RX3 : Cond) ∈ sg_tbl := tb_1 _ (List.mem_of_getElem? (i := 4) (by decide +kernel)) (by decide +kernel)
theorem wl_4_28 : (.code yX3_packed cX3_packed 4 (some .int) : Cond) ∈ sg_tbl := tb_4 _ (List.mem_of_getElem? (i := 28) (by decide +kernel)) (by decide +kernel)
theorem wl_4_27 : (.static yX3_packed : Cond) ∈ sg_tbl := tb_4 _ (List.mem_of_getElem? (i := 27) (by decide +kernel)) (by decide +kernel)
theorem wl_5_16 : (.code yX3_unpacked cX3_unpacked 2 (some .int) : Cond) ∈ sg_tbl := tb_5 _ (List.mem_of_getElem? (i := 16) (by decide +kernel)) (by decide +kernel)
theorem wl_5_15 : (.static yX3_unpacked : Cond) ∈ sg_tbl := tb_5 _ (List.mem_of_getElem? (i := 15) (by decide +kernel)) (by decide +kernel)
theorem wl_1_26 : (.initialized RJ6 : Cond) ∈ sg_tbl := tb_1 _ (List.mem_of_getElem? (i := 26) (by decide +kernel)) (by decide +kernel)
theorem wl_4_104 : (.code yJ6_bitCount_0f7a4 cJ6_bitCount_0f7a4 1 (some .int) : Cond) ∈ sg_tbl := tb_4 _ (List.mem_of_getElem? (i := 104) (by decide +kernel)) (by decide +kernel)
theorem wl_4_103 : (.static yJ6_bitCount_0f7a4 : Cond) ∈ sg_tbl := tb_4 _ (List.mem_of_getElem? (i := 103) (by decide +kernel)) (by decide +kernel)
theorem wl_5_177 : (.code yJ6_numberOfTrailingZeros_0f7a4 cJ6_numberOfTrailingZeros_0f7a4 2 (some .int) : Cond) ∈ sg_tbl := tb_5 _ (List.mem_of_getElem? (i := 177) (by decide +kernel)) (by decide +kernel)
theorem wl_5_176 : (.static yJ6_numberOfTrailingZeros_0f7a4 : Cond) ∈ sg_tbl := tb_5 _ (List.mem_of_getElem? (i := 176) (by decide +kernel)) (by decide +kernel)
theorem wl_1_21 : (.initialized RJ7 : Cond) ∈ sg_tbl := tb_1 _ (List.mem_of_getElem? (i := 21) (by decide +kernel)) (by decide +kernel)
theorem wl_4_69 : (.code yJ7_fill_53178 cJ7_fill_53178 4 none : Cond) ∈ sg_tbl := tb_4 _ (List.mem_of_getElem? (i := 69) (by decide +kernel)) (by decide +kernel)
theorem wl_4_68 : (.static yJ7_fill_53178 : Cond) ∈ sg_tbl := tb_4 _ (List.mem_of_getElem? (i := 68) (by decide +kernel)) (by decide +kernel)
section
variable {p : Program} {l : Launch} {e : Env} {R : Room} {s : State} {m : MethodId} {args : Array Value} {below : List Frame} {meth : Method} {c : Code} {H : Heap} {locs : List Loc} {cells slots : Nat} {Q : State → Prop} {cc : ByteArray} {nL pc : Nat} {ls : Array Slot} {rest : List Value} {own : String} {D : va_G} {A : Nat → Prop} {tys : List (ClassId × FieldType)} {ad ks : List Nat} {P : sgPm} {H0 : Heap} {index : Nat} {base : Nat} {st0 : List Value} {a : Nat}
theorem gf_X4_5   (X : CallFix p m c cc nL s args sg_tbl own) (hK : va_K D vwCl tys s) (hG : sgG (KT P) D vwCl A tys ad ks H) (ha : isK ad ks 4 a) (hl : Cond.fieldLink own index "LawnAhead$Ground" "cells" "I" ∈ sg_tbl) (hdg : decode cc pc = .ok (.getfield index, 3)) (kk : ∀ x : Int32, iv 0 30 x → fld D H 4 a 5 (.int x) → W p l e R s m args below meth c H locs cells slots Q (F0 m (pc + 3) ls (.int x :: rest))) : W p l e R s m args below meth c H locs cells slots Q (F0 m pc ls (.ref a :: rest)) :=
  sg_get X hK hG ha (k := 4) (ci := 4) rfl (C := RX4) (T := TX4) (N := 15) rfl inL_X4 5 (by decide) rfl hl (fun _ h => h) hdg (fun v hv hf => by obtain ⟨x, rfl, hx⟩ := hv; exact kk x hx hf)
theorem as_36  {i : Int32} {x : Int32}  (X : CallFix p m c cc nL s args sg_tbl own) (hK : va_K D vwCl tys s) (hG : sgG (KT P) D vwCl A tys ad ks H) (hS : va_S A H0 H locs) (ha : isK ad ks 36 a) (hin : vp_in i 4) (hv : okV ad ks (.inl ((-2147483648), 2147483647)) (.int x)) (hdg : decode cc pc = .ok (.iastore, 1)) (kk : ∀ (H1 : Heap) (locs1 : List Loc), sgG (KT P) D vwCl A tys ad ks H1 → va_S A H0 H1 locs1 → sgFr (KT P) D vwCl ad ks H H1 (fun _ _ => False) → W p l e R s m args below meth c H1 locs1 cells slots Q (F0 m (pc + 1) ls rest)) : W p l e R s m args below meth c H locs cells slots Q (F0 m pc ls (.int x :: .int i :: .ref a :: rest)) :=
  sg_iast X hK hG hS ha (k := 36) rfl hin hv hdg kk
theorem as_37  {i : Int32} {x : Int32}  (X : CallFix p m c cc nL s args sg_tbl own) (hK : va_K D vwCl tys s) (hG : sgG (KT P) D vwCl A tys ad ks H) (hS : va_S A H0 H locs) (ha : isK ad ks 37 a) (hin : vp_in i 1116) (hv : okV ad ks (.inl ((-2147483648), 2147483647)) (.int x)) (hdg : decode cc pc = .ok (.iastore, 1)) (kk : ∀ (H1 : Heap) (locs1 : List Loc), sgG (KT P) D vwCl A tys ad ks H1 → va_S A H0 H1 locs1 → sgFr (KT P) D vwCl ad ks H H1 (fun _ _ => False) → W p l e R s m args below meth c H1 locs1 cells slots Q (F0 m (pc + 1) ls rest)) : W p l e R s m args below meth c H locs cells slots Q (F0 m pc ls (.int x :: .int i :: .ref a :: rest)) :=
  sg_iast X hK hG hS ha (k := 37) rfl hin hv hdg kk
theorem as_38  {i : Int32} {x : Int32}  (X : CallFix p m c cc nL s args sg_tbl own) (hK : va_K D vwCl tys s) (hG : sgG (KT P) D vwCl A tys ad ks H) (hS : va_S A H0 H locs) (ha : isK ad ks 38 a) (hin : vp_in i 1116) (hv : okV ad ks (.inl ((-2147483648), 2147483647)) (.int x)) (hdg : decode cc pc = .ok (.iastore, 1)) (kk : ∀ (H1 : Heap) (locs1 : List Loc), sgG (KT P) D vwCl A tys ad ks H1 → va_S A H0 H1 locs1 → sgFr (KT P) D vwCl ad ks H H1 (fun _ _ => False) → W p l e R s m args below meth c H1 locs1 cells slots Q (F0 m (pc + 1) ls rest)) : W p l e R s m args below meth c H locs cells slots Q (F0 m pc ls (.int x :: .int i :: .ref a :: rest)) :=
  sg_iast X hK hG hS ha (k := 38) rfl hin hv hdg kk
set_option maxHeartbeats 8000000 in
set_option maxRecDepth 100000 in
theorem m_X4_winners (l : Launch) {D : va_G} {base : Nat} {tys : List (ClassId × FieldType)} {ad ks : List Nat} {P : sgPm} {Hx : Heap} (a0 : Nat) (h0 : isK ad ks 4 a0) (x1 : Int32) : sgPi l (KT P) D vwCl base tys ad ks Hx yX4_winners cX4_winners 5 (some .int) ({ frames := 2, cells := 0, slots := 0, locals := 47 }) [.ref a0, .int x1] (fun r : Int32 => True) := by
  refine sg_ofP (Pq := fun Hx => va_Qi (fun r (_ : Unit) => (fun r : Int32 => True) r) (fun _ t => t.heap = Hx) (fun _ : Nat => False)) (by decide +kernel) (Nat.le_of_ble_eq_true rfl) (fun p e s m below meth c X hr hlk hb hK hC hG ls hl => ?_)
  have hS : va_S (fun _ : Nat => False) s.heap s.heap [] := va_S.rf
  have hl : lv_has ls 5 [(0, .ref a0), (1, .int x1)] := hl
  refine lv_aload_n X.1 X.2.1 dX4_winners_0 rfl (lv_at hl 0 rfl) ?_
  refine lv_iload_n X.1 X.2.1 dX4_winners_1 rfl (lv_at hl 1 rfl) ?_
  refine ca_X4_hasLine X hK hG hC (fun _ h => h.elim) hS hb a0 h0 x1 wl_3_193 hl.1 (rest := []) rfl (Nat.le_of_ble_eq_true rfl) ⟨Nat.le_of_ble_eq_true rfl, Nat.le_of_ble_eq_true rfl⟩ ⟨Nat.le_of_ble_eq_true rfl, Nat.le_of_ble_eq_true rfl⟩ dX4_winners_2 (fun f1 locs hf1 hS => ?_)
  refine lv_if_eq (tgt := 13) X.1 X.2.1 dX4_winners_5 (by decide) (fun c2 => ?_) (fun c2 => ?_)
  · refine lv_iconst (v := 0) X.1 X.2.1 dX4_winners_13 (by decide +kernel) ?_
    refine lv_istore_n (lv' := [(2, .int 0), (0, .ref a0), (1, .int x1)]) X.1 X.2.1 dX4_winners_14 rfl hl (by decide) rfl (fun ls hl => ?_)
    refine lv_iconst (v := 0) X.1 X.2.1 dX4_winners_15 (by decide +kernel) ?_
    refine lv_istore_n (lv' := [(3, .int 0), (2, .int 0), (0, .ref a0), (1, .int x1)]) X.1 X.2.1 dX4_winners_16 rfl hl (by decide) rfl (fun ls hl => ?_)
    have B3_17 : ∀ (N : Nat) (locs : List Loc) (ls : Array Slot) (z3_2 : Int32) (z3_3 : Int32), va_S (fun _ : Nat => False) s.heap s.heap locs → lv_has ls 5 [(0, .ref a0), (1, .int x1), (2, .int z3_2), (3, .int z3_3)] → iv 0 4 z3_3 → (5 - z3_3.toInt).toNat ≤ N → W p l e (headSpec (Cond.code yX4_winners cX4_winners 5 (some .int) :: sg_tbl) ({ frames := 2, cells := 0, slots := 0, locals := 47 })).room s m #[.ref a0, .int x1] below meth c s.heap locs 0 0 (MQ below (va_Qi (fun r (_ : Unit) => (fun r : Int32 => True) r) (fun _ t => t.heap = s.heap) (fun _ : Nat => False)) #[.ref a0, .int x1] s 0 0 (fun _ : Nat => False)) (F0 m 17 ls []) := by
      intro N; induction N with
      | zero =>
        intro locs ls z3_2 z3_3 hS hl hz3_3 hN
        exact absurd hN (by have := iv_up hz3_3; omega)
      | succ N ih3 =>
        intro locs ls z3_2 z3_3 hS hl hz3_3 hN3
        refine lv_iload_n X.1 X.2.1 dX4_winners_17 rfl (lv_at hl 3 rfl) ?_
        refine lv_iconst (v := 4) X.1 X.2.1 dX4_winners_18 (by decide +kernel) ?_
        refine lv_icmp_ge (tgt := 69) X.1 X.2.1 dX4_winners_19 (by decide) (fun c4 => ?_) (fun c4 => ?_)
        · refine lv_iload_n X.1 X.2.1 dX4_winners_69 rfl (lv_at hl 2 rfl) ?_
          exact sg_iretP X hr hlk hS trivial dX4_winners_70
        · refine lv_iconst (v := 0) X.1 X.2.1 dX4_winners_22 (by decide +kernel) ?_
          refine lv_istore (lv' := [(4, .int 0), (0, .ref a0), (1, .int x1), (2, .int z3_2), (3, .int z3_3)]) X.1 X.2.1 dX4_winners_23 hl (by decide) rfl (fun ls hl => ?_)
          have B5_25 : ∀ (N : Nat) (locs : List Loc) (ls : Array Slot) (z5_2 : Int32) (z5_4 : Int32), va_S (fun _ : Nat => False) s.heap s.heap locs → lv_has ls 5 [(0, .ref a0), (1, .int x1), (2, .int z5_2), (3, .int z3_3), (4, .int z5_4)] → iv 0 5 z5_4 → (6 - z5_4.toInt).toNat ≤ N → W p l e (headSpec (Cond.code yX4_winners cX4_winners 5 (some .int) :: sg_tbl) ({ frames := 2, cells := 0, slots := 0, locals := 47 })).room s m #[.ref a0, .int x1] below meth c s.heap locs 0 0 (MQ below (va_Qi (fun r (_ : Unit) => (fun r : Int32 => True) r) (fun _ t => t.heap = s.heap) (fun _ : Nat => False)) #[.ref a0, .int x1] s 0 0 (fun _ : Nat => False)) (F0 m 25 ls []) := by
            intro N; induction N with
            | zero =>
              intro locs ls z5_2 z5_4 hS hl hz5_4 hN
              exact absurd hN (by have := iv_up hz5_4; omega)
            | succ N ih5 =>
              intro locs ls z5_2 z5_4 hS hl hz5_4 hN5
              refine lv_iload X.1 X.2.1 dX4_winners_25 (lv_at hl 4 rfl) ?_
              refine lv_aload_n X.1 X.2.1 dX4_winners_27 rfl (lv_at hl 0 rfl) ?_
              refine gf_X4_0 X hK hG h0 wl_1_209 dX4_winners_28 (fun q6 hq6 kq6 => ?_)
              refine lv_iconst (v := 2) X.1 X.2.1 dX4_winners_31 (by decide +kernel) ?_
              refine al_21 X hK hG hq6 (iv_vpin (iv_c 2 (a := 2) (b := 2) (by decide +kernel)) (by decide +kernel)) dX4_winners_32 (fun f7 hf7 => ?_)
              have of7 := hf7
              have hf7 : iv 0 5 f7 := sg_sp_rules hf7 (iv_c 2 (a := 2) (b := 2) (by decide +kernel)) (by decide +kernel) rfl
              refine lv_icmp_ge (tgt := 63) X.1 X.2.1 dX4_winners_33 (by decide) (fun c8 => ?_) (fun c8 => ?_)
              · obtain ⟨y9, ey9⟩ : ∃ y : Int32, y = z3_3 + Int32.ofInt 1 := ⟨_, rfl⟩
                refine lv_iinc (v := y9) (lv' := [(3, .int y9), (0, .ref a0), (1, .int x1), (2, .int z5_2), (4, .int z5_4)]) X.1 X.2.1 dX4_winners_63 hl (k := 3) rfl ey9.symm (by decide) rfl (fun ls hl => ?_)
                refine lv_goto (tgt := 17) X.1 X.2.1 dX4_winners_66 (by decide) ?_
                exact ih3 _ _ z5_2 y9 hS (lv_sub hl [1, 2, 3, 0] rfl) (iv_of (iv_add (a' := 1) (b' := 4) ey9 (iv_lt (b' := 3) (iv_gt_of c4) hz3_3 (iv_c 4 (a := 4) (b := 4) (by decide +kernel)) (by decide +kernel)) (iv_c _ (a := 1) (b := 1) (by decide +kernel)) (by decide +kernel)) (a' := 0) (b' := 4) (by decide +kernel)) (iv_stepU ey9 (iv_lt (b' := 3) (iv_gt_of c4) hz3_3 (iv_c 4 (a := 4) (b := 4) (by decide +kernel)) (by decide +kernel)) (by decide +kernel) hN3)
              · refine lv_iload_n X.1 X.2.1 dX4_winners_36 rfl (lv_at hl 2 rfl) ?_
                refine lv_aload_n X.1 X.2.1 dX4_winners_37 rfl (lv_at hl 0 rfl) ?_
                refine lv_iload X.1 X.2.1 dX4_winners_38 (lv_at hl 4 rfl) ?_
                refine lv_iload_n X.1 X.2.1 dX4_winners_40 rfl (lv_at hl 3 rfl) ?_
                refine lv_iload_n X.1 X.2.1 dX4_winners_41 rfl (lv_at hl 1 rfl) ?_
                refine ca_X4_startsBut X hK hG hC (fun _ h => h.elim) hS hb a0 h0 z5_4 z3_3 (iv_lt (b' := 3) (iv_gt_of c4) hz3_3 (iv_c 4 (a := 4) (b := 4) (by decide +kernel)) (by decide +kernel)) x1 wl_3_197 hl.1 (rest := [.int z5_2]) rfl (Nat.le_of_ble_eq_true rfl) ⟨Nat.le_of_ble_eq_true rfl, Nat.le_of_ble_eq_true rfl⟩ ⟨Nat.le_of_ble_eq_true rfl, Nat.le_of_ble_eq_true rfl⟩ dX4_winners_42 (fun f10 locs hf10 hS => ?_)
                refine lv_iload X.1 X.2.1 dX4_winners_45 (lv_at hl 4 rfl) ?_
                refine lv_aload_n X.1 X.2.1 dX4_winners_47 rfl (lv_at hl 0 rfl) ?_
                refine gf_X4_2 X hK hG h0 wl_1_214 dX4_winners_48 (fun q11 hq11 kq11 => ?_)
                refine lv_iload_n X.1 X.2.1 dX4_winners_51 rfl (lv_at hl 3 rfl) ?_
                refine al_23 X hK hG hq11 (iv_vpin (iv_lt (b' := 3) (iv_gt_of c4) hz3_3 (iv_c 4 (a := 4) (b := 4) (by decide +kernel)) (by decide +kernel)) (by decide +kernel)) dX4_winners_52 (fun f12 hf12 => ?_)
                refine lv_imul X.1 X.2.1 dX4_winners_53 ?_
                refine lv_topi (fun f13 ef13 => ?_)
                refine lv_ishl X.1 X.2.1 dX4_winners_54 ?_
                refine lv_topi (fun f14 ef14 => ?_)
                refine lv_ior X.1 X.2.1 dX4_winners_55 ?_
                refine lv_topi (fun f15 ef15 => ?_)
                refine lv_istore_n (lv' := [(2, .int f15), (0, .ref a0), (1, .int x1), (3, .int z3_3), (4, .int z5_4)]) X.1 X.2.1 dX4_winners_56 rfl hl (by decide) rfl (fun ls hl => ?_)
                obtain ⟨y16, ey16⟩ : ∃ y : Int32, y = z5_4 + Int32.ofInt 1 := ⟨_, rfl⟩
                refine lv_iinc (v := y16) (lv' := [(4, .int y16), (2, .int f15), (0, .ref a0), (1, .int x1), (3, .int z3_3)]) X.1 X.2.1 dX4_winners_57 hl (k := 4) rfl ey16.symm (by decide) rfl (fun ls hl => ?_)
                refine lv_goto (tgt := 25) X.1 X.2.1 dX4_winners_60 (by decide) ?_
                exact ih5 _ _ f15 y16 hS (lv_sub hl [2, 3, 1, 4, 0] rfl) (iv_of (iv_add (a' := 1) (b' := 5) ey16 (iv_lt (b' := 4) (iv_gt_of c8) hz5_4 hf7 (by decide +kernel)) (iv_c _ (a := 1) (b := 1) (by decide +kernel)) (by decide +kernel)) (a' := 0) (b' := 5) (by decide +kernel)) (iv_stepU ey16 (iv_lt (b' := 4) (iv_gt_of c8) hz5_4 hf7 (by decide +kernel)) (by decide +kernel) hN5)
          exact B5_25 _ _ _ z3_2 0 hS (lv_sub hl [1, 2, 3, 4, 0] rfl) (iv_of (iv_c 0 (a := 0) (b := 0) (by decide +kernel)) (a' := 0) (b' := 5) (by decide +kernel)) (Nat.le_refl _)
    exact B3_17 _ _ _ 0 0 hS (lv_sub hl [2, 3, 1, 0] rfl) (iv_of (iv_c 0 (a := 0) (b := 0) (by decide +kernel)) (a' := 0) (b' := 4) (by decide +kernel)) (Nat.le_refl _)
  · refine lv_aload_n X.1 X.2.1 dX4_winners_8 rfl (lv_at hl 0 rfl) ?_
    refine gf_X4_6 X hK hG h0 wl_1_222 dX4_winners_9 (fun f17 hf17 kf17 => ?_)
    exact sg_iretP X hr hlk hS trivial dX4_winners_12

theorem ca_X4_winners   (X : CallFix p m c cc nL s args sg_tbl own) (hK : va_K D vwCl tys s) (hG : sgG (KT P) D vwCl (fun q : Nat => base ≤ q) tys ad ks H) (hC : sgC base s) (hA : ∀ q : Nat, A q → base ≤ q) (hS : va_S A s.heap H locs) (hb : base ≤ s.heap.size) (a0 : Nat) (h0 : isK ad ks 4 a0) (x1 : Int32) (hl : Cond.methodLink own index yX4_winners ∈ sg_tbl) (hsize : ls.size = nL) (hst : st0 = [.int x1].reverse ++ .ref a0 :: rest) (hW : (rest.map fun v => v.category).sum ≤ 8) (hR : 3 ≤ R.frames ∧ 71 ≤ R.locals) (hf : cells ≤ R.cells ∧ slots ≤ R.slots) (hdg : decode cc pc = .ok (.invokevirtual index, 3)) (kk : ∀ (r : Int32) (locs1 : List Loc), (fun r : Int32 => True) r → va_S A s.heap H locs1 → W p l e R s m args below meth c H locs1 cells slots Q (F0 m (pc + 3) ls (.int r :: rest))) : W p l e R s m args below meth c H locs cells slots Q (F0 m pc ls st0) :=
  sg_callPVi X hK hG hC hA hS hb (m_X4_winners l a0 h0 x1) h0 (k := 4) (ci := 4) rfl (C := RX4) (T := TX4) (N := 15) rfl wl_4_157 wl_1_7 wl_4_155 wl_4_156 (n := 1) (by decide +kernel) rfl rfl rfl hl hsize hst hW hR hf hdg kk

set_option maxHeartbeats 8000000 in
set_option maxRecDepth 100000 in
theorem m_X4_longestRow (l : Launch) {D : va_G} {base : Nat} {tys : List (ClassId × FieldType)} {ad ks : List Nat} {P : sgPm} {Hx : Heap} (a0 : Nat) (h0 : isK ad ks 4 a0) (x1 : Int32) : sgPi l (KT P) D vwCl base tys ad ks Hx yX4_longestRow cX4_longestRow 6 (some .int) ({ frames := 1, cells := 0, slots := 0, locals := 13 }) [.ref a0, .int x1] (fun r : Int32 => True) := by
  refine sg_ofP (Pq := fun Hx => va_Qi (fun r (_ : Unit) => (fun r : Int32 => True) r) (fun _ t => t.heap = Hx) (fun _ : Nat => False)) (by decide +kernel) (Nat.le_of_ble_eq_true rfl) (fun p e s m below meth c X hr hlk hb hK hC hG ls hl => ?_)
  have hS : va_S (fun _ : Nat => False) s.heap s.heap [] := va_S.rf
  have hl : lv_has ls 6 [(0, .ref a0), (1, .int x1)] := hl
  refine lv_iconst (v := 0) X.1 X.2.1 dX4_longestRow_0 (by decide +kernel) ?_
  refine lv_istore_n (lv' := [(2, .int 0), (0, .ref a0), (1, .int x1)]) X.1 X.2.1 dX4_longestRow_1 rfl hl (by decide) rfl (fun ls hl => ?_)
  refine lv_iconst (v := 0) X.1 X.2.1 dX4_longestRow_2 (by decide +kernel) ?_
  refine lv_istore_n (lv' := [(3, .int 0), (2, .int 0), (0, .ref a0), (1, .int x1)]) X.1 X.2.1 dX4_longestRow_3 rfl hl (by decide) rfl (fun ls hl => ?_)
  have B1_4 : ∀ (N : Nat) (locs : List Loc) (ls : Array Slot) (z1_2 : Int32) (z1_3 : Int32), va_S (fun _ : Nat => False) s.heap s.heap locs → lv_has ls 6 [(0, .ref a0), (1, .int x1), (2, .int z1_2), (3, .int z1_3)] → iv 0 30 z1_2 → iv 0 4 z1_3 → (5 - z1_3.toInt).toNat ≤ N → W p l e (headSpec (Cond.code yX4_longestRow cX4_longestRow 6 (some .int) :: sg_tbl) ({ frames := 1, cells := 0, slots := 0, locals := 13 })).room s m #[.ref a0, .int x1] below meth c s.heap locs 0 0 (MQ below (va_Qi (fun r (_ : Unit) => (fun r : Int32 => True) r) (fun _ t => t.heap = s.heap) (fun _ : Nat => False)) #[.ref a0, .int x1] s 0 0 (fun _ : Nat => False)) (F0 m 4 ls []) := by
    intro N; induction N with
    | zero =>
      intro locs ls z1_2 z1_3 hS hl hz1_2 hz1_3 hN
      exact absurd hN (by have := iv_up hz1_3; omega)
    | succ N ih1 =>
      intro locs ls z1_2 z1_3 hS hl hz1_2 hz1_3 hN1
      refine lv_iload_n X.1 X.2.1 dX4_longestRow_4 rfl (lv_at hl 3 rfl) ?_
      refine lv_iconst (v := 4) X.1 X.2.1 dX4_longestRow_5 (by decide +kernel) ?_
      refine lv_icmp_ge (tgt := 66) X.1 X.2.1 dX4_longestRow_6 (by decide) (fun c2 => ?_) (fun c2 => ?_)
      · refine lv_iload_n X.1 X.2.1 dX4_longestRow_66 rfl (lv_at hl 2 rfl) ?_
        exact sg_iretP X hr hlk hS trivial dX4_longestRow_67
      · refine lv_iload_n X.1 X.2.1 dX4_longestRow_9 rfl (lv_at hl 1 rfl) ?_
        refine lv_istore (lv' := [(4, .int x1), (0, .ref a0), (1, .int x1), (2, .int z1_2), (3, .int z1_3)]) X.1 X.2.1 dX4_longestRow_10 hl (by decide) rfl (fun ls hl => ?_)
        refine lv_iconst (v := 1) X.1 X.2.1 dX4_longestRow_12 (by decide +kernel) ?_
        refine lv_istore (lv' := [(5, .int 1), (4, .int x1), (0, .ref a0), (1, .int x1), (2, .int z1_2), (3, .int z1_3)]) X.1 X.2.1 dX4_longestRow_13 hl (by decide) rfl (fun ls hl => ?_)
        have B3_15 : ∀ (N : Nat) (locs : List Loc) (ls : Array Slot) (z3_2 : Int32) (z3_4 : Int32) (z3_5 : Int32), va_S (fun _ : Nat => False) s.heap s.heap locs → lv_has ls 6 [(0, .ref a0), (1, .int x1), (2, .int z3_2), (3, .int z1_3), (4, .int z3_4), (5, .int z3_5)] → iv 0 30 z3_2 → iv 1 31 z3_5 → (32 - z3_5.toInt).toNat ≤ N → W p l e (headSpec (Cond.code yX4_longestRow cX4_longestRow 6 (some .int) :: sg_tbl) ({ frames := 1, cells := 0, slots := 0, locals := 13 })).room s m #[.ref a0, .int x1] below meth c s.heap locs 0 0 (MQ below (va_Qi (fun r (_ : Unit) => (fun r : Int32 => True) r) (fun _ t => t.heap = s.heap) (fun _ : Nat => False)) #[.ref a0, .int x1] s 0 0 (fun _ : Nat => False)) (F0 m 15 ls []) := by
          intro N; induction N with
          | zero =>
            intro locs ls z3_2 z3_4 z3_5 hS hl hz3_2 hz3_5 hN
            exact absurd hN (by have := iv_up hz3_5; omega)
          | succ N ih3 =>
            intro locs ls z3_2 z3_4 z3_5 hS hl hz3_2 hz3_5 hN3
            refine lv_iload X.1 X.2.1 dX4_longestRow_15 (lv_at hl 5 rfl) ?_
            refine lv_bipush (v := 30) X.1 X.2.1 dX4_longestRow_17 (by decide +kernel) ?_
            have B5_60 : ∀ (locs : List Loc) (ls : Array Slot), va_S (fun _ : Nat => False) s.heap s.heap locs → lv_has ls 6 [(0, .ref a0), (1, .int x1), (2, .int z3_2), (3, .int z1_3)] → W p l e (headSpec (Cond.code yX4_longestRow cX4_longestRow 6 (some .int) :: sg_tbl) ({ frames := 1, cells := 0, slots := 0, locals := 13 })).room s m #[.ref a0, .int x1] below meth c s.heap locs 0 0 (MQ below (va_Qi (fun r (_ : Unit) => (fun r : Int32 => True) r) (fun _ t => t.heap = s.heap) (fun _ : Nat => False)) #[.ref a0, .int x1] s 0 0 (fun _ : Nat => False)) (F0 m 60 ls []) := by
              intro locs ls hS hl
              obtain ⟨y6, ey6⟩ : ∃ y : Int32, y = z1_3 + Int32.ofInt 1 := ⟨_, rfl⟩
              refine lv_iinc (v := y6) (lv' := [(3, .int y6), (0, .ref a0), (1, .int x1), (2, .int z3_2)]) X.1 X.2.1 dX4_longestRow_60 hl (k := 3) rfl ey6.symm (by decide) rfl (fun ls hl => ?_)
              refine lv_goto (tgt := 4) X.1 X.2.1 dX4_longestRow_63 (by decide) ?_
              exact ih1 _ _ z3_2 y6 hS (lv_sub hl [1, 2, 3, 0] rfl) hz3_2 (iv_of (iv_add (a' := 1) (b' := 4) ey6 (iv_lt (b' := 3) (iv_gt_of c2) hz1_3 (iv_c 4 (a := 4) (b := 4) (by decide +kernel)) (by decide +kernel)) (iv_c _ (a := 1) (b := 1) (by decide +kernel)) (by decide +kernel)) (a' := 0) (b' := 4) (by decide +kernel)) (iv_stepU ey6 (iv_lt (b' := 3) (iv_gt_of c2) hz1_3 (iv_c 4 (a := 4) (b := 4) (by decide +kernel)) (by decide +kernel)) (by decide +kernel) hN1)
            refine lv_icmp_gt (tgt := 60) X.1 X.2.1 dX4_longestRow_19 (by decide) (fun c4 => ?_) (fun c4 => ?_)
            · exact B5_60 _ _ hS (lv_sub hl [0, 1, 2, 3] rfl)
            · refine lv_iload X.1 X.2.1 dX4_longestRow_22 (lv_at hl 4 rfl) ?_
              refine lv_if_eq (tgt := 60) X.1 X.2.1 dX4_longestRow_24 (by decide) (fun c7 => ?_) (fun c7 => ?_)
              · exact B5_60 _ _ hS (lv_sub hl [0, 1, 2, 3] rfl)
              · refine lv_iload_n X.1 X.2.1 dX4_longestRow_27 rfl (lv_at hl 2 rfl) ?_
                refine lv_iload X.1 X.2.1 dX4_longestRow_28 (lv_at hl 5 rfl) ?_
                refine va_mmax X.1 X.2.1 (X.2.2.1.trans hl.1.symm) X.2.2.2.1 (X.2.2.2.2 _ wl_6_78) (X.2.2.2.2 _ wl_3_100) (X.2.2.2.2 _ wl_1_15) (X.2.2.2.2 _ wl_3_101) (Nat.le_of_ble_eq_true rfl) (Nat.le_of_ble_eq_true rfl) (Nat.le_of_ble_eq_true rfl) (Nat.le_of_ble_eq_true rfl) dX4_longestRow_30 ?_
                refine lv_topi (fun f8 ef8 => ?_)
                refine lv_istore_n (lv' := [(2, .int f8), (0, .ref a0), (1, .int x1), (3, .int z1_3), (4, .int z3_4), (5, .int z3_5)]) X.1 X.2.1 dX4_longestRow_33 rfl hl (by decide) rfl (fun ls hl => ?_)
                refine lv_iload_n X.1 X.2.1 dX4_longestRow_34 rfl (lv_at hl 2 rfl) ?_
                refine lv_aload_n X.1 X.2.1 dX4_longestRow_35 rfl (lv_at hl 1 rfl) ?_
                refine gf_X4_3 X hK hG h0 wl_1_215 dX4_longestRow_36 (fun q9 hq9 kq9 => ?_)
                refine lv_iload_n X.1 X.2.1 dX4_longestRow_39 rfl (lv_at hl 3 rfl) ?_
                refine al_24 X hK hG hq9 (iv_vpin (iv_lt (b' := 3) (iv_gt_of c2) hz1_3 (iv_c 4 (a := 4) (b := 4) (by decide +kernel)) (by decide +kernel)) (by decide +kernel)) dX4_longestRow_40 (fun f10 hf10 => ?_)
                refine lv_iand X.1 X.2.1 dX4_longestRow_41 ?_
                refine lv_topi (fun f11 ef11 => ?_)
                refine lv_iload X.1 X.2.1 dX4_longestRow_42 (lv_at hl 4 rfl) ?_
                refine lv_aload_n X.1 X.2.1 dX4_longestRow_44 rfl (lv_at hl 1 rfl) ?_
                refine gf_X4_2 X hK hG h0 wl_1_214 dX4_longestRow_45 (fun q12 hq12 kq12 => ?_)
                refine lv_iload_n X.1 X.2.1 dX4_longestRow_48 rfl (lv_at hl 3 rfl) ?_
                refine al_23 X hK hG hq12 (iv_vpin (iv_lt (b' := 3) (iv_gt_of c2) hz1_3 (iv_c 4 (a := 4) (b := 4) (by decide +kernel)) (by decide +kernel)) (by decide +kernel)) dX4_longestRow_49 (fun f13 hf13 => ?_)
                obtain ⟨f14, ef14⟩ : ∃ y : Int32, y = (z3_4.toUInt32 >>> ((f13 : Int32).toUInt32 &&& Int32.toUInt32 31)).toInt32 := ⟨_, rfl⟩
                refine lv_iushr (v := f14) X.1 X.2.1 dX4_longestRow_50 ef14.symm ?_
                refine lv_iand X.1 X.2.1 dX4_longestRow_51 ?_
                refine lv_topi (fun f15 ef15 => ?_)
                refine lv_istore (lv' := [(4, .int f15), (2, .int f8), (0, .ref a0), (1, .int x1), (3, .int z1_3), (5, .int z3_5)]) X.1 X.2.1 dX4_longestRow_52 hl (by decide) rfl (fun ls hl => ?_)
                obtain ⟨y16, ey16⟩ : ∃ y : Int32, y = z3_5 + Int32.ofInt 1 := ⟨_, rfl⟩
                refine lv_iinc (v := y16) (lv' := [(5, .int y16), (4, .int f15), (2, .int f8), (0, .ref a0), (1, .int x1), (3, .int z1_3)]) X.1 X.2.1 dX4_longestRow_54 hl (k := 5) rfl ey16.symm (by decide) rfl (fun ls hl => ?_)
                refine lv_goto (tgt := 15) X.1 X.2.1 dX4_longestRow_57 (by decide) ?_
                exact ih3 _ _ f8 f15 y16 hS (lv_sub hl [3, 4, 2, 5, 1, 0] rfl) (iv_of (iv_max (a' := 1) (b' := 30) ef8 hz3_2 (iv_le (b' := 30) (iv_ge_of c4) hz3_5 (iv_c 30 (a := 30) (b := 30) (by decide +kernel)) (by decide +kernel)) (by decide +kernel)) (a' := 0) (b' := 30) (by decide +kernel)) (iv_of (iv_add (a' := 2) (b' := 31) ey16 (iv_le (b' := 30) (iv_ge_of c4) hz3_5 (iv_c 30 (a := 30) (b := 30) (by decide +kernel)) (by decide +kernel)) (iv_c _ (a := 1) (b := 1) (by decide +kernel)) (by decide +kernel)) (a' := 1) (b' := 31) (by decide +kernel)) (iv_stepU ey16 (iv_le (b' := 30) (iv_ge_of c4) hz3_5 (iv_c 30 (a := 30) (b := 30) (by decide +kernel)) (by decide +kernel)) (by decide +kernel) hN3)
        exact B3_15 _ _ _ z1_2 x1 1 hS (lv_sub hl [2, 3, 4, 5, 1, 0] rfl) hz1_2 (iv_of (iv_c 1 (a := 1) (b := 1) (by decide +kernel)) (a' := 1) (b' := 31) (by decide +kernel)) (Nat.le_refl _)
  exact B1_4 _ _ _ 0 0 hS (lv_sub hl [2, 3, 1, 0] rfl) (iv_of (iv_c 0 (a := 0) (b := 0) (by decide +kernel)) (a' := 0) (b' := 30) (by decide +kernel)) (iv_of (iv_c 0 (a := 0) (b := 0) (by decide +kernel)) (a' := 0) (b' := 4) (by decide +kernel)) (Nat.le_refl _)

theorem ca_X4_longestRow   (X : CallFix p m c cc nL s args sg_tbl own) (hK : va_K D vwCl tys s) (hG : sgG (KT P) D vwCl (fun q : Nat => base ≤ q) tys ad ks H) (hC : sgC base s) (hA : ∀ q : Nat, A q → base ≤ q) (hS : va_S A s.heap H locs) (hb : base ≤ s.heap.size) (a0 : Nat) (h0 : isK ad ks 4 a0) (x1 : Int32) (hl : Cond.methodLink own index yX4_longestRow ∈ sg_tbl) (hsize : ls.size = nL) (hst : st0 = [.int x1].reverse ++ .ref a0 :: rest) (hW : (rest.map fun v => v.category).sum ≤ 8) (hR : 2 ≤ R.frames ∧ 38 ≤ R.locals) (hf : cells ≤ R.cells ∧ slots ≤ R.slots) (hdg : decode cc pc = .ok (.invokevirtual index, 3)) (kk : ∀ (r : Int32) (locs1 : List Loc), (fun r : Int32 => True) r → va_S A s.heap H locs1 → W p l e R s m args below meth c H locs1 cells slots Q (F0 m (pc + 3) ls (.int r :: rest))) : W p l e R s m args below meth c H locs cells slots Q (F0 m pc ls st0) :=
  sg_callPVi X hK hG hC hA hS hb (m_X4_longestRow l a0 h0 x1) h0 (k := 4) (ci := 4) rfl (C := RX4) (T := TX4) (N := 15) rfl wl_6_77 wl_1_7 wl_6_75 wl_6_76 (n := 1) (by decide +kernel) rfl rfl rfl hl hsize hst hW hR hf hdg kk

set_option maxHeartbeats 8000000 in
set_option maxRecDepth 100000 in
theorem m_X4_cutBits (l : Launch) {D : va_G} {base : Nat} {tys : List (ClassId × FieldType)} {ad ks : List Nat} {P : sgPm} {Hx : Heap} (a0 : Nat) (h0 : isK ad ks 4 a0) (x1 : Int32) (x2 : Int32) (x3 : Int32) : sgPi l (KT P) D vwCl base tys ad ks Hx yX4_cutBits cX4_cutBits 6 (some .int) ({ frames := 1, cells := 0, slots := 0, locals := 21 }) [.ref a0, .int x1, .int x2, .int x3] (fun r : Int32 => True) := by
  refine sg_ofP (Pq := fun Hx => va_Qi (fun r (_ : Unit) => (fun r : Int32 => True) r) (fun _ t => t.heap = Hx) (fun _ : Nat => False)) (by decide +kernel) (Nat.le_of_ble_eq_true rfl) (fun p e s m below meth c X hr hlk hb hK hC hG ls hl => ?_)
  have hS : va_S (fun _ : Nat => False) s.heap s.heap [] := va_S.rf
  have hl : lv_has ls 6 [(0, .ref a0), (1, .int x1), (2, .int x2), (3, .int x3)] := hl
  refine lv_iload_n X.1 X.2.1 dX4_cutBits_0 rfl (lv_at hl 1 rfl) ?_
  refine lv_if_lt (tgt := 27) X.1 X.2.1 dX4_cutBits_1 (by decide) (fun c1 => ?_) (fun c1 => ?_)
  · refine lv_iconst (v := 0) X.1 X.2.1 dX4_cutBits_27 (by decide +kernel) ?_
    exact sg_iretP X hr hlk hS trivial dX4_cutBits_28
  · refine lv_iload_n X.1 X.2.1 dX4_cutBits_4 rfl (lv_at hl 1 rfl) ?_
    refine lv_aload_n X.1 X.2.1 dX4_cutBits_5 rfl (lv_at hl 0 rfl) ?_
    refine gf_X4_5 X hK hG h0 wl_1_221 dX4_cutBits_6 (fun f2 hf2 kf2 => ?_)
    refine lv_icmp_ge (tgt := 27) X.1 X.2.1 dX4_cutBits_9 (by decide) (fun c3 => ?_) (fun c3 => ?_)
    · refine lv_iconst (v := 0) X.1 X.2.1 dX4_cutBits_27 (by decide +kernel) ?_
      exact sg_iretP X hr hlk hS trivial dX4_cutBits_28
    · refine lv_iload_n X.1 X.2.1 dX4_cutBits_12 rfl (lv_at hl 3 rfl) ?_
      refine lv_iconst (v := 1) X.1 X.2.1 dX4_cutBits_13 (by decide +kernel) ?_
      refine lv_icmp_lt (tgt := 27) X.1 X.2.1 dX4_cutBits_14 (by decide) (fun c4 => ?_) (fun c4 => ?_)
      · refine lv_iconst (v := 0) X.1 X.2.1 dX4_cutBits_27 (by decide +kernel) ?_
        exact sg_iretP X hr hlk hS trivial dX4_cutBits_28
      · refine lv_iload_n X.1 X.2.1 dX4_cutBits_17 rfl (lv_at hl 3 rfl) ?_
        refine lv_aload_n X.1 X.2.1 dX4_cutBits_18 rfl (lv_at hl 0 rfl) ?_
        refine gf_X4_0 X hK hG h0 wl_1_209 dX4_cutBits_19 (fun q5 hq5 kq5 => ?_)
        refine lv_iconst (v := 3) X.1 X.2.1 dX4_cutBits_22 (by decide +kernel) ?_
        refine al_21 X hK hG hq5 (iv_vpin (iv_c 3 (a := 3) (b := 3) (by decide +kernel)) (by decide +kernel)) dX4_cutBits_23 (fun f6 hf6 => ?_)
        have of6 := hf6
        have hf6 : iv 0 5 f6 := sg_sp_rules hf6 (iv_c 3 (a := 3) (b := 3) (by decide +kernel)) (by decide +kernel) rfl
        refine lv_icmp_le (tgt := 29) X.1 X.2.1 dX4_cutBits_24 (by decide) (fun c7 => ?_) (fun c7 => ?_)
        · refine lv_iload_n X.1 X.2.1 dX4_cutBits_29 rfl (lv_at hl 2 rfl) ?_
          refine lv_if_ne (tgt := 59) X.1 X.2.1 dX4_cutBits_30 (by decide) (fun c8 => ?_) (fun c8 => ?_)
          · refine lv_iload_n X.1 X.2.1 dX4_cutBits_59 rfl (lv_at hl 2 rfl) ?_
            refine lv_iconst (v := 1) X.1 X.2.1 dX4_cutBits_60 (by decide +kernel) ?_
            refine lv_icmp_ne (tgt := 78) X.1 X.2.1 dX4_cutBits_61 (by decide) (fun c9 => ?_) (fun c9 => ?_)
            · refine lv_iconst (v := 0) X.1 X.2.1 dX4_cutBits_78 (by decide +kernel) ?_
              exact sg_iretP X hr hlk hS trivial dX4_cutBits_79
            · refine lv_aload_n X.1 X.2.1 dX4_cutBits_64 rfl (lv_at hl 0 rfl) ?_
              refine lv_iload_n X.1 X.2.1 dX4_cutBits_65 rfl (lv_at hl 1 rfl) ?_
              refine ca_X4_row X hK hG hC (fun _ h => h.elim) hS hb a0 h0 x1 wl_4_149 hl.1 (rest := []) rfl (Nat.le_of_ble_eq_true rfl) ⟨Nat.le_of_ble_eq_true rfl, Nat.le_of_ble_eq_true rfl⟩ ⟨Nat.le_of_ble_eq_true rfl, Nat.le_of_ble_eq_true rfl⟩ dX4_cutBits_66 (fun f10 locs hf10 hS => ?_)
              refine lv_iload_n X.1 X.2.1 dX4_cutBits_69 rfl (lv_at hl 3 rfl) ?_
              refine lv_iadd X.1 X.2.1 dX4_cutBits_70 ?_
              refine lv_topi (fun f11 ef11 => ?_)
              refine lv_aload_n X.1 X.2.1 dX4_cutBits_71 rfl (lv_at hl 0 rfl) ?_
              refine gf_X4_8 X hK hG h0 wl_1_226 dX4_cutBits_72 (fun f12 hf12 kf12 => ?_)
              refine lv_icmp_le (tgt := 80) X.1 X.2.1 dX4_cutBits_75 (by decide) (fun c13 => ?_) (fun c13 => ?_)
              · refine lv_iconst (v := 0) X.1 X.2.1 dX4_cutBits_80 (by decide +kernel) ?_
                refine lv_istore (lv' := [(4, .int 0), (0, .ref a0), (1, .int x1), (2, .int x2), (3, .int x3)]) X.1 X.2.1 dX4_cutBits_81 hl (by decide) rfl (fun ls hl => ?_)
                refine lv_iconst (v := 0) X.1 X.2.1 dX4_cutBits_83 (by decide +kernel) ?_
                refine lv_istore (lv' := [(5, .int 0), (4, .int 0), (0, .ref a0), (1, .int x1), (2, .int x2), (3, .int x3)]) X.1 X.2.1 dX4_cutBits_84 hl (by decide) rfl (fun ls hl => ?_)
                have B14_86 : ∀ (N : Nat) (locs : List Loc) (ls : Array Slot) (z14_4 : Int32) (z14_5 : Int32), va_S (fun _ : Nat => False) s.heap s.heap locs → lv_has ls 6 [(0, .ref a0), (1, .int x1), (3, .int x3), (4, .int z14_4), (5, .int z14_5)] → iv 0 5 z14_5 → (6 - z14_5.toInt).toNat ≤ N → W p l e (headSpec (Cond.code yX4_cutBits cX4_cutBits 6 (some .int) :: sg_tbl) ({ frames := 1, cells := 0, slots := 0, locals := 21 })).room s m #[.ref a0, .int x1, .int x2, .int x3] below meth c s.heap locs 0 0 (MQ below (va_Qi (fun r (_ : Unit) => (fun r : Int32 => True) r) (fun _ t => t.heap = s.heap) (fun _ : Nat => False)) #[.ref a0, .int x1, .int x2, .int x3] s 0 0 (fun _ : Nat => False)) (F0 m 86 ls []) := by
                  intro N; induction N with
                  | zero =>
                    intro locs ls z14_4 z14_5 hS hl hz14_5 hN
                    exact absurd hN (by have := iv_up hz14_5; omega)
                  | succ N ih14 =>
                    intro locs ls z14_4 z14_5 hS hl hz14_5 hN14
                    refine lv_iload X.1 X.2.1 dX4_cutBits_86 (lv_at hl 4 rfl) ?_
                    refine lv_iload_n X.1 X.2.1 dX4_cutBits_88 rfl (lv_at hl 2 rfl) ?_
                    refine lv_icmp_ge (tgt := 114) X.1 X.2.1 dX4_cutBits_89 (by decide) (fun c15 => ?_) (fun c15 => ?_)
                    · refine lv_iload X.1 X.2.1 dX4_cutBits_114 (lv_at hl 3 rfl) ?_
                      exact sg_iretP X hr hlk hS trivial dX4_cutBits_116
                    · refine lv_iload X.1 X.2.1 dX4_cutBits_92 (lv_at hl 3 rfl) ?_
                      refine lv_iconst (v := 1) X.1 X.2.1 dX4_cutBits_94 (by decide +kernel) ?_
                      refine lv_iload_n X.1 X.2.1 dX4_cutBits_95 rfl (lv_at hl 1 rfl) ?_
                      refine lv_iload X.1 X.2.1 dX4_cutBits_96 (lv_at hl 4 rfl) ?_
                      refine lv_aload_n X.1 X.2.1 dX4_cutBits_98 rfl (lv_at hl 0 rfl) ?_
                      refine gf_X4_7 X hK hG h0 wl_1_225 dX4_cutBits_99 (fun f16 hf16 kf16 => ?_)
                      refine lv_imul X.1 X.2.1 dX4_cutBits_102 ?_
                      refine lv_topi (fun f17 ef17 => ?_)
                      refine lv_iadd X.1 X.2.1 dX4_cutBits_103 ?_
                      refine lv_topi (fun f18 ef18 => ?_)
                      refine lv_ishl X.1 X.2.1 dX4_cutBits_104 ?_
                      refine lv_topi (fun f19 ef19 => ?_)
                      refine lv_ior X.1 X.2.1 dX4_cutBits_105 ?_
                      refine lv_topi (fun f20 ef20 => ?_)
                      refine lv_istore (lv' := [(4, .int f20), (0, .ref a0), (1, .int x1), (3, .int x3), (5, .int z14_5)]) X.1 X.2.1 dX4_cutBits_106 hl (by decide) rfl (fun ls hl => ?_)
                      obtain ⟨y21, ey21⟩ : ∃ y : Int32, y = z14_5 + Int32.ofInt 1 := ⟨_, rfl⟩
                      refine lv_iinc (v := y21) (lv' := [(5, .int y21), (4, .int f20), (0, .ref a0), (1, .int x1), (3, .int x3)]) X.1 X.2.1 dX4_cutBits_108 hl (k := 4) rfl ey21.symm (by decide) rfl (fun ls hl => ?_)
                      refine lv_goto (tgt := 86) X.1 X.2.1 dX4_cutBits_111 (by decide) ?_
                      exact ih14 _ _ f20 y21 hS (lv_sub hl [2, 3, 4, 1, 0] rfl) (iv_of (iv_add (a' := 1) (b' := 5) ey21 (iv_lt (b' := 4) (iv_gt_of c15) hz14_5 (iv_le (b' := 5) c7 (iv_ler (c' := 1) (iv_ge_of c4) (iv_c 1 (a := 1) (b := 1) (by decide +kernel)) (iv_top x3) (by decide +kernel)) hf6 (by decide +kernel)) (by decide +kernel)) (iv_c _ (a := 1) (b := 1) (by decide +kernel)) (by decide +kernel)) (a' := 0) (b' := 5) (by decide +kernel)) (iv_stepU ey21 (iv_lt (b' := 4) (iv_gt_of c15) hz14_5 (iv_le (b' := 5) c7 (iv_ler (c' := 1) (iv_ge_of c4) (iv_c 1 (a := 1) (b := 1) (by decide +kernel)) (iv_top x3) (by decide +kernel)) hf6 (by decide +kernel)) (by decide +kernel)) (by decide +kernel) hN14)
                exact B14_86 _ _ _ 0 0 hS (lv_sub hl [2, 3, 5, 1, 0] rfl) (iv_of (iv_c 0 (a := 0) (b := 0) (by decide +kernel)) (a' := 0) (b' := 5) (by decide +kernel)) (Nat.le_refl _)
              · refine lv_iconst (v := 0) X.1 X.2.1 dX4_cutBits_78 (by decide +kernel) ?_
                exact sg_iretP X hr hlk hS trivial dX4_cutBits_79
          · refine lv_aload_n X.1 X.2.1 dX4_cutBits_33 rfl (lv_at hl 0 rfl) ?_
            refine lv_iload_n X.1 X.2.1 dX4_cutBits_34 rfl (lv_at hl 1 rfl) ?_
            refine ca_X4_column X hK hG hC (fun _ h => h.elim) hS hb a0 h0 x1 wl_3_181 hl.1 (rest := []) rfl (Nat.le_of_ble_eq_true rfl) ⟨Nat.le_of_ble_eq_true rfl, Nat.le_of_ble_eq_true rfl⟩ ⟨Nat.le_of_ble_eq_true rfl, Nat.le_of_ble_eq_true rfl⟩ dX4_cutBits_35 (fun f22 locs hf22 hS => ?_)
            refine lv_iload_n X.1 X.2.1 dX4_cutBits_38 rfl (lv_at hl 3 rfl) ?_
            refine lv_iadd X.1 X.2.1 dX4_cutBits_39 ?_
            refine lv_topi (fun f23 ef23 => ?_)
            refine lv_aload_n X.1 X.2.1 dX4_cutBits_40 rfl (lv_at hl 0 rfl) ?_
            refine gf_X4_7 X hK hG h0 wl_1_225 dX4_cutBits_41 (fun f24 hf24 kf24 => ?_)
            refine lv_icmp_le (tgt := 51) X.1 X.2.1 dX4_cutBits_44 (by decide) (fun c25 => ?_) (fun c25 => ?_)
            · refine lv_iconst (v := 1) X.1 X.2.1 dX4_cutBits_51 (by decide +kernel) ?_
              refine lv_iload_n X.1 X.2.1 dX4_cutBits_52 rfl (lv_at hl 3 rfl) ?_
              refine lv_ishl X.1 X.2.1 dX4_cutBits_53 ?_
              refine lv_topi (fun f26 ef26 => ?_)
              refine lv_iconst (v := 1) X.1 X.2.1 dX4_cutBits_54 (by decide +kernel) ?_
              refine lv_isub X.1 X.2.1 dX4_cutBits_55 ?_
              refine lv_topi (fun f27 ef27 => ?_)
              refine lv_iload_n X.1 X.2.1 dX4_cutBits_56 rfl (lv_at hl 1 rfl) ?_
              refine lv_ishl X.1 X.2.1 dX4_cutBits_57 ?_
              refine lv_topi (fun f28 ef28 => ?_)
              exact sg_iretP X hr hlk hS trivial dX4_cutBits_58
            · refine lv_iconst (v := 0) X.1 X.2.1 dX4_cutBits_47 (by decide +kernel) ?_
              refine lv_goto (tgt := 58) X.1 X.2.1 dX4_cutBits_48 (by decide) ?_
              exact sg_iretP X hr hlk hS trivial dX4_cutBits_58
        · refine lv_iconst (v := 0) X.1 X.2.1 dX4_cutBits_27 (by decide +kernel) ?_
          exact sg_iretP X hr hlk hS trivial dX4_cutBits_28

theorem ca_X4_cutBits   (X : CallFix p m c cc nL s args sg_tbl own) (hK : va_K D vwCl tys s) (hG : sgG (KT P) D vwCl (fun q : Nat => base ≤ q) tys ad ks H) (hC : sgC base s) (hA : ∀ q : Nat, A q → base ≤ q) (hS : va_S A s.heap H locs) (hb : base ≤ s.heap.size) (a0 : Nat) (h0 : isK ad ks 4 a0) (x1 : Int32) (x2 : Int32) (x3 : Int32) (hl : Cond.methodLink own index yX4_cutBits ∈ sg_tbl) (hsize : ls.size = nL) (hst : st0 = [.int x1, .int x2, .int x3].reverse ++ .ref a0 :: rest) (hW : (rest.map fun v => v.category).sum ≤ 8) (hR : 2 ≤ R.frames ∧ 46 ≤ R.locals) (hf : cells ≤ R.cells ∧ slots ≤ R.slots) (hdg : decode cc pc = .ok (.invokevirtual index, 3)) (kk : ∀ (r : Int32) (locs1 : List Loc), (fun r : Int32 => True) r → va_S A s.heap H locs1 → W p l e R s m args below meth c H locs1 cells slots Q (F0 m (pc + 3) ls (.int r :: rest))) : W p l e R s m args below meth c H locs cells slots Q (F0 m pc ls st0) :=
  sg_callPVi X hK hG hC hA hS hb (m_X4_cutBits l a0 h0 x1 x2 x3) h0 (k := 4) (ci := 4) rfl (C := RX4) (T := TX4) (N := 15) rfl wl_4_148 wl_1_7 wl_4_146 wl_4_147 (n := 3) (by decide +kernel) rfl rfl rfl hl hsize hst hW hR hf hdg kk

set_option maxHeartbeats 8000000 in
set_option maxRecDepth 100000 in
theorem m_X4_canCut (l : Launch) {D : va_G} {base : Nat} {tys : List (ClassId × FieldType)} {ad ks : List Nat} {P : sgPm} {Hx : Heap} (a0 : Nat) (h0 : isK ad ks 4 a0) (x1 : Int32) (x2 : Int32) (x3 : Int32) (x4 : Int32) : sgPi l (KT P) D vwCl base tys ad ks Hx yX4_canCut cX4_canCut 6 (some .boolean) ({ frames := 2, cells := 0, slots := 0, locals := 46 }) [.ref a0, .int x1, .int x2, .int x3, .int x4] (fun r : Int32 => iv 0 1 r) := by
  refine sg_ofP (Pq := fun Hx => va_Qi (fun r (_ : Unit) => (fun r : Int32 => iv 0 1 r) r) (fun _ t => t.heap = Hx) (fun _ : Nat => False)) (by decide +kernel) (Nat.le_of_ble_eq_true rfl) (fun p e s m below meth c X hr hlk hb hK hC hG ls hl => ?_)
  have hS : va_S (fun _ : Nat => False) s.heap s.heap [] := va_S.rf
  have hl : lv_has ls 6 [(0, .ref a0), (1, .int x1), (2, .int x2), (3, .int x3), (4, .int x4)] := hl
  refine lv_aload_n X.1 X.2.1 dX4_canCut_0 rfl (lv_at hl 0 rfl) ?_
  refine lv_iload_n X.1 X.2.1 dX4_canCut_1 rfl (lv_at hl 2 rfl) ?_
  refine lv_iload_n X.1 X.2.1 dX4_canCut_2 rfl (lv_at hl 3 rfl) ?_
  refine lv_iload X.1 X.2.1 dX4_canCut_3 (lv_at hl 4 rfl) ?_
  refine ca_X4_cutBits X hK hG hC (fun _ h => h.elim) hS hb a0 h0 x2 x3 x4 wl_4_145 hl.1 (rest := []) rfl (Nat.le_of_ble_eq_true rfl) ⟨Nat.le_of_ble_eq_true rfl, Nat.le_of_ble_eq_true rfl⟩ ⟨Nat.le_of_ble_eq_true rfl, Nat.le_of_ble_eq_true rfl⟩ dX4_canCut_5 (fun f1 locs hf1 hS => ?_)
  refine lv_istore (lv' := [(5, .int f1), (0, .ref a0), (1, .int x1), (2, .int x2), (3, .int x3), (4, .int x4)]) X.1 X.2.1 dX4_canCut_8 hl (by decide) rfl (fun ls hl => ?_)
  refine lv_iload X.1 X.2.1 dX4_canCut_10 (lv_at hl 0 rfl) ?_
  have B3_28 : ∀ (locs : List Loc) (ls : Array Slot), va_S (fun _ : Nat => False) s.heap s.heap locs → lv_has ls 6 [] → W p l e (headSpec (Cond.code yX4_canCut cX4_canCut 6 (some .boolean) :: sg_tbl) ({ frames := 2, cells := 0, slots := 0, locals := 46 })).room s m #[.ref a0, .int x1, .int x2, .int x3, .int x4] below meth c s.heap locs 0 0 (MQ below (va_Qi (fun r (_ : Unit) => (fun r : Int32 => iv 0 1 r) r) (fun _ t => t.heap = s.heap) (fun _ : Nat => False)) #[.ref a0, .int x1, .int x2, .int x3, .int x4] s 0 0 (fun _ : Nat => False)) (F0 m 28 ls []) := by
    intro locs ls hS hl
    refine lv_iconst (v := 0) X.1 X.2.1 dX4_canCut_28 (by decide +kernel) ?_
    exact sg_zretP X hr (sg_zn (iv_of (iv_c 0 (a := 0) (b := 0) (by decide +kernel)) (a' := 0) (b' := 1) (by decide +kernel))) hlk hS (iv_of (iv_c 0 (a := 0) (b := 0) (by decide +kernel)) (a' := 0) (b' := 1) (by decide +kernel)) dX4_canCut_29
  refine lv_if_eq (tgt := 28) X.1 X.2.1 dX4_canCut_12 (by decide) (fun c2 => ?_) (fun c2 => ?_)
  · exact B3_28 _ _ hS (lv_sub hl [] rfl)
  · refine lv_iload_n X.1 X.2.1 dX4_canCut_15 rfl (lv_at hl 2 rfl) ?_
    refine lv_iload X.1 X.2.1 dX4_canCut_16 (lv_at hl 0 rfl) ?_
    refine lv_iand X.1 X.2.1 dX4_canCut_18 ?_
    refine lv_topi (fun f4 ef4 => ?_)
    refine lv_iload X.1 X.2.1 dX4_canCut_19 (lv_at hl 0 rfl) ?_
    refine lv_icmp_ne (tgt := 28) X.1 X.2.1 dX4_canCut_21 (by decide) (fun c5 => ?_) (fun c5 => ?_)
    · exact B3_28 _ _ hS (lv_sub hl [] rfl)
    · refine lv_iconst (v := 1) X.1 X.2.1 dX4_canCut_24 (by decide +kernel) ?_
      refine lv_goto (tgt := 29) X.1 X.2.1 dX4_canCut_25 (by decide) ?_
      exact sg_zretP X hr (sg_zn (iv_of (iv_c 1 (a := 1) (b := 1) (by decide +kernel)) (a' := 0) (b' := 1) (by decide +kernel))) hlk hS (iv_of (iv_c 1 (a := 1) (b := 1) (by decide +kernel)) (a' := 0) (b' := 1) (by decide +kernel)) dX4_canCut_29

theorem ca_X4_canCut   (X : CallFix p m c cc nL s args sg_tbl own) (hK : va_K D vwCl tys s) (hG : sgG (KT P) D vwCl (fun q : Nat => base ≤ q) tys ad ks H) (hC : sgC base s) (hA : ∀ q : Nat, A q → base ≤ q) (hS : va_S A s.heap H locs) (hb : base ≤ s.heap.size) (a0 : Nat) (h0 : isK ad ks 4 a0) (x1 : Int32) (x2 : Int32) (x3 : Int32) (x4 : Int32) (hl : Cond.methodLink own index yX4_canCut ∈ sg_tbl) (hsize : ls.size = nL) (hst : st0 = [.int x1, .int x2, .int x3, .int x4].reverse ++ .ref a0 :: rest) (hW : (rest.map fun v => v.category).sum ≤ 8) (hR : 3 ≤ R.frames ∧ 71 ≤ R.locals) (hf : cells ≤ R.cells ∧ slots ≤ R.slots) (hdg : decode cc pc = .ok (.invokevirtual index, 3)) (kk : ∀ (r : Int32) (locs1 : List Loc), (fun r : Int32 => iv 0 1 r) r → va_S A s.heap H locs1 → W p l e R s m args below meth c H locs1 cells slots Q (F0 m (pc + 3) ls (.int r :: rest))) : W p l e R s m args below meth c H locs cells slots Q (F0 m pc ls st0) :=
  sg_callPVi X hK hG hC hA hS hb (m_X4_canCut l a0 h0 x1 x2 x3 x4) h0 (k := 4) (ci := 4) rfl (C := RX4) (T := TX4) (N := 15) rfl wl_4_144 wl_1_7 wl_4_142 wl_4_143 (n := 4) (by decide +kernel) rfl rfl rfl hl hsize hst hW hR hf hdg kk

set_option maxHeartbeats 8000000 in
set_option maxRecDepth 100000 in
theorem m_X4_mirroredCell (l : Launch) {D : va_G} {base : Nat} {tys : List (ClassId × FieldType)} {ad ks : List Nat} {P : sgPm} {Hx : Heap} (a0 : Nat) (h0 : isK ad ks 4 a0) (x1 : Int32) (x2 : Int32) : sgPi l (KT P) D vwCl base tys ad ks Hx yX4_mirroredCell cX4_mirroredCell 5 (some .int) ({ frames := 1, cells := 0, slots := 0, locals := 21 }) [.ref a0, .int x1, .int x2] (fun r : Int32 => True) := by
  refine sg_ofP (Pq := fun Hx => va_Qi (fun r (_ : Unit) => (fun r : Int32 => True) r) (fun _ t => t.heap = Hx) (fun _ : Nat => False)) (by decide +kernel) (Nat.le_of_ble_eq_true rfl) (fun p e s m below meth c X hr hlk hb hK hC hG ls hl => ?_)
  have hS : va_S (fun _ : Nat => False) s.heap s.heap [] := va_S.rf
  have hl : lv_has ls 5 [(0, .ref a0), (1, .int x1), (2, .int x2)] := hl
  refine lv_iload_n X.1 X.2.1 dX4_mirroredCell_0 rfl (lv_at hl 2 rfl) ?_
  refine lv_iconst (v := 1) X.1 X.2.1 dX4_mirroredCell_1 (by decide +kernel) ?_
  refine lv_iand X.1 X.2.1 dX4_mirroredCell_2 ?_
  refine lv_topi (fun f1 ef1 => ?_)
  have B3_26 : ∀ (locs : List Loc) (ls : Array Slot) (w3_0 : Int32), va_S (fun _ : Nat => False) s.heap s.heap locs → lv_has ls 5 [(0, .ref a0), (1, .int x1), (2, .int x2)] → W p l e (headSpec (Cond.code yX4_mirroredCell cX4_mirroredCell 5 (some .int) :: sg_tbl) ({ frames := 1, cells := 0, slots := 0, locals := 21 })).room s m #[.ref a0, .int x1, .int x2] below meth c s.heap locs 0 0 (MQ below (va_Qi (fun r (_ : Unit) => (fun r : Int32 => True) r) (fun _ t => t.heap = s.heap) (fun _ : Nat => False)) #[.ref a0, .int x1, .int x2] s 0 0 (fun _ : Nat => False)) (F0 m 26 ls [.int w3_0]) := by
    intro locs ls w3_0 hS hl
    refine lv_istore_n (lv' := [(3, .int w3_0), (0, .ref a0), (1, .int x1), (2, .int x2)]) X.1 X.2.1 dX4_mirroredCell_26 rfl hl (by decide) rfl (fun ls hl => ?_)
    refine lv_iload_n X.1 X.2.1 dX4_mirroredCell_27 rfl (lv_at hl 3 rfl) ?_
    refine lv_iconst (v := 2) X.1 X.2.1 dX4_mirroredCell_28 (by decide +kernel) ?_
    refine lv_iand X.1 X.2.1 dX4_mirroredCell_29 ?_
    refine lv_topi (fun f4 ef4 => ?_)
    have B6_53 : ∀ (locs : List Loc) (ls : Array Slot) (w6_0 : Int32), va_S (fun _ : Nat => False) s.heap s.heap locs → lv_has ls 5 [(0, .ref a0), (2, .int x2), (3, .int w3_0)] → W p l e (headSpec (Cond.code yX4_mirroredCell cX4_mirroredCell 5 (some .int) :: sg_tbl) ({ frames := 1, cells := 0, slots := 0, locals := 21 })).room s m #[.ref a0, .int x1, .int x2] below meth c s.heap locs 0 0 (MQ below (va_Qi (fun r (_ : Unit) => (fun r : Int32 => True) r) (fun _ t => t.heap = s.heap) (fun _ : Nat => False)) #[.ref a0, .int x1, .int x2] s 0 0 (fun _ : Nat => False)) (F0 m 53 ls [.int w6_0]) := by
      intro locs ls w6_0 hS hl
      refine lv_istore (lv' := [(4, .int w6_0), (0, .ref a0), (2, .int x2), (3, .int w3_0)]) X.1 X.2.1 dX4_mirroredCell_53 hl (by decide) rfl (fun ls hl => ?_)
      refine lv_iload_n X.1 X.2.1 dX4_mirroredCell_55 rfl (lv_at hl 2 rfl) ?_
      refine lv_iconst (v := 4) X.1 X.2.1 dX4_mirroredCell_56 (by decide +kernel) ?_
      refine lv_iand X.1 X.2.1 dX4_mirroredCell_57 ?_
      refine lv_topi (fun f7 ef7 => ?_)
      refine lv_if_ne (tgt := 73) X.1 X.2.1 dX4_mirroredCell_58 (by decide) (fun c8 => ?_) (fun c8 => ?_)
      · refine lv_iload X.1 X.2.1 dX4_mirroredCell_73 (lv_at hl 0 rfl) ?_
        refine lv_aload_n X.1 X.2.1 dX4_mirroredCell_75 rfl (lv_at hl 1 rfl) ?_
        refine gf_X4_7 X hK hG h0 wl_1_225 dX4_mirroredCell_76 (fun f9 hf9 kf9 => ?_)
        refine lv_imul X.1 X.2.1 dX4_mirroredCell_79 ?_
        refine lv_topi (fun f10 ef10 => ?_)
        refine lv_iload_n X.1 X.2.1 dX4_mirroredCell_80 rfl (lv_at hl 3 rfl) ?_
        refine lv_iadd X.1 X.2.1 dX4_mirroredCell_81 ?_
        refine lv_topi (fun f11 ef11 => ?_)
        exact sg_iretP X hr hlk hS trivial dX4_mirroredCell_82
      · refine lv_iload_n X.1 X.2.1 dX4_mirroredCell_61 rfl (lv_at hl 3 rfl) ?_
        refine lv_aload_n X.1 X.2.1 dX4_mirroredCell_62 rfl (lv_at hl 1 rfl) ?_
        refine gf_X4_7 X hK hG h0 wl_1_225 dX4_mirroredCell_63 (fun f12 hf12 kf12 => ?_)
        refine lv_imul X.1 X.2.1 dX4_mirroredCell_66 ?_
        refine lv_topi (fun f13 ef13 => ?_)
        refine lv_iload X.1 X.2.1 dX4_mirroredCell_67 (lv_at hl 0 rfl) ?_
        refine lv_iadd X.1 X.2.1 dX4_mirroredCell_69 ?_
        refine lv_topi (fun f14 ef14 => ?_)
        refine lv_goto (tgt := 82) X.1 X.2.1 dX4_mirroredCell_70 (by decide) ?_
        exact sg_iretP X hr hlk hS trivial dX4_mirroredCell_82
    refine lv_if_ne (tgt := 41) X.1 X.2.1 dX4_mirroredCell_30 (by decide) (fun c5 => ?_) (fun c5 => ?_)
    · refine lv_aload_n X.1 X.2.1 dX4_mirroredCell_41 rfl (lv_at hl 1 rfl) ?_
      refine gf_X4_7 X hK hG h0 wl_1_225 dX4_mirroredCell_42 (fun f15 hf15 kf15 => ?_)
      refine lv_iconst (v := 1) X.1 X.2.1 dX4_mirroredCell_45 (by decide +kernel) ?_
      refine lv_isub X.1 X.2.1 dX4_mirroredCell_46 ?_
      refine lv_topi (fun f16 ef16 => ?_)
      refine lv_aload_n X.1 X.2.1 dX4_mirroredCell_47 rfl (lv_at hl 1 rfl) ?_
      refine lv_iload_n X.1 X.2.1 dX4_mirroredCell_48 rfl (lv_at hl 2 rfl) ?_
      refine ca_X4_column X hK hG hC (fun _ h => h.elim) hS hb a0 h0 x1 wl_3_181 hl.1 (rest := [.int f16]) rfl (Nat.le_of_ble_eq_true rfl) ⟨Nat.le_of_ble_eq_true rfl, Nat.le_of_ble_eq_true rfl⟩ ⟨Nat.le_of_ble_eq_true rfl, Nat.le_of_ble_eq_true rfl⟩ dX4_mirroredCell_49 (fun f17 locs hf17 hS => ?_)
      refine lv_isub X.1 X.2.1 dX4_mirroredCell_52 ?_
      refine lv_topi (fun f18 ef18 => ?_)
      exact B6_53 _ _ f18 hS (lv_sub hl [1, 3, 0] rfl)
    · refine lv_aload_n X.1 X.2.1 dX4_mirroredCell_33 rfl (lv_at hl 1 rfl) ?_
      refine lv_iload_n X.1 X.2.1 dX4_mirroredCell_34 rfl (lv_at hl 2 rfl) ?_
      refine ca_X4_column X hK hG hC (fun _ h => h.elim) hS hb a0 h0 x1 wl_3_181 hl.1 (rest := []) rfl (Nat.le_of_ble_eq_true rfl) ⟨Nat.le_of_ble_eq_true rfl, Nat.le_of_ble_eq_true rfl⟩ ⟨Nat.le_of_ble_eq_true rfl, Nat.le_of_ble_eq_true rfl⟩ dX4_mirroredCell_35 (fun f19 locs hf19 hS => ?_)
      refine lv_goto (tgt := 53) X.1 X.2.1 dX4_mirroredCell_38 (by decide) ?_
      exact B6_53 _ _ f19 hS (lv_sub hl [1, 3, 0] rfl)
  refine lv_if_ne (tgt := 14) X.1 X.2.1 dX4_mirroredCell_3 (by decide) (fun c2 => ?_) (fun c2 => ?_)
  · refine lv_aload_n X.1 X.2.1 dX4_mirroredCell_14 rfl (lv_at hl 0 rfl) ?_
    refine gf_X4_8 X hK hG h0 wl_1_226 dX4_mirroredCell_15 (fun f20 hf20 kf20 => ?_)
    refine lv_iconst (v := 1) X.1 X.2.1 dX4_mirroredCell_18 (by decide +kernel) ?_
    refine lv_isub X.1 X.2.1 dX4_mirroredCell_19 ?_
    refine lv_topi (fun f21 ef21 => ?_)
    refine lv_aload_n X.1 X.2.1 dX4_mirroredCell_20 rfl (lv_at hl 0 rfl) ?_
    refine lv_iload_n X.1 X.2.1 dX4_mirroredCell_21 rfl (lv_at hl 1 rfl) ?_
    refine ca_X4_row X hK hG hC (fun _ h => h.elim) hS hb a0 h0 x1 wl_4_149 hl.1 (rest := [.int f21]) rfl (Nat.le_of_ble_eq_true rfl) ⟨Nat.le_of_ble_eq_true rfl, Nat.le_of_ble_eq_true rfl⟩ ⟨Nat.le_of_ble_eq_true rfl, Nat.le_of_ble_eq_true rfl⟩ dX4_mirroredCell_22 (fun f22 locs hf22 hS => ?_)
    refine lv_isub X.1 X.2.1 dX4_mirroredCell_25 ?_
    refine lv_topi (fun f23 ef23 => ?_)
    exact B3_26 _ _ f23 hS (lv_sub hl [0, 1, 2] rfl)
  · refine lv_aload_n X.1 X.2.1 dX4_mirroredCell_6 rfl (lv_at hl 0 rfl) ?_
    refine lv_iload_n X.1 X.2.1 dX4_mirroredCell_7 rfl (lv_at hl 1 rfl) ?_
    refine ca_X4_row X hK hG hC (fun _ h => h.elim) hS hb a0 h0 x1 wl_4_149 hl.1 (rest := []) rfl (Nat.le_of_ble_eq_true rfl) ⟨Nat.le_of_ble_eq_true rfl, Nat.le_of_ble_eq_true rfl⟩ ⟨Nat.le_of_ble_eq_true rfl, Nat.le_of_ble_eq_true rfl⟩ dX4_mirroredCell_8 (fun f24 locs hf24 hS => ?_)
    refine lv_goto (tgt := 26) X.1 X.2.1 dX4_mirroredCell_11 (by decide) ?_
    exact B3_26 _ _ f24 hS (lv_sub hl [0, 1, 2] rfl)

theorem ca_X4_mirroredCell   (X : CallFix p m c cc nL s args sg_tbl own) (hK : va_K D vwCl tys s) (hG : sgG (KT P) D vwCl (fun q : Nat => base ≤ q) tys ad ks H) (hC : sgC base s) (hA : ∀ q : Nat, A q → base ≤ q) (hS : va_S A s.heap H locs) (hb : base ≤ s.heap.size) (a0 : Nat) (h0 : isK ad ks 4 a0) (x1 : Int32) (x2 : Int32) (hl : Cond.methodLink own index yX4_mirroredCell ∈ sg_tbl) (hsize : ls.size = nL) (hst : st0 = [.int x1, .int x2].reverse ++ .ref a0 :: rest) (hW : (rest.map fun v => v.category).sum ≤ 8) (hR : 2 ≤ R.frames ∧ 45 ≤ R.locals) (hf : cells ≤ R.cells ∧ slots ≤ R.slots) (hdg : decode cc pc = .ok (.invokevirtual index, 3)) (kk : ∀ (r : Int32) (locs1 : List Loc), (fun r : Int32 => True) r → va_S A s.heap H locs1 → W p l e R s m args below meth c H locs1 cells slots Q (F0 m (pc + 3) ls (.int r :: rest))) : W p l e R s m args below meth c H locs cells slots Q (F0 m pc ls st0) :=
  sg_callPVi X hK hG hC hA hS hb (m_X4_mirroredCell l a0 h0 x1 x2) h0 (k := 4) (ci := 4) rfl (C := RX4) (T := TX4) (N := 15) rfl wl_6_28 wl_1_7 wl_6_27 wl_0_44 (n := 2) (by decide +kernel) rfl rfl rfl hl hsize hst hW hR hf hdg kk

set_option maxHeartbeats 8000000 in
set_option maxRecDepth 100000 in
theorem m_X4_mirroredBits (l : Launch) {D : va_G} {base : Nat} {tys : List (ClassId × FieldType)} {ad ks : List Nat} {P : sgPm} {Hx : Heap} (a0 : Nat) (h0 : isK ad ks 4 a0) (x1 : Int32) (x2 : Int32) : sgPi l (KT P) D vwCl base tys ad ks Hx yX4_mirroredBits cX4_mirroredBits 5 (some .int) ({ frames := 2, cells := 0, slots := 0, locals := 45 }) [.ref a0, .int x1, .int x2] (fun r : Int32 => True) := by
  refine sg_ofP (Pq := fun Hx => va_Qi (fun r (_ : Unit) => (fun r : Int32 => True) r) (fun _ t => t.heap = Hx) (fun _ : Nat => False)) (by decide +kernel) (Nat.le_of_ble_eq_true rfl) (fun p e s m below meth c X hr hlk hb hK hC hG ls hl => ?_)
  have hS : va_S (fun _ : Nat => False) s.heap s.heap [] := va_S.rf
  have hl : lv_has ls 5 [(0, .ref a0), (1, .int x1), (2, .int x2)] := hl
  refine lv_iconst (v := 0) X.1 X.2.1 dX4_mirroredBits_0 (by decide +kernel) ?_
  refine lv_istore_n (lv' := [(3, .int 0), (0, .ref a0), (1, .int x1), (2, .int x2)]) X.1 X.2.1 dX4_mirroredBits_1 rfl hl (by decide) rfl (fun ls hl => ?_)
  refine lv_iconst (v := 0) X.1 X.2.1 dX4_mirroredBits_2 (by decide +kernel) ?_
  refine lv_istore (lv' := [(4, .int 0), (3, .int 0), (0, .ref a0), (1, .int x1), (2, .int x2)]) X.1 X.2.1 dX4_mirroredBits_3 hl (by decide) rfl (fun ls hl => ?_)
  have B1_5 : ∀ (N : Nat) (locs : List Loc) (ls : Array Slot) (z1_3 : Int32) (z1_4 : Int32), va_S (fun _ : Nat => False) s.heap s.heap locs → lv_has ls 5 [(0, .ref a0), (1, .int x1), (2, .int x2), (3, .int z1_3), (4, .int z1_4)] → iv 0 30 z1_4 → (31 - z1_4.toInt).toNat ≤ N → W p l e (headSpec (Cond.code yX4_mirroredBits cX4_mirroredBits 5 (some .int) :: sg_tbl) ({ frames := 2, cells := 0, slots := 0, locals := 45 })).room s m #[.ref a0, .int x1, .int x2] below meth c s.heap locs 0 0 (MQ below (va_Qi (fun r (_ : Unit) => (fun r : Int32 => True) r) (fun _ t => t.heap = s.heap) (fun _ : Nat => False)) #[.ref a0, .int x1, .int x2] s 0 0 (fun _ : Nat => False)) (F0 m 5 ls []) := by
    intro N; induction N with
    | zero =>
      intro locs ls z1_3 z1_4 hS hl hz1_4 hN
      exact absurd hN (by have := iv_up hz1_4; omega)
    | succ N ih1 =>
      intro locs ls z1_3 z1_4 hS hl hz1_4 hN1
      refine lv_iload X.1 X.2.1 dX4_mirroredBits_5 (lv_at hl 4 rfl) ?_
      refine lv_aload_n X.1 X.2.1 dX4_mirroredBits_7 rfl (lv_at hl 0 rfl) ?_
      refine gf_X4_5 X hK hG h0 wl_1_221 dX4_mirroredBits_8 (fun f2 hf2 kf2 => ?_)
      refine lv_icmp_ge (tgt := 41) X.1 X.2.1 dX4_mirroredBits_11 (by decide) (fun c3 => ?_) (fun c3 => ?_)
      · refine lv_iload_n X.1 X.2.1 dX4_mirroredBits_41 rfl (lv_at hl 3 rfl) ?_
        exact sg_iretP X hr hlk hS trivial dX4_mirroredBits_42
      · refine lv_iload_n X.1 X.2.1 dX4_mirroredBits_14 rfl (lv_at hl 1 rfl) ?_
        refine lv_iload X.1 X.2.1 dX4_mirroredBits_15 (lv_at hl 4 rfl) ?_
        refine lv_ishr X.1 X.2.1 dX4_mirroredBits_17 ?_
        refine lv_topi (fun f4 ef4 => ?_)
        refine lv_iconst (v := 1) X.1 X.2.1 dX4_mirroredBits_18 (by decide +kernel) ?_
        refine lv_iand X.1 X.2.1 dX4_mirroredBits_19 ?_
        refine lv_topi (fun f5 ef5 => ?_)
        have B7_35 : ∀ (locs : List Loc) (ls : Array Slot) (z7_3 : Int32), va_S (fun _ : Nat => False) s.heap s.heap locs → lv_has ls 5 [(0, .ref a0), (1, .int x1), (2, .int x2), (3, .int z7_3), (4, .int z1_4)] → W p l e (headSpec (Cond.code yX4_mirroredBits cX4_mirroredBits 5 (some .int) :: sg_tbl) ({ frames := 2, cells := 0, slots := 0, locals := 45 })).room s m #[.ref a0, .int x1, .int x2] below meth c s.heap locs 0 0 (MQ below (va_Qi (fun r (_ : Unit) => (fun r : Int32 => True) r) (fun _ t => t.heap = s.heap) (fun _ : Nat => False)) #[.ref a0, .int x1, .int x2] s 0 0 (fun _ : Nat => False)) (F0 m 35 ls []) := by
          intro locs ls z7_3 hS hl
          obtain ⟨y8, ey8⟩ : ∃ y : Int32, y = z1_4 + Int32.ofInt 1 := ⟨_, rfl⟩
          refine lv_iinc (v := y8) (lv' := [(4, .int y8), (0, .ref a0), (1, .int x1), (2, .int x2), (3, .int z7_3)]) X.1 X.2.1 dX4_mirroredBits_35 hl (k := 4) rfl ey8.symm (by decide) rfl (fun ls hl => ?_)
          refine lv_goto (tgt := 5) X.1 X.2.1 dX4_mirroredBits_38 (by decide) ?_
          exact ih1 _ _ z7_3 y8 hS (lv_sub hl [1, 2, 3, 4, 0] rfl) (iv_of (iv_add (a' := 1) (b' := 30) ey8 (iv_lt (b' := 29) (iv_gt_of c3) hz1_4 hf2 (by decide +kernel)) (iv_c _ (a := 1) (b := 1) (by decide +kernel)) (by decide +kernel)) (a' := 0) (b' := 30) (by decide +kernel)) (iv_stepU ey8 (iv_lt (b' := 29) (iv_gt_of c3) hz1_4 hf2 (by decide +kernel)) (by decide +kernel) hN1)
        refine lv_if_eq (tgt := 35) X.1 X.2.1 dX4_mirroredBits_20 (by decide) (fun c6 => ?_) (fun c6 => ?_)
        · exact B7_35 _ _ z1_3 hS (lv_sub hl [0, 1, 2, 3, 4] rfl)
        · refine lv_iload_n X.1 X.2.1 dX4_mirroredBits_23 rfl (lv_at hl 3 rfl) ?_
          refine lv_iconst (v := 1) X.1 X.2.1 dX4_mirroredBits_24 (by decide +kernel) ?_
          refine lv_aload_n X.1 X.2.1 dX4_mirroredBits_25 rfl (lv_at hl 0 rfl) ?_
          refine lv_iload X.1 X.2.1 dX4_mirroredBits_26 (lv_at hl 4 rfl) ?_
          refine lv_iload_n X.1 X.2.1 dX4_mirroredBits_28 rfl (lv_at hl 2 rfl) ?_
          refine ca_X4_mirroredCell X hK hG hC (fun _ h => h.elim) hS hb a0 h0 z1_4 x2 wl_6_25 hl.1 (rest := [.int 1, .int z1_3]) rfl (Nat.le_of_ble_eq_true rfl) ⟨Nat.le_of_ble_eq_true rfl, Nat.le_of_ble_eq_true rfl⟩ ⟨Nat.le_of_ble_eq_true rfl, Nat.le_of_ble_eq_true rfl⟩ dX4_mirroredBits_29 (fun f9 locs hf9 hS => ?_)
          refine lv_ishl X.1 X.2.1 dX4_mirroredBits_32 ?_
          refine lv_topi (fun f10 ef10 => ?_)
          refine lv_ior X.1 X.2.1 dX4_mirroredBits_33 ?_
          refine lv_topi (fun f11 ef11 => ?_)
          refine lv_istore_n (lv' := [(3, .int f11), (0, .ref a0), (1, .int x1), (2, .int x2), (4, .int z1_4)]) X.1 X.2.1 dX4_mirroredBits_34 rfl hl (by decide) rfl (fun ls hl => ?_)
          exact B7_35 _ _ f11 hS (lv_sub hl [1, 2, 3, 0, 4] rfl)
  exact B1_5 _ _ _ 0 0 hS (lv_sub hl [2, 3, 4, 1, 0] rfl) (iv_of (iv_c 0 (a := 0) (b := 0) (by decide +kernel)) (a' := 0) (b' := 30) (by decide +kernel)) (Nat.le_refl _)

theorem ca_X4_mirroredBits   (X : CallFix p m c cc nL s args sg_tbl own) (hK : va_K D vwCl tys s) (hG : sgG (KT P) D vwCl (fun q : Nat => base ≤ q) tys ad ks H) (hC : sgC base s) (hA : ∀ q : Nat, A q → base ≤ q) (hS : va_S A s.heap H locs) (hb : base ≤ s.heap.size) (a0 : Nat) (h0 : isK ad ks 4 a0) (x1 : Int32) (x2 : Int32) (hl : Cond.methodLink own index yX4_mirroredBits ∈ sg_tbl) (hsize : ls.size = nL) (hst : st0 = [.int x1, .int x2].reverse ++ .ref a0 :: rest) (hW : (rest.map fun v => v.category).sum ≤ 8) (hR : 3 ≤ R.frames ∧ 69 ≤ R.locals) (hf : cells ≤ R.cells ∧ slots ≤ R.slots) (hdg : decode cc pc = .ok (.invokevirtual index, 3)) (kk : ∀ (r : Int32) (locs1 : List Loc), (fun r : Int32 => True) r → va_S A s.heap H locs1 → W p l e R s m args below meth c H locs1 cells slots Q (F0 m (pc + 3) ls (.int r :: rest))) : W p l e R s m args below meth c H locs cells slots Q (F0 m pc ls st0) :=
  sg_callPVi X hK hG hC hA hS hb (m_X4_mirroredBits l a0 h0 x1 x2) h0 (k := 4) (ci := 4) rfl (C := RX4) (T := TX4) (N := 15) rfl wl_6_24 wl_1_7 wl_6_22 wl_6_23 (n := 2) (by decide +kernel) rfl rfl rfl hl hsize hst hW hR hf hdg kk

set_option maxHeartbeats 8000000 in
set_option maxRecDepth 100000 in
theorem m_X4_mirroredLower (l : Launch) {D : va_G} {base : Nat} {tys : List (ClassId × FieldType)} {ad ks : List Nat} {P : sgPm} {Hx : Heap} (a0 : Nat) (h0 : isK ad ks 4 a0) (x1 : Int32) (x2 : Int32) : sgPi l (KT P) D vwCl base tys ad ks Hx yX4_mirroredLower cX4_mirroredLower 6 (some .int) ({ frames := 2, cells := 0, slots := 0, locals := 45 }) [.ref a0, .int x1, .int x2] (fun r : Int32 => True) := by
  refine sg_ofP (Pq := fun Hx => va_Qi (fun r (_ : Unit) => (fun r : Int32 => True) r) (fun _ t => t.heap = Hx) (fun _ : Nat => False)) (by decide +kernel) (Nat.le_of_ble_eq_true rfl) (fun p e s m below meth c X hr hlk hb hK hC hG ls hl => ?_)
  have hS : va_S (fun _ : Nat => False) s.heap s.heap [] := va_S.rf
  have hl : lv_has ls 6 [(0, .ref a0), (1, .int x1), (2, .int x2)] := hl
  refine lv_iconst (v := 0) X.1 X.2.1 dX4_mirroredLower_0 (by decide +kernel) ?_
  refine lv_istore_n (lv' := [(3, .int 0), (0, .ref a0), (1, .int x1), (2, .int x2)]) X.1 X.2.1 dX4_mirroredLower_1 rfl hl (by decide) rfl (fun ls hl => ?_)
  refine lv_iconst (v := 0) X.1 X.2.1 dX4_mirroredLower_2 (by decide +kernel) ?_
  refine lv_istore (lv' := [(4, .int 0), (3, .int 0), (0, .ref a0), (1, .int x1), (2, .int x2)]) X.1 X.2.1 dX4_mirroredLower_3 hl (by decide) rfl (fun ls hl => ?_)
  have B1_5 : ∀ (N : Nat) (locs : List Loc) (ls : Array Slot) (z1_3 : Int32) (z1_4 : Int32), va_S (fun _ : Nat => False) s.heap s.heap locs → lv_has ls 6 [(0, .ref a0), (1, .int x1), (2, .int x2), (3, .int z1_3), (4, .int z1_4)] → iv 0 1073741823 z1_3 → iv 0 30 z1_4 → (31 - z1_4.toInt).toNat ≤ N → W p l e (headSpec (Cond.code yX4_mirroredLower cX4_mirroredLower 6 (some .int) :: sg_tbl) ({ frames := 2, cells := 0, slots := 0, locals := 45 })).room s m #[.ref a0, .int x1, .int x2] below meth c s.heap locs 0 0 (MQ below (va_Qi (fun r (_ : Unit) => (fun r : Int32 => True) r) (fun _ t => t.heap = s.heap) (fun _ : Nat => False)) #[.ref a0, .int x1, .int x2] s 0 0 (fun _ : Nat => False)) (F0 m 5 ls []) := by
    intro N; induction N with
    | zero =>
      intro locs ls z1_3 z1_4 hS hl hz1_3 hz1_4 hN
      exact absurd hN (by have := iv_up hz1_4; omega)
    | succ N ih1 =>
      intro locs ls z1_3 z1_4 hS hl hz1_3 hz1_4 hN1
      refine lv_iload X.1 X.2.1 dX4_mirroredLower_5 (lv_at hl 4 rfl) ?_
      refine lv_aload_n X.1 X.2.1 dX4_mirroredLower_7 rfl (lv_at hl 0 rfl) ?_
      refine gf_X4_5 X hK hG h0 wl_1_221 dX4_mirroredLower_8 (fun f2 hf2 kf2 => ?_)
      refine lv_icmp_ge (tgt := 61) X.1 X.2.1 dX4_mirroredLower_11 (by decide) (fun c3 => ?_) (fun c3 => ?_)
      · refine lv_iload_n X.1 X.2.1 dX4_mirroredLower_61 rfl (lv_at hl 3 rfl) ?_
        exact sg_iretP X hr hlk hS trivial dX4_mirroredLower_62
      · refine lv_aload_n X.1 X.2.1 dX4_mirroredLower_14 rfl (lv_at hl 0 rfl) ?_
        refine lv_iload X.1 X.2.1 dX4_mirroredLower_15 (lv_at hl 4 rfl) ?_
        refine lv_iload_n X.1 X.2.1 dX4_mirroredLower_17 rfl (lv_at hl 2 rfl) ?_
        refine ca_X4_mirroredCell X hK hG hC (fun _ h => h.elim) hS hb a0 h0 z1_4 x2 wl_6_25 hl.1 (rest := []) rfl (Nat.le_of_ble_eq_true rfl) ⟨Nat.le_of_ble_eq_true rfl, Nat.le_of_ble_eq_true rfl⟩ ⟨Nat.le_of_ble_eq_true rfl, Nat.le_of_ble_eq_true rfl⟩ dX4_mirroredLower_18 (fun f4 locs hf4 hS => ?_)
        refine lv_istore (lv' := [(5, .int f4), (0, .ref a0), (1, .int x1), (2, .int x2), (3, .int z1_3), (4, .int z1_4)]) X.1 X.2.1 dX4_mirroredLower_21 hl (by decide) rfl (fun ls hl => ?_)
        refine lv_iload_n X.1 X.2.1 dX4_mirroredLower_23 rfl (lv_at hl 2 rfl) ?_
        refine lv_iload X.1 X.2.1 dX4_mirroredLower_24 (lv_at hl 5 rfl) ?_
        refine lv_ishr X.1 X.2.1 dX4_mirroredLower_26 ?_
        refine lv_topi (fun f5 ef5 => ?_)
        refine lv_iconst (v := 1) X.1 X.2.1 dX4_mirroredLower_27 (by decide +kernel) ?_
        refine lv_iand X.1 X.2.1 dX4_mirroredLower_28 ?_
        refine lv_topi (fun f6 ef6 => ?_)
        have B8_55 : ∀ (locs : List Loc) (ls : Array Slot) (z8_3 : Int32), va_S (fun _ : Nat => False) s.heap s.heap locs → lv_has ls 6 [(0, .ref a0), (1, .int x1), (2, .int x2), (3, .int z8_3), (4, .int z1_4)] → iv 0 1073741823 z8_3 → W p l e (headSpec (Cond.code yX4_mirroredLower cX4_mirroredLower 6 (some .int) :: sg_tbl) ({ frames := 2, cells := 0, slots := 0, locals := 45 })).room s m #[.ref a0, .int x1, .int x2] below meth c s.heap locs 0 0 (MQ below (va_Qi (fun r (_ : Unit) => (fun r : Int32 => True) r) (fun _ t => t.heap = s.heap) (fun _ : Nat => False)) #[.ref a0, .int x1, .int x2] s 0 0 (fun _ : Nat => False)) (F0 m 55 ls []) := by
          intro locs ls z8_3 hS hl hz8_3
          obtain ⟨y9, ey9⟩ : ∃ y : Int32, y = z1_4 + Int32.ofInt 1 := ⟨_, rfl⟩
          refine lv_iinc (v := y9) (lv' := [(4, .int y9), (0, .ref a0), (1, .int x1), (2, .int x2), (3, .int z8_3)]) X.1 X.2.1 dX4_mirroredLower_55 hl (k := 4) rfl ey9.symm (by decide) rfl (fun ls hl => ?_)
          refine lv_goto (tgt := 5) X.1 X.2.1 dX4_mirroredLower_58 (by decide) ?_
          exact ih1 _ _ z8_3 y9 hS (lv_sub hl [1, 2, 3, 4, 0] rfl) hz8_3 (iv_of (iv_add (a' := 1) (b' := 30) ey9 (iv_lt (b' := 29) (iv_gt_of c3) hz1_4 hf2 (by decide +kernel)) (iv_c _ (a := 1) (b := 1) (by decide +kernel)) (by decide +kernel)) (a' := 0) (b' := 30) (by decide +kernel)) (iv_stepU ey9 (iv_lt (b' := 29) (iv_gt_of c3) hz1_4 hf2 (by decide +kernel)) (by decide +kernel) hN1)
        refine lv_if_eq (tgt := 55) X.1 X.2.1 dX4_mirroredLower_29 (by decide) (fun c7 => ?_) (fun c7 => ?_)
        · exact B8_55 _ _ z1_3 hS (lv_sub hl [1, 2, 3, 4, 5] rfl) hz1_3
        · refine lv_iload_n X.1 X.2.1 dX4_mirroredLower_32 rfl (lv_at hl 2 rfl) ?_
          refine lv_iload X.1 X.2.1 dX4_mirroredLower_33 (lv_at hl 0 rfl) ?_
          refine lv_ishr X.1 X.2.1 dX4_mirroredLower_35 ?_
          refine lv_topi (fun f10 ef10 => ?_)
          refine lv_iconst (v := 1) X.1 X.2.1 dX4_mirroredLower_36 (by decide +kernel) ?_
          refine lv_iand X.1 X.2.1 dX4_mirroredLower_37 ?_
          refine lv_topi (fun f11 ef11 => ?_)
          refine lv_if_eq (tgt := 55) X.1 X.2.1 dX4_mirroredLower_38 (by decide) (fun c12 => ?_) (fun c12 => ?_)
          · exact B8_55 _ _ z1_3 hS (lv_sub hl [1, 2, 3, 4, 5] rfl) hz1_3
          · refine lv_iload X.1 X.2.1 dX4_mirroredLower_41 (lv_at hl 0 rfl) ?_
            refine lv_iload X.1 X.2.1 dX4_mirroredLower_43 (lv_at hl 5 rfl) ?_
            refine lv_icmp_ge (tgt := 55) X.1 X.2.1 dX4_mirroredLower_45 (by decide) (fun c13 => ?_) (fun c13 => ?_)
            · exact B8_55 _ _ z1_3 hS (lv_sub hl [1, 2, 3, 4, 5] rfl) hz1_3
            · refine lv_iload_n X.1 X.2.1 dX4_mirroredLower_48 rfl (lv_at hl 4 rfl) ?_
              refine lv_iconst (v := 1) X.1 X.2.1 dX4_mirroredLower_49 (by decide +kernel) ?_
              refine lv_iload X.1 X.2.1 dX4_mirroredLower_50 (lv_at hl 5 rfl) ?_
              refine lv_ishl X.1 X.2.1 dX4_mirroredLower_52 ?_
              refine lv_topi (fun f14 ef14 => ?_)
              refine lv_ior X.1 X.2.1 dX4_mirroredLower_53 ?_
              refine lv_topi (fun f15 ef15 => ?_)
              refine lv_istore_n (lv' := [(3, .int f15), (5, .int f4), (0, .ref a0), (1, .int x1), (2, .int x2), (4, .int z1_4)]) X.1 X.2.1 dX4_mirroredLower_54 rfl hl (by decide) rfl (fun ls hl => ?_)
              exact B8_55 _ _ f15 hS (lv_sub hl [2, 3, 4, 0, 5] rfl) (iv_of (iv_or 30 ef15 hz1_3 (sg_shl1 ef14 (iv_lt (b' := 29) (iv_gt_of c3) hz1_4 hf2 (by decide +kernel)) (by decide +kernel)) (by decide +kernel)) (a' := 0) (b' := 1073741823) (by decide +kernel))
  exact B1_5 _ _ _ 0 0 hS (lv_sub hl [2, 3, 4, 1, 0] rfl) (iv_of (iv_c 0 (a := 0) (b := 0) (by decide +kernel)) (a' := 0) (b' := 1073741823) (by decide +kernel)) (iv_of (iv_c 0 (a := 0) (b := 0) (by decide +kernel)) (a' := 0) (b' := 30) (by decide +kernel)) (Nat.le_refl _)

theorem ca_X4_mirroredLower   (X : CallFix p m c cc nL s args sg_tbl own) (hK : va_K D vwCl tys s) (hG : sgG (KT P) D vwCl (fun q : Nat => base ≤ q) tys ad ks H) (hC : sgC base s) (hA : ∀ q : Nat, A q → base ≤ q) (hS : va_S A s.heap H locs) (hb : base ≤ s.heap.size) (a0 : Nat) (h0 : isK ad ks 4 a0) (x1 : Int32) (x2 : Int32) (hl : Cond.methodLink own index yX4_mirroredLower ∈ sg_tbl) (hsize : ls.size = nL) (hst : st0 = [.int x1, .int x2].reverse ++ .ref a0 :: rest) (hW : (rest.map fun v => v.category).sum ≤ 8) (hR : 3 ≤ R.frames ∧ 70 ≤ R.locals) (hf : cells ≤ R.cells ∧ slots ≤ R.slots) (hdg : decode cc pc = .ok (.invokevirtual index, 3)) (kk : ∀ (r : Int32) (locs1 : List Loc), (fun r : Int32 => True) r → va_S A s.heap H locs1 → W p l e R s m args below meth c H locs1 cells slots Q (F0 m (pc + 3) ls (.int r :: rest))) : W p l e R s m args below meth c H locs cells slots Q (F0 m pc ls st0) :=
  sg_callPVi X hK hG hC hA hS hb (m_X4_mirroredLower l a0 h0 x1 x2) h0 (k := 4) (ci := 4) rfl (C := RX4) (T := TX4) (N := 15) rfl wl_6_41 wl_1_7 wl_6_39 wl_6_40 (n := 2) (by decide +kernel) rfl rfl rfl hl hsize hst hW hR hf hdg kk

set_option maxHeartbeats 8000000 in
set_option maxRecDepth 100000 in
theorem m_X3_packed (l : Launch) {D : va_G} {base : Nat} {tys : List (ClassId × FieldType)} {ad ks : List Nat} {P : sgPm} {Hx : Heap} (x0 : Int32) (x1 : Int32) (x2 : Int32) (x3 : Int32) : sgPi l (KT P) D vwCl base tys ad ks Hx yX3_packed cX3_packed 4 (some .int) ({ frames := 0, cells := 0, slots := 0, locals := 0 }) [.int x0, .int x1, .int x2, .int x3] (fun r : Int32 => True) := by
  refine sg_ofP (Pq := fun Hx => va_Qi (fun r (_ : Unit) => (fun r : Int32 => True) r) (fun _ t => t.heap = Hx) (fun _ : Nat => False)) (by decide +kernel) (Nat.le_of_ble_eq_true rfl) (fun p e s m below meth c X hr hlk hb hK hC hG ls hl => ?_)
  have hS : va_S (fun _ : Nat => False) s.heap s.heap [] := va_S.rf
  have hl : lv_has ls 4 [(0, .int x0), (1, .int x1), (2, .int x2), (3, .int x3)] := hl
  refine lv_iload_n X.1 X.2.1 dX3_packed_0 rfl (lv_at hl 0 rfl) ?_
  refine lv_bipush (v := 31) X.1 X.2.1 dX3_packed_1 (by decide +kernel) ?_
  refine lv_imul X.1 X.2.1 dX3_packed_3 ?_
  refine lv_topi (fun f1 ef1 => ?_)
  refine lv_iload_n X.1 X.2.1 dX3_packed_4 rfl (lv_at hl 1 rfl) ?_
  refine lv_iadd X.1 X.2.1 dX3_packed_5 ?_
  refine lv_topi (fun f2 ef2 => ?_)
  refine lv_iconst (v := 1) X.1 X.2.1 dX3_packed_6 (by decide +kernel) ?_
  refine lv_iadd X.1 X.2.1 dX3_packed_7 ?_
  refine lv_topi (fun f3 ef3 => ?_)
  refine lv_iconst (v := 2) X.1 X.2.1 dX3_packed_8 (by decide +kernel) ?_
  refine lv_imul X.1 X.2.1 dX3_packed_9 ?_
  refine lv_topi (fun f4 ef4 => ?_)
  refine lv_iload_n X.1 X.2.1 dX3_packed_10 rfl (lv_at hl 2 rfl) ?_
  refine lv_iadd X.1 X.2.1 dX3_packed_11 ?_
  refine lv_topi (fun f5 ef5 => ?_)
  refine lv_bipush (v := 6) X.1 X.2.1 dX3_packed_12 (by decide +kernel) ?_
  refine lv_imul X.1 X.2.1 dX3_packed_14 ?_
  refine lv_topi (fun f6 ef6 => ?_)
  refine lv_iload_n X.1 X.2.1 dX3_packed_15 rfl (lv_at hl 3 rfl) ?_
  refine lv_iadd X.1 X.2.1 dX3_packed_16 ?_
  refine lv_topi (fun f7 ef7 => ?_)
  exact sg_iretP X hr hlk hS trivial dX3_packed_17

theorem ca_X3_packed   (X : CallFix p m c cc nL s args sg_tbl own) (hK : va_K D vwCl tys s) (hG : sgG (KT P) D vwCl (fun q : Nat => base ≤ q) tys ad ks H) (hC : sgC base s) (hA : ∀ q : Nat, A q → base ≤ q) (hS : va_S A s.heap H locs) (hb : base ≤ s.heap.size) (x0 : Int32) (x1 : Int32) (x2 : Int32) (x3 : Int32) (hl : Cond.methodLink own index yX3_packed ∈ sg_tbl) (hsize : ls.size = nL) (hst : st0 = [.int x0, .int x1, .int x2, .int x3].reverse ++ rest) (hW : (rest.map fun v => v.category).sum ≤ 8) (hR : 1 ≤ R.frames ∧ 23 ≤ R.locals) (hf : cells ≤ R.cells ∧ slots ≤ R.slots) (hdg : decode cc pc = .ok (.invokestatic index, 3)) (kk : ∀ (r : Int32) (locs1 : List Loc), (fun r : Int32 => True) r → va_S A s.heap H locs1 → W p l e R s m args below meth c H locs1 cells slots Q (F0 m (pc + 3) ls (.int r :: rest))) : W p l e R s m args below meth c H locs cells slots Q (F0 m pc ls st0) :=
  sg_callPSi X hK hG hC hA hS hb (m_X3_packed l x0 x1 x2 x3) wl_4_28 wl_1_4 wl_4_27 (n := 4) (by decide +kernel) rfl rfl rfl hl hsize hst hW hR hf hdg kk

set_option maxHeartbeats 8000000 in
set_option maxRecDepth 100000 in
theorem m_X3_unpacked (l : Launch) {D : va_G} {base : Nat} {tys : List (ClassId × FieldType)} {ad ks : List Nat} {P : sgPm} {Hx : Heap} (x0 : Int32) (x1 : Int32) : sgPi l (KT P) D vwCl base tys ad ks Hx yX3_unpacked cX3_unpacked 2 (some .int) ({ frames := 0, cells := 0, slots := 0, locals := 0 }) [.int x0, .int x1] (fun r : Int32 => True) := by
  refine sg_ofP (Pq := fun Hx => va_Qi (fun r (_ : Unit) => (fun r : Int32 => True) r) (fun _ t => t.heap = Hx) (fun _ : Nat => False)) (by decide +kernel) (Nat.le_of_ble_eq_true rfl) (fun p e s m below meth c X hr hlk hb hK hC hG ls hl => ?_)
  have hS : va_S (fun _ : Nat => False) s.heap s.heap [] := va_S.rf
  have hl : lv_has ls 2 [(0, .int x0), (1, .int x1)] := hl
  refine lv_iload_n X.1 X.2.1 dX3_unpacked_0 rfl (lv_at hl 1 rfl) ?_
  by_cases c1 : x1 = 0
  · refine lv_tableIn (tgt := 28) (off := 27) X.1 X.2.1 dX3_unpacked_1 (by rw [c1]; decide +kernel) (by rw [c1]; decide +kernel) (by rw [c1]; rfl) (by decide) ?_
    refine lv_iload_n X.1 X.2.1 dX3_unpacked_28 rfl (lv_at hl 0 rfl) ?_
    refine lv_bipush (v := 12) X.1 X.2.1 dX3_unpacked_29 (by decide +kernel) ?_
    refine lv_idiv X.1 X.2.1 dX3_unpacked_31 (iv_ne0 (iv_c 12 (a := 12) (b := 12) (by decide +kernel)) (by decide +kernel)) ?_
    refine lv_topi (fun f2 ef2 => ?_)
    refine lv_bipush (v := 31) X.1 X.2.1 dX3_unpacked_32 (by decide +kernel) ?_
    refine lv_idiv X.1 X.2.1 dX3_unpacked_34 (iv_ne0 (iv_c 31 (a := 31) (b := 31) (by decide +kernel)) (by decide +kernel)) ?_
    refine lv_topi (fun f3 ef3 => ?_)
    exact sg_iretP X hr hlk hS trivial dX3_unpacked_35
  by_cases c4 : x1 = 1
  · refine lv_tableIn (tgt := 36) (off := 35) X.1 X.2.1 dX3_unpacked_1 (by rw [c4]; decide +kernel) (by rw [c4]; decide +kernel) (by rw [c4]; rfl) (by decide) ?_
    refine lv_iload_n X.1 X.2.1 dX3_unpacked_36 rfl (lv_at hl 0 rfl) ?_
    refine lv_bipush (v := 12) X.1 X.2.1 dX3_unpacked_37 (by decide +kernel) ?_
    refine lv_idiv X.1 X.2.1 dX3_unpacked_39 (iv_ne0 (iv_c 12 (a := 12) (b := 12) (by decide +kernel)) (by decide +kernel)) ?_
    refine lv_topi (fun f5 ef5 => ?_)
    refine lv_bipush (v := 31) X.1 X.2.1 dX3_unpacked_40 (by decide +kernel) ?_
    refine lv_irem X.1 X.2.1 dX3_unpacked_42 (iv_ne0 (iv_c 31 (a := 31) (b := 31) (by decide +kernel)) (by decide +kernel)) ?_
    refine lv_topi (fun f6 ef6 => ?_)
    refine lv_iconst (v := 1) X.1 X.2.1 dX3_unpacked_43 (by decide +kernel) ?_
    refine lv_isub X.1 X.2.1 dX3_unpacked_44 ?_
    refine lv_topi (fun f7 ef7 => ?_)
    exact sg_iretP X hr hlk hS trivial dX3_unpacked_45
  by_cases c8 : x1 = 2
  · refine lv_tableIn (tgt := 46) (off := 45) X.1 X.2.1 dX3_unpacked_1 (by rw [c8]; decide +kernel) (by rw [c8]; decide +kernel) (by rw [c8]; rfl) (by decide) ?_
    refine lv_iload_n X.1 X.2.1 dX3_unpacked_46 rfl (lv_at hl 0 rfl) ?_
    refine lv_bipush (v := 6) X.1 X.2.1 dX3_unpacked_47 (by decide +kernel) ?_
    refine lv_idiv X.1 X.2.1 dX3_unpacked_49 (iv_ne0 (iv_c 6 (a := 6) (b := 6) (by decide +kernel)) (by decide +kernel)) ?_
    refine lv_topi (fun f9 ef9 => ?_)
    refine lv_iconst (v := 2) X.1 X.2.1 dX3_unpacked_50 (by decide +kernel) ?_
    refine lv_irem X.1 X.2.1 dX3_unpacked_51 (iv_ne0 (iv_c 2 (a := 2) (b := 2) (by decide +kernel)) (by decide +kernel)) ?_
    refine lv_topi (fun f10 ef10 => ?_)
    exact sg_iretP X hr hlk hS trivial dX3_unpacked_52
  refine lv_tableOut (tgt := 53) X.1 X.2.1 dX3_unpacked_1 (by have tc1 := iv_nt 0 c1 (by decide +kernel); have tc4 := iv_nt 1 c4 (by decide +kernel); have tc8 := iv_nt 2 c8 (by decide +kernel); have b1 := ((iv_top x1)).1; have b2 := ((iv_top x1)).2; omega) (by decide) ?_
  refine lv_iload_n X.1 X.2.1 dX3_unpacked_53 rfl (lv_at hl 0 rfl) ?_
  refine lv_bipush (v := 6) X.1 X.2.1 dX3_unpacked_54 (by decide +kernel) ?_
  refine lv_irem X.1 X.2.1 dX3_unpacked_56 (iv_ne0 (iv_c 6 (a := 6) (b := 6) (by decide +kernel)) (by decide +kernel)) ?_
  refine lv_topi (fun f11 ef11 => ?_)
  exact sg_iretP X hr hlk hS trivial dX3_unpacked_57

theorem ca_X3_unpacked   (X : CallFix p m c cc nL s args sg_tbl own) (hK : va_K D vwCl tys s) (hG : sgG (KT P) D vwCl (fun q : Nat => base ≤ q) tys ad ks H) (hC : sgC base s) (hA : ∀ q : Nat, A q → base ≤ q) (hS : va_S A s.heap H locs) (hb : base ≤ s.heap.size) (x0 : Int32) (x1 : Int32) (hl : Cond.methodLink own index yX3_unpacked ∈ sg_tbl) (hsize : ls.size = nL) (hst : st0 = [.int x0, .int x1].reverse ++ rest) (hW : (rest.map fun v => v.category).sum ≤ 8) (hR : 1 ≤ R.frames ∧ 21 ≤ R.locals) (hf : cells ≤ R.cells ∧ slots ≤ R.slots) (hdg : decode cc pc = .ok (.invokestatic index, 3)) (kk : ∀ (r : Int32) (locs1 : List Loc), (fun r : Int32 => True) r → va_S A s.heap H locs1 → W p l e R s m args below meth c H locs1 cells slots Q (F0 m (pc + 3) ls (.int r :: rest))) : W p l e R s m args below meth c H locs cells slots Q (F0 m pc ls st0) :=
  sg_callPSi X hK hG hC hA hS hb (m_X3_unpacked l x0 x1) wl_5_16 wl_1_4 wl_5_15 (n := 2) (by decide +kernel) rfl rfl rfl hl hsize hst hW hR hf hdg kk

set_option maxHeartbeats 8000000 in
set_option maxRecDepth 100000 in
theorem m_J6_bitCount_0f7a4 (l : Launch) {D : va_G} {base : Nat} {tys : List (ClassId × FieldType)} {ad ks : List Nat} {P : sgPm} {Hx : Heap} (x0 : Int32) : sgPi l (KT P) D vwCl base tys ad ks Hx yJ6_bitCount_0f7a4 cJ6_bitCount_0f7a4 1 (some .int) ({ frames := 0, cells := 0, slots := 0, locals := 0 }) [.int x0] (fun r : Int32 => iv 0 63 r) := by
  refine sg_ofP (Pq := fun Hx => va_Qi (fun r (_ : Unit) => (fun r : Int32 => iv 0 63 r) r) (fun _ t => t.heap = Hx) (fun _ : Nat => False)) (by decide +kernel) (Nat.le_of_ble_eq_true rfl) (fun p e s m below meth c X hr hlk hb hK hC hG ls hl => ?_)
  have hS : va_S (fun _ : Nat => False) s.heap s.heap [] := va_S.rf
  have hl : lv_has ls 1 [(0, .int x0)] := hl
  refine lv_iload_n X.1 X.2.1 dJ6_bitCount_0f7a4_0 rfl (lv_at hl 0 rfl) ?_
  refine lv_iload_n X.1 X.2.1 dJ6_bitCount_0f7a4_1 rfl (lv_at hl 0 rfl) ?_
  refine lv_iconst (v := 1) X.1 X.2.1 dJ6_bitCount_0f7a4_2 (by decide +kernel) ?_
  obtain ⟨f1, ef1⟩ : ∃ y : Int32, y = (x0.toUInt32 >>> ((1 : Int32).toUInt32 &&& Int32.toUInt32 31)).toInt32 := ⟨_, rfl⟩
  refine lv_iushr (v := f1) X.1 X.2.1 dJ6_bitCount_0f7a4_3 ef1.symm ?_
  refine lv_ldcw X.1 X.2.1 X.2.2.2.1 (X.2.2.2.2 _ wl_4_105) dJ6_bitCount_0f7a4_4 ?_
  refine lv_iand X.1 X.2.1 dJ6_bitCount_0f7a4_7 ?_
  refine lv_topi (fun f2 ef2 => ?_)
  refine lv_isub X.1 X.2.1 dJ6_bitCount_0f7a4_8 ?_
  refine lv_topi (fun f3 ef3 => ?_)
  refine lv_istore_n (lv' := [(0, .int f3)]) X.1 X.2.1 dJ6_bitCount_0f7a4_9 rfl hl (by decide) rfl (fun ls hl => ?_)
  refine lv_iload_n X.1 X.2.1 dJ6_bitCount_0f7a4_10 rfl (lv_at hl 0 rfl) ?_
  refine lv_ldcw X.1 X.2.1 X.2.2.2.1 (X.2.2.2.2 _ wl_4_106) dJ6_bitCount_0f7a4_11 ?_
  refine lv_iand X.1 X.2.1 dJ6_bitCount_0f7a4_14 ?_
  refine lv_topi (fun f4 ef4 => ?_)
  refine lv_iload_n X.1 X.2.1 dJ6_bitCount_0f7a4_15 rfl (lv_at hl 0 rfl) ?_
  refine lv_iconst (v := 2) X.1 X.2.1 dJ6_bitCount_0f7a4_16 (by decide +kernel) ?_
  obtain ⟨f5, ef5⟩ : ∃ y : Int32, y = (f3.toUInt32 >>> ((2 : Int32).toUInt32 &&& Int32.toUInt32 31)).toInt32 := ⟨_, rfl⟩
  refine lv_iushr (v := f5) X.1 X.2.1 dJ6_bitCount_0f7a4_17 ef5.symm ?_
  refine lv_ldcw X.1 X.2.1 X.2.2.2.1 (X.2.2.2.2 _ wl_4_106) dJ6_bitCount_0f7a4_18 ?_
  refine lv_iand X.1 X.2.1 dJ6_bitCount_0f7a4_21 ?_
  refine lv_topi (fun f6 ef6 => ?_)
  refine lv_iadd X.1 X.2.1 dJ6_bitCount_0f7a4_22 ?_
  refine lv_topi (fun f7 ef7 => ?_)
  refine lv_istore_n (lv' := [(0, .int f7)]) X.1 X.2.1 dJ6_bitCount_0f7a4_23 rfl hl (by decide) rfl (fun ls hl => ?_)
  refine lv_iload_n X.1 X.2.1 dJ6_bitCount_0f7a4_24 rfl (lv_at hl 0 rfl) ?_
  refine lv_iload_n X.1 X.2.1 dJ6_bitCount_0f7a4_25 rfl (lv_at hl 0 rfl) ?_
  refine lv_iconst (v := 4) X.1 X.2.1 dJ6_bitCount_0f7a4_26 (by decide +kernel) ?_
  obtain ⟨f8, ef8⟩ : ∃ y : Int32, y = (f7.toUInt32 >>> ((4 : Int32).toUInt32 &&& Int32.toUInt32 31)).toInt32 := ⟨_, rfl⟩
  refine lv_iushr (v := f8) X.1 X.2.1 dJ6_bitCount_0f7a4_27 ef8.symm ?_
  refine lv_iadd X.1 X.2.1 dJ6_bitCount_0f7a4_28 ?_
  refine lv_topi (fun f9 ef9 => ?_)
  refine lv_ldcw X.1 X.2.1 X.2.2.2.1 (X.2.2.2.2 _ wl_4_107) dJ6_bitCount_0f7a4_29 ?_
  refine lv_iand X.1 X.2.1 dJ6_bitCount_0f7a4_32 ?_
  refine lv_topi (fun f10 ef10 => ?_)
  refine lv_istore_n (lv' := [(0, .int f10)]) X.1 X.2.1 dJ6_bitCount_0f7a4_33 rfl hl (by decide) rfl (fun ls hl => ?_)
  refine lv_iload_n X.1 X.2.1 dJ6_bitCount_0f7a4_34 rfl (lv_at hl 0 rfl) ?_
  refine lv_iload_n X.1 X.2.1 dJ6_bitCount_0f7a4_35 rfl (lv_at hl 0 rfl) ?_
  refine lv_bipush (v := 8) X.1 X.2.1 dJ6_bitCount_0f7a4_36 (by decide +kernel) ?_
  obtain ⟨f11, ef11⟩ : ∃ y : Int32, y = (f10.toUInt32 >>> ((8 : Int32).toUInt32 &&& Int32.toUInt32 31)).toInt32 := ⟨_, rfl⟩
  refine lv_iushr (v := f11) X.1 X.2.1 dJ6_bitCount_0f7a4_38 ef11.symm ?_
  refine lv_iadd X.1 X.2.1 dJ6_bitCount_0f7a4_39 ?_
  refine lv_topi (fun f12 ef12 => ?_)
  refine lv_istore_n (lv' := [(0, .int f12)]) X.1 X.2.1 dJ6_bitCount_0f7a4_40 rfl hl (by decide) rfl (fun ls hl => ?_)
  refine lv_iload_n X.1 X.2.1 dJ6_bitCount_0f7a4_41 rfl (lv_at hl 0 rfl) ?_
  refine lv_iload_n X.1 X.2.1 dJ6_bitCount_0f7a4_42 rfl (lv_at hl 0 rfl) ?_
  refine lv_bipush (v := 16) X.1 X.2.1 dJ6_bitCount_0f7a4_43 (by decide +kernel) ?_
  obtain ⟨f13, ef13⟩ : ∃ y : Int32, y = (f12.toUInt32 >>> ((16 : Int32).toUInt32 &&& Int32.toUInt32 31)).toInt32 := ⟨_, rfl⟩
  refine lv_iushr (v := f13) X.1 X.2.1 dJ6_bitCount_0f7a4_45 ef13.symm ?_
  refine lv_iadd X.1 X.2.1 dJ6_bitCount_0f7a4_46 ?_
  refine lv_topi (fun f14 ef14 => ?_)
  refine lv_istore_n (lv' := [(0, .int f14)]) X.1 X.2.1 dJ6_bitCount_0f7a4_47 rfl hl (by decide) rfl (fun ls hl => ?_)
  refine lv_iload_n X.1 X.2.1 dJ6_bitCount_0f7a4_48 rfl (lv_at hl 0 rfl) ?_
  refine lv_bipush (v := 63) X.1 X.2.1 dJ6_bitCount_0f7a4_49 (by decide +kernel) ?_
  refine lv_iand X.1 X.2.1 dJ6_bitCount_0f7a4_51 ?_
  refine lv_topi (fun f15 ef15 => ?_)
  exact sg_iretP X hr hlk hS (iv_and (b' := 63) ef15 (iv_c 63 (a := 63) (b := 63) (by decide +kernel)) (by decide +kernel)) dJ6_bitCount_0f7a4_52

theorem ca_J6_bitCount_0f7a4   (X : CallFix p m c cc nL s args sg_tbl own) (hK : va_K D vwCl tys s) (hG : sgG (KT P) D vwCl (fun q : Nat => base ≤ q) tys ad ks H) (hC : sgC base s) (hA : ∀ q : Nat, A q → base ≤ q) (hS : va_S A s.heap H locs) (hb : base ≤ s.heap.size) (x0 : Int32) (hl : Cond.methodLink own index yJ6_bitCount_0f7a4 ∈ sg_tbl) (hsize : ls.size = nL) (hst : st0 = [.int x0].reverse ++ rest) (hW : (rest.map fun v => v.category).sum ≤ 8) (hR : 1 ≤ R.frames ∧ 20 ≤ R.locals) (hf : cells ≤ R.cells ∧ slots ≤ R.slots) (hdg : decode cc pc = .ok (.invokestatic index, 3)) (kk : ∀ (r : Int32) (locs1 : List Loc), (fun r : Int32 => iv 0 63 r) r → va_S A s.heap H locs1 → W p l e R s m args below meth c H locs1 cells slots Q (F0 m (pc + 3) ls (.int r :: rest))) : W p l e R s m args below meth c H locs cells slots Q (F0 m pc ls st0) :=
  sg_callPSi X hK hG hC hA hS hb (m_J6_bitCount_0f7a4 l x0) wl_4_104 wl_1_26 wl_4_103 (n := 1) (by decide +kernel) rfl rfl rfl hl hsize hst hW hR hf hdg kk

set_option maxHeartbeats 8000000 in
set_option maxRecDepth 100000 in
theorem m_J6_numberOfTrailingZeros_0f7a4 (l : Launch) {D : va_G} {base : Nat} {tys : List (ClassId × FieldType)} {ad ks : List Nat} {P : sgPm} {Hx : Heap} (x0 : Int32) : sgPi l (KT P) D vwCl base tys ad ks Hx yJ6_numberOfTrailingZeros_0f7a4 cJ6_numberOfTrailingZeros_0f7a4 2 (some .int) ({ frames := 0, cells := 0, slots := 0, locals := 0 }) [.int x0] (fun r : Int32 => True) := by
  refine sg_ofP (Pq := fun Hx => va_Qi (fun r (_ : Unit) => (fun r : Int32 => True) r) (fun _ t => t.heap = Hx) (fun _ : Nat => False)) (by decide +kernel) (Nat.le_of_ble_eq_true rfl) (fun p e s m below meth c X hr hlk hb hK hC hG ls hl => ?_)
  have hS : va_S (fun _ : Nat => False) s.heap s.heap [] := va_S.rf
  have hl : lv_has ls 2 [(0, .int x0)] := hl
  refine lv_iload_n X.1 X.2.1 dJ6_numberOfTrailingZeros_0f7a4_0 rfl (lv_at hl 0 rfl) ?_
  refine lv_iconst (v := (-1)) X.1 X.2.1 dJ6_numberOfTrailingZeros_0f7a4_1 (by decide +kernel) ?_
  refine lv_ixor X.1 X.2.1 dJ6_numberOfTrailingZeros_0f7a4_2 ?_
  refine lv_topi (fun f1 ef1 => ?_)
  refine lv_iload_n X.1 X.2.1 dJ6_numberOfTrailingZeros_0f7a4_3 rfl (lv_at hl 0 rfl) ?_
  refine lv_iconst (v := 1) X.1 X.2.1 dJ6_numberOfTrailingZeros_0f7a4_4 (by decide +kernel) ?_
  refine lv_isub X.1 X.2.1 dJ6_numberOfTrailingZeros_0f7a4_5 ?_
  refine lv_topi (fun f2 ef2 => ?_)
  refine lv_iand X.1 X.2.1 dJ6_numberOfTrailingZeros_0f7a4_6 ?_
  refine lv_topi (fun f3 ef3 => ?_)
  refine lv_istore_n (lv' := [(0, .int f3)]) X.1 X.2.1 dJ6_numberOfTrailingZeros_0f7a4_7 rfl hl (by decide) rfl (fun ls hl => ?_)
  refine lv_iload_n X.1 X.2.1 dJ6_numberOfTrailingZeros_0f7a4_8 rfl (lv_at hl 0 rfl) ?_
  refine lv_if_gt (tgt := 17) X.1 X.2.1 dJ6_numberOfTrailingZeros_0f7a4_9 (by decide) (fun c4 => ?_) (fun c4 => ?_)
  · refine lv_iconst (v := 1) X.1 X.2.1 dJ6_numberOfTrailingZeros_0f7a4_17 (by decide +kernel) ?_
    refine lv_istore_n (lv' := [(1, .int 1), (0, .int f3)]) X.1 X.2.1 dJ6_numberOfTrailingZeros_0f7a4_18 rfl hl (by decide) rfl (fun ls hl => ?_)
    refine lv_iload_n X.1 X.2.1 dJ6_numberOfTrailingZeros_0f7a4_19 rfl (lv_at hl 1 rfl) ?_
    refine lv_ldcw X.1 X.2.1 X.2.2.2.1 (X.2.2.2.2 _ wl_5_178) dJ6_numberOfTrailingZeros_0f7a4_20 ?_
    have B6_34 : ∀ (locs : List Loc) (ls : Array Slot) (z6_0 : Int32) (z6_1 : Int32), va_S (fun _ : Nat => False) s.heap s.heap locs → lv_has ls 2 [(0, .int z6_0), (1, .int z6_1)] → iv 1 17 z6_1 → W p l e (headSpec (Cond.code yJ6_numberOfTrailingZeros_0f7a4 cJ6_numberOfTrailingZeros_0f7a4 2 (some .int) :: sg_tbl) ({ frames := 0, cells := 0, slots := 0, locals := 0 })).room s m #[.int x0] below meth c s.heap locs 0 0 (MQ below (va_Qi (fun r (_ : Unit) => (fun r : Int32 => True) r) (fun _ t => t.heap = s.heap) (fun _ : Nat => False)) #[.int x0] s 0 0 (fun _ : Nat => False)) (F0 m 34 ls []) := by
      intro locs ls z6_0 z6_1 hS hl hz6_1
      refine lv_iload_n X.1 X.2.1 dJ6_numberOfTrailingZeros_0f7a4_34 rfl (lv_at hl 0 rfl) ?_
      refine lv_sipush (v := 256) X.1 X.2.1 dJ6_numberOfTrailingZeros_0f7a4_35 (by decide +kernel) ?_
      have B8_49 : ∀ (locs : List Loc) (ls : Array Slot) (z8_0 : Int32) (z8_1 : Int32), va_S (fun _ : Nat => False) s.heap s.heap locs → lv_has ls 2 [(0, .int z8_0), (1, .int z8_1)] → iv 1 25 z8_1 → W p l e (headSpec (Cond.code yJ6_numberOfTrailingZeros_0f7a4 cJ6_numberOfTrailingZeros_0f7a4 2 (some .int) :: sg_tbl) ({ frames := 0, cells := 0, slots := 0, locals := 0 })).room s m #[.int x0] below meth c s.heap locs 0 0 (MQ below (va_Qi (fun r (_ : Unit) => (fun r : Int32 => True) r) (fun _ t => t.heap = s.heap) (fun _ : Nat => False)) #[.int x0] s 0 0 (fun _ : Nat => False)) (F0 m 49 ls []) := by
        intro locs ls z8_0 z8_1 hS hl hz8_1
        refine lv_iload_n X.1 X.2.1 dJ6_numberOfTrailingZeros_0f7a4_49 rfl (lv_at hl 0 rfl) ?_
        refine lv_bipush (v := 16) X.1 X.2.1 dJ6_numberOfTrailingZeros_0f7a4_50 (by decide +kernel) ?_
        have B10_62 : ∀ (locs : List Loc) (ls : Array Slot) (z10_0 : Int32) (z10_1 : Int32), va_S (fun _ : Nat => False) s.heap s.heap locs → lv_has ls 2 [(0, .int z10_0), (1, .int z10_1)] → iv 1 29 z10_1 → W p l e (headSpec (Cond.code yJ6_numberOfTrailingZeros_0f7a4 cJ6_numberOfTrailingZeros_0f7a4 2 (some .int) :: sg_tbl) ({ frames := 0, cells := 0, slots := 0, locals := 0 })).room s m #[.int x0] below meth c s.heap locs 0 0 (MQ below (va_Qi (fun r (_ : Unit) => (fun r : Int32 => True) r) (fun _ t => t.heap = s.heap) (fun _ : Nat => False)) #[.int x0] s 0 0 (fun _ : Nat => False)) (F0 m 62 ls []) := by
          intro locs ls z10_0 z10_1 hS hl hz10_1
          refine lv_iload_n X.1 X.2.1 dJ6_numberOfTrailingZeros_0f7a4_62 rfl (lv_at hl 0 rfl) ?_
          refine lv_iconst (v := 4) X.1 X.2.1 dJ6_numberOfTrailingZeros_0f7a4_63 (by decide +kernel) ?_
          have B12_74 : ∀ (locs : List Loc) (ls : Array Slot) (z12_0 : Int32) (z12_1 : Int32), va_S (fun _ : Nat => False) s.heap s.heap locs → lv_has ls 2 [(0, .int z12_0), (1, .int z12_1)] → iv 1 31 z12_1 → W p l e (headSpec (Cond.code yJ6_numberOfTrailingZeros_0f7a4 cJ6_numberOfTrailingZeros_0f7a4 2 (some .int) :: sg_tbl) ({ frames := 0, cells := 0, slots := 0, locals := 0 })).room s m #[.int x0] below meth c s.heap locs 0 0 (MQ below (va_Qi (fun r (_ : Unit) => (fun r : Int32 => True) r) (fun _ t => t.heap = s.heap) (fun _ : Nat => False)) #[.int x0] s 0 0 (fun _ : Nat => False)) (F0 m 74 ls []) := by
            intro locs ls z12_0 z12_1 hS hl hz12_1
            refine lv_iload_n X.1 X.2.1 dJ6_numberOfTrailingZeros_0f7a4_74 rfl (lv_at hl 1 rfl) ?_
            refine lv_iload_n X.1 X.2.1 dJ6_numberOfTrailingZeros_0f7a4_75 rfl (lv_at hl 0 rfl) ?_
            refine lv_iconst (v := 1) X.1 X.2.1 dJ6_numberOfTrailingZeros_0f7a4_76 (by decide +kernel) ?_
            obtain ⟨f13, ef13⟩ : ∃ y : Int32, y = (z12_0.toUInt32 >>> ((1 : Int32).toUInt32 &&& Int32.toUInt32 31)).toInt32 := ⟨_, rfl⟩
            refine lv_iushr (v := f13) X.1 X.2.1 dJ6_numberOfTrailingZeros_0f7a4_77 ef13.symm ?_
            refine lv_iadd X.1 X.2.1 dJ6_numberOfTrailingZeros_0f7a4_78 ?_
            refine lv_topi (fun f14 ef14 => ?_)
            exact sg_iretP X hr hlk hS trivial dJ6_numberOfTrailingZeros_0f7a4_79
          refine lv_icmp_le (tgt := 74) X.1 X.2.1 dJ6_numberOfTrailingZeros_0f7a4_64 (by decide) (fun c11 => ?_) (fun c11 => ?_)
          · exact B12_74 _ _ z10_0 z10_1 hS (lv_sub hl [0, 1] rfl) (iv_of hz10_1 (a' := 1) (b' := 31) (by decide +kernel))
          · obtain ⟨y15, ey15⟩ : ∃ y : Int32, y = z10_1 + Int32.ofInt 2 := ⟨_, rfl⟩
            refine lv_iinc (v := y15) (lv' := [(1, .int y15), (0, .int z10_0)]) X.1 X.2.1 dJ6_numberOfTrailingZeros_0f7a4_67 hl (k := 1) rfl ey15.symm (by decide) rfl (fun ls hl => ?_)
            refine lv_iload_n X.1 X.2.1 dJ6_numberOfTrailingZeros_0f7a4_70 rfl (lv_at hl 1 rfl) ?_
            refine lv_iconst (v := 2) X.1 X.2.1 dJ6_numberOfTrailingZeros_0f7a4_71 (by decide +kernel) ?_
            obtain ⟨f16, ef16⟩ : ∃ y : Int32, y = (z10_0.toUInt32 >>> ((2 : Int32).toUInt32 &&& Int32.toUInt32 31)).toInt32 := ⟨_, rfl⟩
            refine lv_iushr (v := f16) X.1 X.2.1 dJ6_numberOfTrailingZeros_0f7a4_72 ef16.symm ?_
            refine lv_istore_n (lv' := [(0, .int f16), (1, .int y15)]) X.1 X.2.1 dJ6_numberOfTrailingZeros_0f7a4_73 rfl hl (by decide) rfl (fun ls hl => ?_)
            exact B12_74 _ _ f16 y15 hS (lv_sub hl [0, 1] rfl) (iv_of (iv_add (a' := 3) (b' := 31) ey15 hz10_1 (iv_c _ (a := 2) (b := 2) (by decide +kernel)) (by decide +kernel)) (a' := 1) (b' := 31) (by decide +kernel))
        refine lv_icmp_le (tgt := 62) X.1 X.2.1 dJ6_numberOfTrailingZeros_0f7a4_52 (by decide) (fun c9 => ?_) (fun c9 => ?_)
        · exact B10_62 _ _ z8_0 z8_1 hS (lv_sub hl [0, 1] rfl) (iv_of hz8_1 (a' := 1) (b' := 29) (by decide +kernel))
        · obtain ⟨y17, ey17⟩ : ∃ y : Int32, y = z8_1 + Int32.ofInt 4 := ⟨_, rfl⟩
          refine lv_iinc (v := y17) (lv' := [(1, .int y17), (0, .int z8_0)]) X.1 X.2.1 dJ6_numberOfTrailingZeros_0f7a4_55 hl (k := 1) rfl ey17.symm (by decide) rfl (fun ls hl => ?_)
          refine lv_iload_n X.1 X.2.1 dJ6_numberOfTrailingZeros_0f7a4_58 rfl (lv_at hl 1 rfl) ?_
          refine lv_iconst (v := 4) X.1 X.2.1 dJ6_numberOfTrailingZeros_0f7a4_59 (by decide +kernel) ?_
          obtain ⟨f18, ef18⟩ : ∃ y : Int32, y = (z8_0.toUInt32 >>> ((4 : Int32).toUInt32 &&& Int32.toUInt32 31)).toInt32 := ⟨_, rfl⟩
          refine lv_iushr (v := f18) X.1 X.2.1 dJ6_numberOfTrailingZeros_0f7a4_60 ef18.symm ?_
          refine lv_istore_n (lv' := [(0, .int f18), (1, .int y17)]) X.1 X.2.1 dJ6_numberOfTrailingZeros_0f7a4_61 rfl hl (by decide) rfl (fun ls hl => ?_)
          exact B10_62 _ _ f18 y17 hS (lv_sub hl [0, 1] rfl) (iv_of (iv_add (a' := 5) (b' := 29) ey17 hz8_1 (iv_c _ (a := 4) (b := 4) (by decide +kernel)) (by decide +kernel)) (a' := 1) (b' := 29) (by decide +kernel))
      refine lv_icmp_le (tgt := 49) X.1 X.2.1 dJ6_numberOfTrailingZeros_0f7a4_38 (by decide) (fun c7 => ?_) (fun c7 => ?_)
      · exact B8_49 _ _ z6_0 z6_1 hS (lv_sub hl [0, 1] rfl) (iv_of hz6_1 (a' := 1) (b' := 25) (by decide +kernel))
      · obtain ⟨y19, ey19⟩ : ∃ y : Int32, y = z6_1 + Int32.ofInt 8 := ⟨_, rfl⟩
        refine lv_iinc (v := y19) (lv' := [(1, .int y19), (0, .int z6_0)]) X.1 X.2.1 dJ6_numberOfTrailingZeros_0f7a4_41 hl (k := 1) rfl ey19.symm (by decide) rfl (fun ls hl => ?_)
        refine lv_iload_n X.1 X.2.1 dJ6_numberOfTrailingZeros_0f7a4_44 rfl (lv_at hl 1 rfl) ?_
        refine lv_bipush (v := 8) X.1 X.2.1 dJ6_numberOfTrailingZeros_0f7a4_45 (by decide +kernel) ?_
        obtain ⟨f20, ef20⟩ : ∃ y : Int32, y = (z6_0.toUInt32 >>> ((8 : Int32).toUInt32 &&& Int32.toUInt32 31)).toInt32 := ⟨_, rfl⟩
        refine lv_iushr (v := f20) X.1 X.2.1 dJ6_numberOfTrailingZeros_0f7a4_47 ef20.symm ?_
        refine lv_istore_n (lv' := [(0, .int f20), (1, .int y19)]) X.1 X.2.1 dJ6_numberOfTrailingZeros_0f7a4_48 rfl hl (by decide) rfl (fun ls hl => ?_)
        exact B8_49 _ _ f20 y19 hS (lv_sub hl [0, 1] rfl) (iv_of (iv_add (a' := 9) (b' := 25) ey19 hz6_1 (iv_c _ (a := 8) (b := 8) (by decide +kernel)) (by decide +kernel)) (a' := 1) (b' := 25) (by decide +kernel))
    refine lv_icmp_le (tgt := 34) X.1 X.2.1 dJ6_numberOfTrailingZeros_0f7a4_23 (by decide) (fun c5 => ?_) (fun c5 => ?_)
    · exact B6_34 _ _ f3 1 hS (lv_sub hl [1, 0] rfl) (iv_of (iv_c 1 (a := 1) (b := 1) (by decide +kernel)) (a' := 1) (b' := 17) (by decide +kernel))
    · obtain ⟨y21, ey21⟩ : ∃ y : Int32, y = 1 + Int32.ofInt 16 := ⟨_, rfl⟩
      refine lv_iinc (v := y21) (lv' := [(1, .int y21), (0, .int f3)]) X.1 X.2.1 dJ6_numberOfTrailingZeros_0f7a4_26 hl (k := 0) rfl ey21.symm (by decide) rfl (fun ls hl => ?_)
      refine lv_iload_n X.1 X.2.1 dJ6_numberOfTrailingZeros_0f7a4_29 rfl (lv_at hl 1 rfl) ?_
      refine lv_bipush (v := 16) X.1 X.2.1 dJ6_numberOfTrailingZeros_0f7a4_30 (by decide +kernel) ?_
      obtain ⟨f22, ef22⟩ : ∃ y : Int32, y = (f3.toUInt32 >>> ((16 : Int32).toUInt32 &&& Int32.toUInt32 31)).toInt32 := ⟨_, rfl⟩
      refine lv_iushr (v := f22) X.1 X.2.1 dJ6_numberOfTrailingZeros_0f7a4_32 ef22.symm ?_
      refine lv_istore_n (lv' := [(0, .int f22), (1, .int y21)]) X.1 X.2.1 dJ6_numberOfTrailingZeros_0f7a4_33 rfl hl (by decide) rfl (fun ls hl => ?_)
      exact B6_34 _ _ f22 y21 hS (lv_sub hl [0, 1] rfl) (iv_of (iv_add (a' := 17) (b' := 17) ey21 (iv_c 1 (a := 1) (b := 1) (by decide +kernel)) (iv_c _ (a := 16) (b := 16) (by decide +kernel)) (by decide +kernel)) (a' := 1) (b' := 17) (by decide +kernel))
  · refine lv_iload_n X.1 X.2.1 dJ6_numberOfTrailingZeros_0f7a4_12 rfl (lv_at hl 0 rfl) ?_
    refine lv_bipush (v := 32) X.1 X.2.1 dJ6_numberOfTrailingZeros_0f7a4_13 (by decide +kernel) ?_
    refine lv_iand X.1 X.2.1 dJ6_numberOfTrailingZeros_0f7a4_15 ?_
    refine lv_topi (fun f23 ef23 => ?_)
    exact sg_iretP X hr hlk hS trivial dJ6_numberOfTrailingZeros_0f7a4_16

theorem ca_J6_numberOfTrailingZeros_0f7a4   (X : CallFix p m c cc nL s args sg_tbl own) (hK : va_K D vwCl tys s) (hG : sgG (KT P) D vwCl (fun q : Nat => base ≤ q) tys ad ks H) (hC : sgC base s) (hA : ∀ q : Nat, A q → base ≤ q) (hS : va_S A s.heap H locs) (hb : base ≤ s.heap.size) (x0 : Int32) (hl : Cond.methodLink own index yJ6_numberOfTrailingZeros_0f7a4 ∈ sg_tbl) (hsize : ls.size = nL) (hst : st0 = [.int x0].reverse ++ rest) (hW : (rest.map fun v => v.category).sum ≤ 8) (hR : 1 ≤ R.frames ∧ 21 ≤ R.locals) (hf : cells ≤ R.cells ∧ slots ≤ R.slots) (hdg : decode cc pc = .ok (.invokestatic index, 3)) (kk : ∀ (r : Int32) (locs1 : List Loc), (fun r : Int32 => True) r → va_S A s.heap H locs1 → W p l e R s m args below meth c H locs1 cells slots Q (F0 m (pc + 3) ls (.int r :: rest))) : W p l e R s m args below meth c H locs cells slots Q (F0 m pc ls st0) :=
  sg_callPSi X hK hG hC hA hS hb (m_J6_numberOfTrailingZeros_0f7a4 l x0) wl_5_177 wl_1_26 wl_5_176 (n := 1) (by decide +kernel) rfl rfl rfl hl hsize hst hW hR hf hdg kk

set_option maxHeartbeats 8000000 in
set_option maxRecDepth 100000 in
theorem m_J7_fill_53178_pageDays (l : Launch) {D : va_G} {base : Nat} {tys : List (ClassId × FieldType)} {ad ks : List Nat} {P : sgPm} (a0 : Nat) (h0 : isK ad ks 36 a0) (x1 : Int32) : sgMv l (KT P) D vwCl base tys ad ks yJ7_fill_53178 cJ7_fill_53178 4 none ({ frames := 0, cells := 0, slots := 0, locals := 0 }) [.ref a0, .int x1] := by
  refine sg_ofW (by decide +kernel) (Nat.le_of_ble_eq_true rfl) (fun p e s m below meth c X hr hlk hb hK hC hG ls hl => ?_)
  have hS : va_S (fun q : Nat => base ≤ q) s.heap s.heap [] := va_S.rf
  have hl : lv_has ls 4 [(0, .ref a0), (1, .int x1)] := hl
  refine lv_iconst (v := 0) X.1 X.2.1 dJ7_fill_53178_0 (by decide +kernel) ?_
  refine lv_istore_n (lv' := [(2, .int 0), (0, .ref a0), (1, .int x1)]) X.1 X.2.1 dJ7_fill_53178_1 rfl hl (by decide) rfl (fun ls hl => ?_)
  refine lv_aload_n X.1 X.2.1 dJ7_fill_53178_2 rfl (lv_at hl 1 rfl) ?_
  refine sg_alen X hK hG h0 (k := 36) rfl (v := 4) rfl dJ7_fill_53178_3 ?_
  refine lv_istore_n (lv' := [(3, .int 4), (2, .int 0), (0, .ref a0), (1, .int x1)]) X.1 X.2.1 dJ7_fill_53178_4 rfl hl (by decide) rfl (fun ls hl => ?_)
  have B1_5 : ∀ (N : Nat) (H : Heap) (locs : List Loc) (ls : Array Slot) (z1_2 : Int32), sgG (KT P) D vwCl (fun q : Nat => base ≤ q) tys ad ks H → va_S (fun q : Nat => base ≤ q) s.heap H locs → lv_has ls 4 [(0, .ref a0), (1, .int x1), (2, .int z1_2), (3, .int 4)] → iv 0 4 z1_2 → (5 - z1_2.toInt).toNat ≤ N → W p l e (headSpec (Cond.code yJ7_fill_53178 cJ7_fill_53178 4 none :: sg_tbl) ({ frames := 0, cells := 0, slots := 0, locals := 0 })).room s m #[.ref a0, .int x1] below meth c H locs 0 0 (MQ below (va_Qv (fun (_ : Unit) => True) (fun _ => sgB (KT P) D vwCl base tys ad ks) (fun q : Nat => base ≤ q)) #[.ref a0, .int x1] s 0 0 (fun q : Nat => base ≤ q)) (F0 m 5 ls []) := by
    intro N; induction N with
    | zero =>
      intro H locs ls z1_2 hG hS hl hz1_2 hN
      exact absurd hN (by have := iv_up hz1_2; omega)
    | succ N ih1 =>
      intro H locs ls z1_2 hG hS hl hz1_2 hN1
      refine lv_iload_n X.1 X.2.1 dJ7_fill_53178_5 rfl (lv_at hl 2 rfl) ?_
      refine lv_iload_n X.1 X.2.1 dJ7_fill_53178_6 rfl (lv_at hl 3 rfl) ?_
      refine lv_icmp_ge (tgt := 20) X.1 X.2.1 dJ7_fill_53178_7 (by decide) (fun c2 => ?_) (fun c2 => ?_)
      · exact sg_vret X hr hlk hb hK hC hG hS dJ7_fill_53178_20
      · refine lv_aload_n X.1 X.2.1 dJ7_fill_53178_10 rfl (lv_at hl 0 rfl) ?_
        refine lv_iload_n X.1 X.2.1 dJ7_fill_53178_11 rfl (lv_at hl 2 rfl) ?_
        refine lv_iload_n X.1 X.2.1 dJ7_fill_53178_12 rfl (lv_at hl 1 rfl) ?_
        refine as_36 X hK hG hS h0 (iv_vpin (iv_lt (b' := 3) (iv_gt_of c2) hz1_2 (iv_c 4 (a := 4) (b := 4) (by decide +kernel)) (by decide +kernel)) (by decide +kernel)) ⟨_, rfl, (iv_top _)⟩ dJ7_fill_53178_13 (fun H locs hG hS ru3 => ?_)
        obtain ⟨y4, ey4⟩ : ∃ y : Int32, y = z1_2 + Int32.ofInt 1 := ⟨_, rfl⟩
        refine lv_iinc (v := y4) (lv' := [(2, .int y4), (0, .ref a0), (1, .int x1), (3, .int 4)]) X.1 X.2.1 dJ7_fill_53178_14 hl (k := 2) rfl ey4.symm (by decide) rfl (fun ls hl => ?_)
        refine lv_goto (tgt := 5) X.1 X.2.1 dJ7_fill_53178_17 (by decide) ?_
        exact ih1 H _ _ y4 hG hS (lv_sub hl [1, 2, 0, 3] rfl) (iv_of (iv_add (a' := 1) (b' := 4) ey4 (iv_lt (b' := 3) (iv_gt_of c2) hz1_2 (iv_c 4 (a := 4) (b := 4) (by decide +kernel)) (by decide +kernel)) (iv_c _ (a := 1) (b := 1) (by decide +kernel)) (by decide +kernel)) (a' := 0) (b' := 4) (by decide +kernel)) (iv_stepU ey4 (iv_lt (b' := 3) (iv_gt_of c2) hz1_2 (iv_c 4 (a := 4) (b := 4) (by decide +kernel)) (by decide +kernel)) (by decide +kernel) hN1)
  exact B1_5 _ s.heap _ _ 0 hG hS (lv_sub hl [2, 3, 1, 0] rfl) (iv_of (iv_c 0 (a := 0) (b := 0) (by decide +kernel)) (a' := 0) (b' := 4) (by decide +kernel)) (Nat.le_refl _)

theorem ca_J7_fill_53178_pageDays   (X : CallFix p m c cc nL s args sg_tbl own) (hK : va_K D vwCl tys s) (hG : sgG (KT P) D vwCl (fun q : Nat => base ≤ q) tys ad ks H) (hC : sgC base s) (hS : va_S (fun q : Nat => base ≤ q) s.heap H locs) (hb : base ≤ s.heap.size) (a0 : Nat) (h0 : isK ad ks 36 a0) (x1 : Int32) (hl : Cond.methodLink own index yJ7_fill_53178 ∈ sg_tbl) (hsize : ls.size = nL) (hst : st0 = [.ref a0, .int x1].reverse ++ rest) (hW : (rest.map fun v => v.category).sum ≤ 8) (hR : 1 ≤ R.frames ∧ 23 ≤ R.locals) (hf : cells ≤ R.cells ∧ slots ≤ R.slots) (hdg : decode cc pc = .ok (.invokestatic index, 3)) (kk : ∀ (H1 : Heap) (locs1 : List Loc), sgG (KT P) D vwCl (fun q : Nat => base ≤ q) tys ad ks H1 → va_S (fun q : Nat => base ≤ q) s.heap H1 locs1 → W p l e R s m args below meth c H1 locs1 cells slots Q (F0 m (pc + 3) ls rest)) : W p l e R s m args below meth c H locs cells slots Q (F0 m pc ls st0) :=
  sg_callSv X hK hG hC hS hb (m_J7_fill_53178_pageDays l a0 h0 x1) wl_4_69 wl_1_21 wl_4_68 (n := 2) (by decide +kernel) rfl rfl rfl hl hsize hst hW hR hf hdg kk

set_option maxHeartbeats 8000000 in
set_option maxRecDepth 100000 in
theorem m_J7_fill_53178_reckoned (l : Launch) {D : va_G} {base : Nat} {tys : List (ClassId × FieldType)} {ad ks : List Nat} {P : sgPm} (a0 : Nat) (h0 : isK ad ks 37 a0) (x1 : Int32) : sgMv l (KT P) D vwCl base tys ad ks yJ7_fill_53178 cJ7_fill_53178 4 none ({ frames := 0, cells := 0, slots := 0, locals := 0 }) [.ref a0, .int x1] := by
  refine sg_ofW (by decide +kernel) (Nat.le_of_ble_eq_true rfl) (fun p e s m below meth c X hr hlk hb hK hC hG ls hl => ?_)
  have hS : va_S (fun q : Nat => base ≤ q) s.heap s.heap [] := va_S.rf
  have hl : lv_has ls 4 [(0, .ref a0), (1, .int x1)] := hl
  refine lv_iconst (v := 0) X.1 X.2.1 dJ7_fill_53178_0 (by decide +kernel) ?_
  refine lv_istore_n (lv' := [(2, .int 0), (0, .ref a0), (1, .int x1)]) X.1 X.2.1 dJ7_fill_53178_1 rfl hl (by decide) rfl (fun ls hl => ?_)
  refine lv_aload_n X.1 X.2.1 dJ7_fill_53178_2 rfl (lv_at hl 1 rfl) ?_
  refine sg_alen X hK hG h0 (k := 37) rfl (v := 1116) rfl dJ7_fill_53178_3 ?_
  refine lv_istore_n (lv' := [(3, .int 1116), (2, .int 0), (0, .ref a0), (1, .int x1)]) X.1 X.2.1 dJ7_fill_53178_4 rfl hl (by decide) rfl (fun ls hl => ?_)
  have B1_5 : ∀ (N : Nat) (H : Heap) (locs : List Loc) (ls : Array Slot) (z1_2 : Int32), sgG (KT P) D vwCl (fun q : Nat => base ≤ q) tys ad ks H → va_S (fun q : Nat => base ≤ q) s.heap H locs → lv_has ls 4 [(0, .ref a0), (1, .int x1), (2, .int z1_2), (3, .int 1116)] → iv 0 1116 z1_2 → (1117 - z1_2.toInt).toNat ≤ N → W p l e (headSpec (Cond.code yJ7_fill_53178 cJ7_fill_53178 4 none :: sg_tbl) ({ frames := 0, cells := 0, slots := 0, locals := 0 })).room s m #[.ref a0, .int x1] below meth c H locs 0 0 (MQ below (va_Qv (fun (_ : Unit) => True) (fun _ => sgB (KT P) D vwCl base tys ad ks) (fun q : Nat => base ≤ q)) #[.ref a0, .int x1] s 0 0 (fun q : Nat => base ≤ q)) (F0 m 5 ls []) := by
    intro N; induction N with
    | zero =>
      intro H locs ls z1_2 hG hS hl hz1_2 hN
      exact absurd hN (by have := iv_up hz1_2; omega)
    | succ N ih1 =>
      intro H locs ls z1_2 hG hS hl hz1_2 hN1
      refine lv_iload_n X.1 X.2.1 dJ7_fill_53178_5 rfl (lv_at hl 2 rfl) ?_
      refine lv_iload_n X.1 X.2.1 dJ7_fill_53178_6 rfl (lv_at hl 3 rfl) ?_
      refine lv_icmp_ge (tgt := 20) X.1 X.2.1 dJ7_fill_53178_7 (by decide) (fun c2 => ?_) (fun c2 => ?_)
      · exact sg_vret X hr hlk hb hK hC hG hS dJ7_fill_53178_20
      · refine lv_aload_n X.1 X.2.1 dJ7_fill_53178_10 rfl (lv_at hl 0 rfl) ?_
        refine lv_iload_n X.1 X.2.1 dJ7_fill_53178_11 rfl (lv_at hl 2 rfl) ?_
        refine lv_iload_n X.1 X.2.1 dJ7_fill_53178_12 rfl (lv_at hl 1 rfl) ?_
        refine as_37 X hK hG hS h0 (iv_vpin (iv_lt (b' := 1115) (iv_gt_of c2) hz1_2 (iv_c 1116 (a := 1116) (b := 1116) (by decide +kernel)) (by decide +kernel)) (by decide +kernel)) ⟨_, rfl, (iv_top _)⟩ dJ7_fill_53178_13 (fun H locs hG hS ru3 => ?_)
        obtain ⟨y4, ey4⟩ : ∃ y : Int32, y = z1_2 + Int32.ofInt 1 := ⟨_, rfl⟩
        refine lv_iinc (v := y4) (lv' := [(2, .int y4), (0, .ref a0), (1, .int x1), (3, .int 1116)]) X.1 X.2.1 dJ7_fill_53178_14 hl (k := 2) rfl ey4.symm (by decide) rfl (fun ls hl => ?_)
        refine lv_goto (tgt := 5) X.1 X.2.1 dJ7_fill_53178_17 (by decide) ?_
        exact ih1 H _ _ y4 hG hS (lv_sub hl [1, 2, 0, 3] rfl) (iv_of (iv_add (a' := 1) (b' := 1116) ey4 (iv_lt (b' := 1115) (iv_gt_of c2) hz1_2 (iv_c 1116 (a := 1116) (b := 1116) (by decide +kernel)) (by decide +kernel)) (iv_c _ (a := 1) (b := 1) (by decide +kernel)) (by decide +kernel)) (a' := 0) (b' := 1116) (by decide +kernel)) (iv_stepU ey4 (iv_lt (b' := 1115) (iv_gt_of c2) hz1_2 (iv_c 1116 (a := 1116) (b := 1116) (by decide +kernel)) (by decide +kernel)) (by decide +kernel) hN1)
  exact B1_5 _ s.heap _ _ 0 hG hS (lv_sub hl [2, 3, 1, 0] rfl) (iv_of (iv_c 0 (a := 0) (b := 0) (by decide +kernel)) (a' := 0) (b' := 1116) (by decide +kernel)) (Nat.le_refl _)

theorem ca_J7_fill_53178_reckoned   (X : CallFix p m c cc nL s args sg_tbl own) (hK : va_K D vwCl tys s) (hG : sgG (KT P) D vwCl (fun q : Nat => base ≤ q) tys ad ks H) (hC : sgC base s) (hS : va_S (fun q : Nat => base ≤ q) s.heap H locs) (hb : base ≤ s.heap.size) (a0 : Nat) (h0 : isK ad ks 37 a0) (x1 : Int32) (hl : Cond.methodLink own index yJ7_fill_53178 ∈ sg_tbl) (hsize : ls.size = nL) (hst : st0 = [.ref a0, .int x1].reverse ++ rest) (hW : (rest.map fun v => v.category).sum ≤ 8) (hR : 1 ≤ R.frames ∧ 23 ≤ R.locals) (hf : cells ≤ R.cells ∧ slots ≤ R.slots) (hdg : decode cc pc = .ok (.invokestatic index, 3)) (kk : ∀ (H1 : Heap) (locs1 : List Loc), sgG (KT P) D vwCl (fun q : Nat => base ≤ q) tys ad ks H1 → va_S (fun q : Nat => base ≤ q) s.heap H1 locs1 → W p l e R s m args below meth c H1 locs1 cells slots Q (F0 m (pc + 3) ls rest)) : W p l e R s m args below meth c H locs cells slots Q (F0 m pc ls st0) :=
  sg_callSv X hK hG hC hS hb (m_J7_fill_53178_reckoned l a0 h0 x1) wl_4_69 wl_1_21 wl_4_68 (n := 2) (by decide +kernel) rfl rfl rfl hl hsize hst hW hR hf hdg kk

set_option maxHeartbeats 8000000 in
set_option maxRecDepth 100000 in
theorem m_J7_fill_53178_worthy (l : Launch) {D : va_G} {base : Nat} {tys : List (ClassId × FieldType)} {ad ks : List Nat} {P : sgPm} (a0 : Nat) (h0 : isK ad ks 38 a0) (x1 : Int32) : sgMv l (KT P) D vwCl base tys ad ks yJ7_fill_53178 cJ7_fill_53178 4 none ({ frames := 0, cells := 0, slots := 0, locals := 0 }) [.ref a0, .int x1] := by
  refine sg_ofW (by decide +kernel) (Nat.le_of_ble_eq_true rfl) (fun p e s m below meth c X hr hlk hb hK hC hG ls hl => ?_)
  have hS : va_S (fun q : Nat => base ≤ q) s.heap s.heap [] := va_S.rf
  have hl : lv_has ls 4 [(0, .ref a0), (1, .int x1)] := hl
  refine lv_iconst (v := 0) X.1 X.2.1 dJ7_fill_53178_0 (by decide +kernel) ?_
  refine lv_istore_n (lv' := [(2, .int 0), (0, .ref a0), (1, .int x1)]) X.1 X.2.1 dJ7_fill_53178_1 rfl hl (by decide) rfl (fun ls hl => ?_)
  refine lv_aload_n X.1 X.2.1 dJ7_fill_53178_2 rfl (lv_at hl 1 rfl) ?_
  refine sg_alen X hK hG h0 (k := 38) rfl (v := 1116) rfl dJ7_fill_53178_3 ?_
  refine lv_istore_n (lv' := [(3, .int 1116), (2, .int 0), (0, .ref a0), (1, .int x1)]) X.1 X.2.1 dJ7_fill_53178_4 rfl hl (by decide) rfl (fun ls hl => ?_)
  have B1_5 : ∀ (N : Nat) (H : Heap) (locs : List Loc) (ls : Array Slot) (z1_2 : Int32), sgG (KT P) D vwCl (fun q : Nat => base ≤ q) tys ad ks H → va_S (fun q : Nat => base ≤ q) s.heap H locs → lv_has ls 4 [(0, .ref a0), (1, .int x1), (2, .int z1_2), (3, .int 1116)] → iv 0 1116 z1_2 → (1117 - z1_2.toInt).toNat ≤ N → W p l e (headSpec (Cond.code yJ7_fill_53178 cJ7_fill_53178 4 none :: sg_tbl) ({ frames := 0, cells := 0, slots := 0, locals := 0 })).room s m #[.ref a0, .int x1] below meth c H locs 0 0 (MQ below (va_Qv (fun (_ : Unit) => True) (fun _ => sgB (KT P) D vwCl base tys ad ks) (fun q : Nat => base ≤ q)) #[.ref a0, .int x1] s 0 0 (fun q : Nat => base ≤ q)) (F0 m 5 ls []) := by
    intro N; induction N with
    | zero =>
      intro H locs ls z1_2 hG hS hl hz1_2 hN
      exact absurd hN (by have := iv_up hz1_2; omega)
    | succ N ih1 =>
      intro H locs ls z1_2 hG hS hl hz1_2 hN1
      refine lv_iload_n X.1 X.2.1 dJ7_fill_53178_5 rfl (lv_at hl 2 rfl) ?_
      refine lv_iload_n X.1 X.2.1 dJ7_fill_53178_6 rfl (lv_at hl 3 rfl) ?_
      refine lv_icmp_ge (tgt := 20) X.1 X.2.1 dJ7_fill_53178_7 (by decide) (fun c2 => ?_) (fun c2 => ?_)
      · exact sg_vret X hr hlk hb hK hC hG hS dJ7_fill_53178_20
      · refine lv_aload_n X.1 X.2.1 dJ7_fill_53178_10 rfl (lv_at hl 0 rfl) ?_
        refine lv_iload_n X.1 X.2.1 dJ7_fill_53178_11 rfl (lv_at hl 2 rfl) ?_
        refine lv_iload_n X.1 X.2.1 dJ7_fill_53178_12 rfl (lv_at hl 1 rfl) ?_
        refine as_38 X hK hG hS h0 (iv_vpin (iv_lt (b' := 1115) (iv_gt_of c2) hz1_2 (iv_c 1116 (a := 1116) (b := 1116) (by decide +kernel)) (by decide +kernel)) (by decide +kernel)) ⟨_, rfl, (iv_top _)⟩ dJ7_fill_53178_13 (fun H locs hG hS ru3 => ?_)
        obtain ⟨y4, ey4⟩ : ∃ y : Int32, y = z1_2 + Int32.ofInt 1 := ⟨_, rfl⟩
        refine lv_iinc (v := y4) (lv' := [(2, .int y4), (0, .ref a0), (1, .int x1), (3, .int 1116)]) X.1 X.2.1 dJ7_fill_53178_14 hl (k := 2) rfl ey4.symm (by decide) rfl (fun ls hl => ?_)
        refine lv_goto (tgt := 5) X.1 X.2.1 dJ7_fill_53178_17 (by decide) ?_
        exact ih1 H _ _ y4 hG hS (lv_sub hl [1, 2, 0, 3] rfl) (iv_of (iv_add (a' := 1) (b' := 1116) ey4 (iv_lt (b' := 1115) (iv_gt_of c2) hz1_2 (iv_c 1116 (a := 1116) (b := 1116) (by decide +kernel)) (by decide +kernel)) (iv_c _ (a := 1) (b := 1) (by decide +kernel)) (by decide +kernel)) (a' := 0) (b' := 1116) (by decide +kernel)) (iv_stepU ey4 (iv_lt (b' := 1115) (iv_gt_of c2) hz1_2 (iv_c 1116 (a := 1116) (b := 1116) (by decide +kernel)) (by decide +kernel)) (by decide +kernel) hN1)
  exact B1_5 _ s.heap _ _ 0 hG hS (lv_sub hl [2, 3, 1, 0] rfl) (iv_of (iv_c 0 (a := 0) (b := 0) (by decide +kernel)) (a' := 0) (b' := 1116) (by decide +kernel)) (Nat.le_refl _)

theorem ca_J7_fill_53178_worthy   (X : CallFix p m c cc nL s args sg_tbl own) (hK : va_K D vwCl tys s) (hG : sgG (KT P) D vwCl (fun q : Nat => base ≤ q) tys ad ks H) (hC : sgC base s) (hS : va_S (fun q : Nat => base ≤ q) s.heap H locs) (hb : base ≤ s.heap.size) (a0 : Nat) (h0 : isK ad ks 38 a0) (x1 : Int32) (hl : Cond.methodLink own index yJ7_fill_53178 ∈ sg_tbl) (hsize : ls.size = nL) (hst : st0 = [.ref a0, .int x1].reverse ++ rest) (hW : (rest.map fun v => v.category).sum ≤ 8) (hR : 1 ≤ R.frames ∧ 23 ≤ R.locals) (hf : cells ≤ R.cells ∧ slots ≤ R.slots) (hdg : decode cc pc = .ok (.invokestatic index, 3)) (kk : ∀ (H1 : Heap) (locs1 : List Loc), sgG (KT P) D vwCl (fun q : Nat => base ≤ q) tys ad ks H1 → va_S (fun q : Nat => base ≤ q) s.heap H1 locs1 → W p l e R s m args below meth c H1 locs1 cells slots Q (F0 m (pc + 3) ls rest)) : W p l e R s m args below meth c H locs cells slots Q (F0 m pc ls st0) :=
  sg_callSv X hK hG hC hS hb (m_J7_fill_53178_worthy l a0 h0 x1) wl_4_69 wl_1_21 wl_4_68 (n := 2) (by decide +kernel) rfl rfl rfl hl hsize hst hW hR hf hdg kk
end
