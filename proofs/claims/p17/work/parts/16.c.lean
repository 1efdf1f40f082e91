abbrev cJ0_coder_7d493 : ByteArray := prog_23_method_152_code
def yJ0_coder_7d493 : MethodName := ⟨RJ0, "coder", "()B"⟩
abbrev cJ0_isLatin1_aae02 : ByteArray := prog_23_method_154_code
def yJ0_isLatin1_aae02 : MethodName := ⟨RJ0, "isLatin1", "()Z"⟩
abbrev cJ0_length_8abf5 : ByteArray := prog_23_method_54_code
def yJ0_length_8abf5 : MethodName := ⟨RJ0, "length", "()I"⟩
abbrev cJ1_canEncode_9a6ad : ByteArray := prog_24_method_4_code
def yJ1_canEncode_9a6ad : MethodName := ⟨RJ1, "canEncode", "(I)Z"⟩
abbrev cJ1_indexOfChar_4cfef : ByteArray := prog_24_method_23_code
def yJ1_indexOfChar_4cfef : MethodName := ⟨RJ1, "indexOfChar", "([BIII)I"⟩
abbrev cJ1_indexOf_4cfef : ByteArray := prog_24_method_22_code
def yJ1_indexOf_4cfef : MethodName := ⟨RJ1, "indexOf", "([BIII)I"⟩
abbrev cX10_demand : ByteArray := prog_12_method_9_code
def yX10_demand : MethodName := ⟨RX10, "demand", "(I)Z"⟩
abbrev cX10_ended : ByteArray := prog_12_method_10_code
def yX10_ended : MethodName := ⟨RX10, "ended", "()Z"⟩
abbrev cX10_number : ByteArray := prog_12_method_11_code
def yX10_number : MethodName := ⟨RX10, "number", "(III)I"⟩
abbrev cX10_rewind : ByteArray := prog_12_method_4_code
def yX10_rewind : MethodName := ⟨RX10, "rewind", "()V"⟩
abbrev cX10_sign : ByteArray := prog_12_method_5_code
def yX10_sign : MethodName := ⟨RX10, "sign", "()I"⟩
abbrev cX10_step : ByteArray := prog_12_method_6_code
def yX10_step : MethodName := ⟨RX10, "step", "()V"⟩
abbrev cX10_wrong : ByteArray := prog_12_method_7_code
def yX10_wrong : MethodName := ⟨RX10, "wrong", "()Z"⟩
abbrev cX10_wrongAsWhole : ByteArray := prog_12_method_8_code
def yX10_wrongAsWhole : MethodName := ⟨RX10, "wrongAsWhole", "()Z"⟩
theorem dJ0_coder_7d493_0 : decode cJ0_coder_7d493 0 = .ok (.getstatic 38, 3) := by decide +kernel
theorem dJ0_coder_7d493_3 : decode cJ0_coder_7d493 3 = .ok (.ifCond .eq 10, 3) := by decide +kernel
theorem dJ0_coder_7d493_6 : decode cJ0_coder_7d493 6 = .ok (.aload_n 0, 1) := by decide +kernel
theorem dJ0_coder_7d493_7 : decode cJ0_coder_7d493 7 = .ok (.getfield 15, 3) := by decide +kernel
theorem dJ0_coder_7d493_10 : decode cJ0_coder_7d493 10 = .ok (.goto 4, 3) := by decide +kernel
theorem dJ0_coder_7d493_14 : decode cJ0_coder_7d493 14 = .ok (.ireturn, 1) := by decide +kernel
theorem dJ0_isLatin1_aae02_0 : decode cJ0_isLatin1_aae02 0 = .ok (.getstatic 38, 3) := by decide +kernel
theorem dJ0_isLatin1_aae02_3 : decode cJ0_isLatin1_aae02 3 = .ok (.ifCond .eq 14, 3) := by decide +kernel
theorem dJ0_isLatin1_aae02_6 : decode cJ0_isLatin1_aae02 6 = .ok (.aload_n 0, 1) := by decide +kernel
theorem dJ0_isLatin1_aae02_7 : decode cJ0_isLatin1_aae02 7 = .ok (.getfield 15, 3) := by decide +kernel
theorem dJ0_isLatin1_aae02_10 : decode cJ0_isLatin1_aae02 10 = .ok (.ifCond .ne 7, 3) := by decide +kernel
theorem dJ0_isLatin1_aae02_13 : decode cJ0_isLatin1_aae02 13 = .ok (.iconst 1, 1) := by decide +kernel
theorem dJ0_isLatin1_aae02_14 : decode cJ0_isLatin1_aae02 14 = .ok (.goto 4, 3) := by decide +kernel
theorem dJ0_isLatin1_aae02_18 : decode cJ0_isLatin1_aae02 18 = .ok (.ireturn, 1) := by decide +kernel
theorem dJ0_length_8abf5_0 : decode cJ0_length_8abf5 0 = .ok (.aload_n 0, 1) := by decide +kernel
theorem dJ0_length_8abf5_1 : decode cJ0_length_8abf5 1 = .ok (.getfield 9, 3) := by decide +kernel
theorem dJ0_length_8abf5_4 : decode cJ0_length_8abf5 4 = .ok (.arraylength, 1) := by decide +kernel
theorem dJ0_length_8abf5_5 : decode cJ0_length_8abf5 5 = .ok (.aload_n 0, 1) := by decide +kernel
theorem dJ0_length_8abf5_6 : decode cJ0_length_8abf5 6 = .ok (.invokevirtual 335, 3) := by decide +kernel
theorem dJ0_length_8abf5_9 : decode cJ0_length_8abf5 9 = .ok (.ishr, 1) := by decide +kernel
theorem dJ0_length_8abf5_10 : decode cJ0_length_8abf5 10 = .ok (.ireturn, 1) := by decide +kernel
theorem dJ1_canEncode_9a6ad_0 : decode cJ1_canEncode_9a6ad 0 = .ok (.iload_n 0, 1) := by decide +kernel
theorem dJ1_canEncode_9a6ad_1 : decode cJ1_canEncode_9a6ad 1 = .ok (.ifCond .lt 14, 3) := by decide +kernel
theorem dJ1_canEncode_9a6ad_4 : decode cJ1_canEncode_9a6ad 4 = .ok (.iload_n 0, 1) := by decide +kernel
theorem dJ1_canEncode_9a6ad_5 : decode cJ1_canEncode_9a6ad 5 = .ok (.sipush 255, 3) := by decide +kernel
theorem dJ1_canEncode_9a6ad_8 : decode cJ1_canEncode_9a6ad 8 = .ok (.if_icmp .gt 7, 3) := by decide +kernel
theorem dJ1_canEncode_9a6ad_11 : decode cJ1_canEncode_9a6ad 11 = .ok (.iconst 1, 1) := by decide +kernel
theorem dJ1_canEncode_9a6ad_12 : decode cJ1_canEncode_9a6ad 12 = .ok (.goto 4, 3) := by decide +kernel
theorem dJ1_canEncode_9a6ad_15 : decode cJ1_canEncode_9a6ad 15 = .ok (.iconst 0, 1) := by decide +kernel
theorem dJ1_canEncode_9a6ad_16 : decode cJ1_canEncode_9a6ad 16 = .ok (.ireturn, 1) := by decide +kernel
theorem dJ1_indexOfChar_4cfef_0 : decode cJ1_indexOfChar_4cfef 0 = .ok (.iload_n 1, 1) := by decide +kernel
theorem dJ1_indexOfChar_4cfef_1 : decode cJ1_indexOfChar_4cfef 1 = .ok (.i2b, 1) := by decide +kernel
theorem dJ1_indexOfChar_4cfef_2 : decode cJ1_indexOfChar_4cfef 2 = .ok (.istore 4, 2) := by decide +kernel
theorem dJ1_indexOfChar_4cfef_4 : decode cJ1_indexOfChar_4cfef 4 = .ok (.iload_n 2, 1) := by decide +kernel
theorem dJ1_indexOfChar_4cfef_5 : decode cJ1_indexOfChar_4cfef 5 = .ok (.istore 5, 2) := by decide +kernel
theorem dJ1_indexOfChar_4cfef_7 : decode cJ1_indexOfChar_4cfef 7 = .ok (.iload 5, 2) := by decide +kernel
theorem dJ1_indexOfChar_4cfef_9 : decode cJ1_indexOfChar_4cfef 9 = .ok (.iload_n 3, 1) := by decide +kernel
theorem dJ1_indexOfChar_4cfef_10 : decode cJ1_indexOfChar_4cfef 10 = .ok (.if_icmp .ge 21, 3) := by decide +kernel
theorem dJ1_indexOfChar_4cfef_13 : decode cJ1_indexOfChar_4cfef 13 = .ok (.aload_n 0, 1) := by decide +kernel
theorem dJ1_indexOfChar_4cfef_14 : decode cJ1_indexOfChar_4cfef 14 = .ok (.iload 5, 2) := by decide +kernel
theorem dJ1_indexOfChar_4cfef_16 : decode cJ1_indexOfChar_4cfef 16 = .ok (.baload, 1) := by decide +kernel
theorem dJ1_indexOfChar_4cfef_17 : decode cJ1_indexOfChar_4cfef 17 = .ok (.iload 4, 2) := by decide +kernel
theorem dJ1_indexOfChar_4cfef_19 : decode cJ1_indexOfChar_4cfef 19 = .ok (.if_icmp .ne 6, 3) := by decide +kernel
theorem dJ1_indexOfChar_4cfef_22 : decode cJ1_indexOfChar_4cfef 22 = .ok (.iload 5, 2) := by decide +kernel
theorem dJ1_indexOfChar_4cfef_24 : decode cJ1_indexOfChar_4cfef 24 = .ok (.ireturn, 1) := by decide +kernel
theorem dJ1_indexOfChar_4cfef_25 : decode cJ1_indexOfChar_4cfef 25 = .ok (.iinc 5 1, 3) := by decide +kernel
theorem dJ1_indexOfChar_4cfef_28 : decode cJ1_indexOfChar_4cfef 28 = .ok (.goto (-21), 3) := by decide +kernel
theorem dJ1_indexOfChar_4cfef_31 : decode cJ1_indexOfChar_4cfef 31 = .ok (.iconst (-1), 1) := by decide +kernel
theorem dJ1_indexOfChar_4cfef_32 : decode cJ1_indexOfChar_4cfef 32 = .ok (.ireturn, 1) := by decide +kernel
theorem dJ1_indexOf_4cfef_0 : decode cJ1_indexOf_4cfef 0 = .ok (.iload_n 1, 1) := by decide +kernel
theorem dJ1_indexOf_4cfef_1 : decode cJ1_indexOf_4cfef 1 = .ok (.invokestatic 88, 3) := by decide +kernel
theorem dJ1_indexOf_4cfef_4 : decode cJ1_indexOf_4cfef 4 = .ok (.ifCond .ne 5, 3) := by decide +kernel
theorem dJ1_indexOf_4cfef_7 : decode cJ1_indexOf_4cfef 7 = .ok (.iconst (-1), 1) := by decide +kernel
theorem dJ1_indexOf_4cfef_8 : decode cJ1_indexOf_4cfef 8 = .ok (.ireturn, 1) := by decide +kernel
theorem dJ1_indexOf_4cfef_9 : decode cJ1_indexOf_4cfef 9 = .ok (.iload_n 2, 1) := by decide +kernel
theorem dJ1_indexOf_4cfef_10 : decode cJ1_indexOf_4cfef 10 = .ok (.iconst 0, 1) := by decide +kernel
theorem dJ1_indexOf_4cfef_11 : decode cJ1_indexOf_4cfef 11 = .ok (.invokestatic 92, 3) := by decide +kernel
theorem dJ1_indexOf_4cfef_14 : decode cJ1_indexOf_4cfef 14 = .ok (.istore_n 2, 1) := by decide +kernel
theorem dJ1_indexOf_4cfef_15 : decode cJ1_indexOf_4cfef 15 = .ok (.iload_n 3, 1) := by decide +kernel
theorem dJ1_indexOf_4cfef_16 : decode cJ1_indexOf_4cfef 16 = .ok (.aload_n 0, 1) := by decide +kernel
theorem dJ1_indexOf_4cfef_17 : decode cJ1_indexOf_4cfef 17 = .ok (.arraylength, 1) := by decide +kernel
theorem dJ1_indexOf_4cfef_18 : decode cJ1_indexOf_4cfef 18 = .ok (.invokestatic 38, 3) := by decide +kernel
theorem dJ1_indexOf_4cfef_21 : decode cJ1_indexOf_4cfef 21 = .ok (.istore_n 3, 1) := by decide +kernel
theorem dJ1_indexOf_4cfef_22 : decode cJ1_indexOf_4cfef 22 = .ok (.iload_n 2, 1) := by decide +kernel
theorem dJ1_indexOf_4cfef_23 : decode cJ1_indexOf_4cfef 23 = .ok (.iload_n 3, 1) := by decide +kernel
theorem dJ1_indexOf_4cfef_24 : decode cJ1_indexOf_4cfef 24 = .ok (.if_icmp .lt 5, 3) := by decide +kernel
theorem dJ1_indexOf_4cfef_27 : decode cJ1_indexOf_4cfef 27 = .ok (.iconst (-1), 1) := by decide +kernel
theorem dJ1_indexOf_4cfef_28 : decode cJ1_indexOf_4cfef 28 = .ok (.ireturn, 1) := by decide +kernel
theorem dJ1_indexOf_4cfef_29 : decode cJ1_indexOf_4cfef 29 = .ok (.aload_n 0, 1) := by decide +kernel
theorem dJ1_indexOf_4cfef_30 : decode cJ1_indexOf_4cfef 30 = .ok (.iload_n 1, 1) := by decide +kernel
theorem dJ1_indexOf_4cfef_31 : decode cJ1_indexOf_4cfef 31 = .ok (.iload_n 2, 1) := by decide +kernel
theorem dJ1_indexOf_4cfef_32 : decode cJ1_indexOf_4cfef 32 = .ok (.iload_n 3, 1) := by decide +kernel
theorem dJ1_indexOf_4cfef_33 : decode cJ1_indexOf_4cfef 33 = .ok (.invokestatic 95, 3) := by decide +kernel
theorem dJ1_indexOf_4cfef_36 : decode cJ1_indexOf_4cfef 36 = .ok (.ireturn, 1) := by decide +kernel
theorem dX10_demand_0 : decode cX10_demand 0 = .ok (.aload_n 0, 1) := by decide +kernel
theorem dX10_demand_1 : decode cX10_demand 1 = .ok (.invokevirtual 31, 3) := by decide +kernel
theorem dX10_demand_4 : decode cX10_demand 4 = .ok (.iload_n 1, 1) := by decide +kernel
theorem dX10_demand_5 : decode cX10_demand 5 = .ok (.if_icmp .eq 8, 3) := by decide +kernel
theorem dX10_demand_8 : decode cX10_demand 8 = .ok (.aload_n 0, 1) := by decide +kernel
theorem dX10_demand_9 : decode cX10_demand 9 = .ok (.invokevirtual 35, 3) := by decide +kernel
theorem dX10_demand_12 : decode cX10_demand 12 = .ok (.ireturn, 1) := by decide +kernel
theorem dX10_demand_13 : decode cX10_demand 13 = .ok (.aload_n 0, 1) := by decide +kernel
theorem dX10_demand_14 : decode cX10_demand 14 = .ok (.invokevirtual 39, 3) := by decide +kernel
theorem dX10_demand_17 : decode cX10_demand 17 = .ok (.iconst 1, 1) := by decide +kernel
theorem dX10_demand_18 : decode cX10_demand 18 = .ok (.ireturn, 1) := by decide +kernel
theorem dX10_ended_0 : decode cX10_ended 0 = .ok (.aload_n 0, 1) := by decide +kernel
theorem dX10_ended_1 : decode cX10_ended 1 = .ok (.invokevirtual 31, 3) := by decide +kernel
theorem dX10_ended_4 : decode cX10_ended 4 = .ok (.ifCond .eq 10, 3) := by decide +kernel
theorem dX10_ended_7 : decode cX10_ended 7 = .ok (.aload_n 0, 1) := by decide +kernel
theorem dX10_ended_8 : decode cX10_ended 8 = .ok (.invokevirtual 35, 3) := by decide +kernel
theorem dX10_ended_11 : decode cX10_ended 11 = .ok (.ifCond .eq 7, 3) := by decide +kernel
theorem dX10_ended_14 : decode cX10_ended 14 = .ok (.iconst 1, 1) := by decide +kernel
theorem dX10_ended_15 : decode cX10_ended 15 = .ok (.goto 4, 3) := by decide +kernel
theorem dX10_ended_18 : decode cX10_ended 18 = .ok (.iconst 0, 1) := by decide +kernel
theorem dX10_ended_19 : decode cX10_ended 19 = .ok (.ireturn, 1) := by decide +kernel
theorem dX10_number_0 : decode cX10_number 0 = .ok (.iconst 0, 1) := by decide +kernel
theorem dX10_number_1 : decode cX10_number 1 = .ok (.istore 4, 2) := by decide +kernel
theorem dX10_number_3 : decode cX10_number 3 = .ok (.iconst 0, 1) := by decide +kernel
theorem dX10_number_4 : decode cX10_number 4 = .ok (.istore 5, 2) := by decide +kernel
theorem dX10_number_6 : decode cX10_number 6 = .ok (.aload_n 0, 1) := by decide +kernel
theorem dX10_number_7 : decode cX10_number 7 = .ok (.getfield 22, 3) := by decide +kernel
theorem dX10_number_10 : decode cX10_number 10 = .ok (.aload_n 0, 1) := by decide +kernel
theorem dX10_number_11 : decode cX10_number 11 = .ok (.getfield 15, 3) := by decide +kernel
theorem dX10_number_14 : decode cX10_number 14 = .ok (.if_icmp .ge 83, 3) := by decide +kernel
theorem dX10_number_17 : decode cX10_number 17 = .ok (.aload_n 0, 1) := by decide +kernel
theorem dX10_number_18 : decode cX10_number 18 = .ok (.getfield 11, 3) := by decide +kernel
theorem dX10_number_21 : decode cX10_number 21 = .ok (.aload_n 0, 1) := by decide +kernel
theorem dX10_number_22 : decode cX10_number 22 = .ok (.getfield 22, 3) := by decide +kernel
theorem dX10_number_25 : decode cX10_number 25 = .ok (.iaload, 1) := by decide +kernel
theorem dX10_number_26 : decode cX10_number 26 = .ok (.bipush 48, 2) := by decide +kernel
theorem dX10_number_28 : decode cX10_number 28 = .ok (.if_icmp .lt 69, 3) := by decide +kernel
theorem dX10_number_31 : decode cX10_number 31 = .ok (.aload_n 0, 1) := by decide +kernel
theorem dX10_number_32 : decode cX10_number 32 = .ok (.getfield 11, 3) := by decide +kernel
theorem dX10_number_35 : decode cX10_number 35 = .ok (.aload_n 0, 1) := by decide +kernel
theorem dX10_number_36 : decode cX10_number 36 = .ok (.getfield 22, 3) := by decide +kernel
theorem dX10_number_39 : decode cX10_number 39 = .ok (.iaload, 1) := by decide +kernel
theorem dX10_number_40 : decode cX10_number 40 = .ok (.bipush 57, 2) := by decide +kernel
theorem dX10_number_42 : decode cX10_number 42 = .ok (.if_icmp .gt 55, 3) := by decide +kernel
theorem dX10_number_45 : decode cX10_number 45 = .ok (.iload 5, 2) := by decide +kernel
theorem dX10_number_47 : decode cX10_number 47 = .ok (.iload_n 1, 1) := by decide +kernel
theorem dX10_number_48 : decode cX10_number 48 = .ok (.if_icmp .ne 13, 3) := by decide +kernel
theorem dX10_number_51 : decode cX10_number 51 = .ok (.aload_n 0, 1) := by decide +kernel
theorem dX10_number_52 : decode cX10_number 52 = .ok (.aload_n 0, 1) := by decide +kernel
theorem dX10_number_53 : decode cX10_number 53 = .ok (.getfield 22, 3) := by decide +kernel
theorem dX10_number_56 : decode cX10_number 56 = .ok (.putfield 19, 3) := by decide +kernel
theorem dX10_number_59 : decode cX10_number 59 = .ok (.iconst (-1), 1) := by decide +kernel
theorem dX10_number_60 : decode cX10_number 60 = .ok (.ireturn, 1) := by decide +kernel
theorem dX10_number_61 : decode cX10_number 61 = .ok (.iload 4, 2) := by decide +kernel
theorem dX10_number_63 : decode cX10_number 63 = .ok (.bipush 10, 2) := by decide +kernel
theorem dX10_number_65 : decode cX10_number 65 = .ok (.imul, 1) := by decide +kernel
theorem dX10_number_66 : decode cX10_number 66 = .ok (.aload_n 0, 1) := by decide +kernel
theorem dX10_number_67 : decode cX10_number 67 = .ok (.getfield 11, 3) := by decide +kernel
theorem dX10_number_70 : decode cX10_number 70 = .ok (.aload_n 0, 1) := by decide +kernel
theorem dX10_number_71 : decode cX10_number 71 = .ok (.getfield 22, 3) := by decide +kernel
theorem dX10_number_74 : decode cX10_number 74 = .ok (.iaload, 1) := by decide +kernel
theorem dX10_number_75 : decode cX10_number 75 = .ok (.iadd, 1) := by decide +kernel
theorem dX10_number_76 : decode cX10_number 76 = .ok (.bipush 48, 2) := by decide +kernel
theorem dX10_number_78 : decode cX10_number 78 = .ok (.isub, 1) := by decide +kernel
theorem dX10_number_79 : decode cX10_number 79 = .ok (.istore 4, 2) := by decide +kernel
theorem dX10_number_81 : decode cX10_number 81 = .ok (.iinc 5 1, 3) := by decide +kernel
theorem dX10_number_84 : decode cX10_number 84 = .ok (.aload_n 0, 1) := by decide +kernel
theorem dX10_number_85 : decode cX10_number 85 = .ok (.dup, 1) := by decide +kernel
theorem dX10_number_86 : decode cX10_number 86 = .ok (.getfield 22, 3) := by decide +kernel
theorem dX10_number_89 : decode cX10_number 89 = .ok (.iconst 1, 1) := by decide +kernel
theorem dX10_number_90 : decode cX10_number 90 = .ok (.iadd, 1) := by decide +kernel
theorem dX10_number_91 : decode cX10_number 91 = .ok (.putfield 22, 3) := by decide +kernel
theorem dX10_number_94 : decode cX10_number 94 = .ok (.goto (-88), 3) := by decide +kernel
theorem dX10_number_97 : decode cX10_number 97 = .ok (.iload 5, 2) := by decide +kernel
theorem dX10_number_99 : decode cX10_number 99 = .ok (.ifCond .eq 15, 3) := by decide +kernel
theorem dX10_number_102 : decode cX10_number 102 = .ok (.iload 4, 2) := by decide +kernel
theorem dX10_number_104 : decode cX10_number 104 = .ok (.iload_n 2, 1) := by decide +kernel
theorem dX10_number_105 : decode cX10_number 105 = .ok (.if_icmp .lt 9, 3) := by decide +kernel
theorem dX10_number_108 : decode cX10_number 108 = .ok (.iload 4, 2) := by decide +kernel
theorem dX10_number_110 : decode cX10_number 110 = .ok (.iload_n 3, 1) := by decide +kernel
theorem dX10_number_111 : decode cX10_number 111 = .ok (.if_icmp .le 27, 3) := by decide +kernel
theorem dX10_number_114 : decode cX10_number 114 = .ok (.aload_n 0, 1) := by decide +kernel
theorem dX10_number_115 : decode cX10_number 115 = .ok (.iload 5, 2) := by decide +kernel
theorem dX10_number_117 : decode cX10_number 117 = .ok (.ifCond .ne 10, 3) := by decide +kernel
theorem dX10_number_120 : decode cX10_number 120 = .ok (.aload_n 0, 1) := by decide +kernel
theorem dX10_number_121 : decode cX10_number 121 = .ok (.getfield 22, 3) := by decide +kernel
theorem dX10_number_124 : decode cX10_number 124 = .ok (.goto 9, 3) := by decide +kernel
theorem dX10_number_127 : decode cX10_number 127 = .ok (.aload_n 0, 1) := by decide +kernel
theorem dX10_number_128 : decode cX10_number 128 = .ok (.getfield 22, 3) := by decide +kernel
theorem dX10_number_131 : decode cX10_number 131 = .ok (.iconst 1, 1) := by decide +kernel
theorem dX10_number_132 : decode cX10_number 132 = .ok (.isub, 1) := by decide +kernel
theorem dX10_number_133 : decode cX10_number 133 = .ok (.putfield 19, 3) := by decide +kernel
theorem dX10_number_136 : decode cX10_number 136 = .ok (.iconst (-1), 1) := by decide +kernel
theorem dX10_number_137 : decode cX10_number 137 = .ok (.ireturn, 1) := by decide +kernel
theorem dX10_number_138 : decode cX10_number 138 = .ok (.aload_n 0, 1) := by decide +kernel
theorem dX10_number_139 : decode cX10_number 139 = .ok (.getfield 22, 3) := by decide +kernel
theorem dX10_number_142 : decode cX10_number 142 = .ok (.aload_n 0, 1) := by decide +kernel
theorem dX10_number_143 : decode cX10_number 143 = .ok (.getfield 15, 3) := by decide +kernel
theorem dX10_number_146 : decode cX10_number 146 = .ok (.if_icmp .ge 30, 3) := by decide +kernel
theorem dX10_number_149 : decode cX10_number 149 = .ok (.aload_n 0, 1) := by decide +kernel
theorem dX10_number_150 : decode cX10_number 150 = .ok (.getfield 11, 3) := by decide +kernel
theorem dX10_number_153 : decode cX10_number 153 = .ok (.aload_n 0, 1) := by decide +kernel
theorem dX10_number_154 : decode cX10_number 154 = .ok (.getfield 22, 3) := by decide +kernel
theorem dX10_number_157 : decode cX10_number 157 = .ok (.iaload, 1) := by decide +kernel
theorem dX10_number_158 : decode cX10_number 158 = .ok (.bipush 32, 2) := by decide +kernel
theorem dX10_number_160 : decode cX10_number 160 = .ok (.if_icmp .ne 16, 3) := by decide +kernel
theorem dX10_number_163 : decode cX10_number 163 = .ok (.aload_n 0, 1) := by decide +kernel
theorem dX10_number_164 : decode cX10_number 164 = .ok (.dup, 1) := by decide +kernel
theorem dX10_number_165 : decode cX10_number 165 = .ok (.getfield 22, 3) := by decide +kernel
theorem dX10_number_168 : decode cX10_number 168 = .ok (.iconst 1, 1) := by decide +kernel
theorem dX10_number_169 : decode cX10_number 169 = .ok (.iadd, 1) := by decide +kernel
theorem dX10_number_170 : decode cX10_number 170 = .ok (.putfield 22, 3) := by decide +kernel
theorem dX10_number_173 : decode cX10_number 173 = .ok (.goto (-35), 3) := by decide +kernel
theorem dX10_number_176 : decode cX10_number 176 = .ok (.iload 4, 2) := by decide +kernel
theorem dX10_number_178 : decode cX10_number 178 = .ok (.ireturn, 1) := by decide +kernel
theorem dX10_rewind_0 : decode cX10_rewind 0 = .ok (.aload_n 0, 1) := by decide +kernel
theorem dX10_rewind_1 : decode cX10_rewind 1 = .ok (.iconst (-1), 1) := by decide +kernel
theorem dX10_rewind_2 : decode cX10_rewind 2 = .ok (.putfield 19, 3) := by decide +kernel
theorem dX10_rewind_5 : decode cX10_rewind 5 = .ok (.aload_n 0, 1) := by decide +kernel
theorem dX10_rewind_6 : decode cX10_rewind 6 = .ok (.iconst 0, 1) := by decide +kernel
theorem dX10_rewind_7 : decode cX10_rewind 7 = .ok (.putfield 22, 3) := by decide +kernel
theorem dX10_rewind_10 : decode cX10_rewind 10 = .ok (.aload_n 0, 1) := by decide +kernel
theorem dX10_rewind_11 : decode cX10_rewind 11 = .ok (.getfield 22, 3) := by decide +kernel
theorem dX10_rewind_14 : decode cX10_rewind 14 = .ok (.aload_n 0, 1) := by decide +kernel
theorem dX10_rewind_15 : decode cX10_rewind 15 = .ok (.getfield 15, 3) := by decide +kernel
theorem dX10_rewind_18 : decode cX10_rewind 18 = .ok (.if_icmp .ge 30, 3) := by decide +kernel
theorem dX10_rewind_21 : decode cX10_rewind 21 = .ok (.aload_n 0, 1) := by decide +kernel
theorem dX10_rewind_22 : decode cX10_rewind 22 = .ok (.getfield 11, 3) := by decide +kernel
theorem dX10_rewind_25 : decode cX10_rewind 25 = .ok (.aload_n 0, 1) := by decide +kernel
theorem dX10_rewind_26 : decode cX10_rewind 26 = .ok (.getfield 22, 3) := by decide +kernel
theorem dX10_rewind_29 : decode cX10_rewind 29 = .ok (.iaload, 1) := by decide +kernel
theorem dX10_rewind_30 : decode cX10_rewind 30 = .ok (.bipush 32, 2) := by decide +kernel
theorem dX10_rewind_32 : decode cX10_rewind 32 = .ok (.if_icmp .ne 16, 3) := by decide +kernel
theorem dX10_rewind_35 : decode cX10_rewind 35 = .ok (.aload_n 0, 1) := by decide +kernel
theorem dX10_rewind_36 : decode cX10_rewind 36 = .ok (.dup, 1) := by decide +kernel
theorem dX10_rewind_37 : decode cX10_rewind 37 = .ok (.getfield 22, 3) := by decide +kernel
theorem dX10_rewind_40 : decode cX10_rewind 40 = .ok (.iconst 1, 1) := by decide +kernel
theorem dX10_rewind_41 : decode cX10_rewind 41 = .ok (.iadd, 1) := by decide +kernel
theorem dX10_rewind_42 : decode cX10_rewind 42 = .ok (.putfield 22, 3) := by decide +kernel
theorem dX10_rewind_45 : decode cX10_rewind 45 = .ok (.goto (-35), 3) := by decide +kernel
theorem dX10_rewind_48 : decode cX10_rewind 48 = .ok (.return_, 1) := by decide +kernel
theorem dX10_sign_0 : decode cX10_sign 0 = .ok (.aload_n 0, 1) := by decide +kernel
theorem dX10_sign_1 : decode cX10_sign 1 = .ok (.getfield 22, 3) := by decide +kernel
theorem dX10_sign_4 : decode cX10_sign 4 = .ok (.aload_n 0, 1) := by decide +kernel
theorem dX10_sign_5 : decode cX10_sign 5 = .ok (.getfield 15, 3) := by decide +kernel
theorem dX10_sign_8 : decode cX10_sign 8 = .ok (.if_icmp .ge 15, 3) := by decide +kernel
theorem dX10_sign_11 : decode cX10_sign 11 = .ok (.aload_n 0, 1) := by decide +kernel
theorem dX10_sign_12 : decode cX10_sign 12 = .ok (.getfield 11, 3) := by decide +kernel
theorem dX10_sign_15 : decode cX10_sign 15 = .ok (.aload_n 0, 1) := by decide +kernel
theorem dX10_sign_16 : decode cX10_sign 16 = .ok (.getfield 22, 3) := by decide +kernel
theorem dX10_sign_19 : decode cX10_sign 19 = .ok (.iaload, 1) := by decide +kernel
theorem dX10_sign_20 : decode cX10_sign 20 = .ok (.goto 4, 3) := by decide +kernel
theorem dX10_sign_23 : decode cX10_sign 23 = .ok (.iconst 0, 1) := by decide +kernel
theorem dX10_sign_24 : decode cX10_sign 24 = .ok (.ireturn, 1) := by decide +kernel
theorem dX10_step_0 : decode cX10_step 0 = .ok (.aload_n 0, 1) := by decide +kernel
theorem dX10_step_1 : decode cX10_step 1 = .ok (.dup, 1) := by decide +kernel
theorem dX10_step_2 : decode cX10_step 2 = .ok (.getfield 22, 3) := by decide +kernel
theorem dX10_step_5 : decode cX10_step 5 = .ok (.iconst 1, 1) := by decide +kernel
theorem dX10_step_6 : decode cX10_step 6 = .ok (.iadd, 1) := by decide +kernel
theorem dX10_step_7 : decode cX10_step 7 = .ok (.putfield 22, 3) := by decide +kernel
theorem dX10_step_10 : decode cX10_step 10 = .ok (.aload_n 0, 1) := by decide +kernel
theorem dX10_step_11 : decode cX10_step 11 = .ok (.getfield 22, 3) := by decide +kernel
theorem dX10_step_14 : decode cX10_step 14 = .ok (.aload_n 0, 1) := by decide +kernel
theorem dX10_step_15 : decode cX10_step 15 = .ok (.getfield 15, 3) := by decide +kernel
theorem dX10_step_18 : decode cX10_step 18 = .ok (.if_icmp .ge 30, 3) := by decide +kernel
theorem dX10_step_21 : decode cX10_step 21 = .ok (.aload_n 0, 1) := by decide +kernel
theorem dX10_step_22 : decode cX10_step 22 = .ok (.getfield 11, 3) := by decide +kernel
theorem dX10_step_25 : decode cX10_step 25 = .ok (.aload_n 0, 1) := by decide +kernel
theorem dX10_step_26 : decode cX10_step 26 = .ok (.getfield 22, 3) := by decide +kernel
theorem dX10_step_29 : decode cX10_step 29 = .ok (.iaload, 1) := by decide +kernel
theorem dX10_step_30 : decode cX10_step 30 = .ok (.bipush 32, 2) := by decide +kernel
theorem dX10_step_32 : decode cX10_step 32 = .ok (.if_icmp .ne 16, 3) := by decide +kernel
theorem dX10_step_35 : decode cX10_step 35 = .ok (.aload_n 0, 1) := by decide +kernel
theorem dX10_step_36 : decode cX10_step 36 = .ok (.dup, 1) := by decide +kernel
theorem dX10_step_37 : decode cX10_step 37 = .ok (.getfield 22, 3) := by decide +kernel
theorem dX10_step_40 : decode cX10_step 40 = .ok (.iconst 1, 1) := by decide +kernel
theorem dX10_step_41 : decode cX10_step 41 = .ok (.iadd, 1) := by decide +kernel
theorem dX10_step_42 : decode cX10_step 42 = .ok (.putfield 22, 3) := by decide +kernel
theorem dX10_step_45 : decode cX10_step 45 = .ok (.goto (-35), 3) := by decide +kernel
theorem dX10_step_48 : decode cX10_step 48 = .ok (.aload_n 0, 1) := by decide +kernel
theorem dX10_step_49 : decode cX10_step 49 = .ok (.aload_n 0, 1) := by decide +kernel
theorem dX10_step_50 : decode cX10_step 50 = .ok (.getfield 22, 3) := by decide +kernel
theorem dX10_step_53 : decode cX10_step 53 = .ok (.aload_n 0, 1) := by decide +kernel
theorem dX10_step_54 : decode cX10_step 54 = .ok (.getfield 15, 3) := by decide +kernel
theorem dX10_step_57 : decode cX10_step 57 = .ok (.invokestatic 25, 3) := by decide +kernel
theorem dX10_step_60 : decode cX10_step 60 = .ok (.putfield 22, 3) := by decide +kernel
theorem dX10_step_63 : decode cX10_step 63 = .ok (.return_, 1) := by decide +kernel
theorem dX10_wrong_0 : decode cX10_wrong 0 = .ok (.aload_n 0, 1) := by decide +kernel
theorem dX10_wrong_1 : decode cX10_wrong 1 = .ok (.aload_n 0, 1) := by decide +kernel
theorem dX10_wrong_2 : decode cX10_wrong 2 = .ok (.getfield 22, 3) := by decide +kernel
theorem dX10_wrong_5 : decode cX10_wrong 5 = .ok (.putfield 19, 3) := by decide +kernel
theorem dX10_wrong_8 : decode cX10_wrong 8 = .ok (.iconst 0, 1) := by decide +kernel
theorem dX10_wrong_9 : decode cX10_wrong 9 = .ok (.ireturn, 1) := by decide +kernel
theorem dX10_wrongAsWhole_0 : decode cX10_wrongAsWhole 0 = .ok (.aload_n 0, 1) := by decide +kernel
theorem dX10_wrongAsWhole_1 : decode cX10_wrongAsWhole 1 = .ok (.aload_n 0, 1) := by decide +kernel
theorem dX10_wrongAsWhole_2 : decode cX10_wrongAsWhole 2 = .ok (.getfield 15, 3) := by decide +kernel
theorem dX10_wrongAsWhole_5 : decode cX10_wrongAsWhole 5 = .ok (.putfield 19, 3) := by decide +kernel
theorem dX10_wrongAsWhole_8 : decode cX10_wrongAsWhole 8 = .ok (.iconst 0, 1) := by decide +kernel
theorem dX10_wrongAsWhole_9 : decode cX10_wrongAsWhole 9 = .ok (.ireturn, 1) := by decide +kernel
theorem wl_1_45 : (.fieldLink RX10 19 "LawnAhead$Tape" "wrongAt" "I" : Cond) ∈ sg_tbl := tb_1 _ (List.mem_of_getElem? (i := 45) (by decide +kernel)) (by decide +kernel)
theorem wl_1_44 : (.fieldLink RX10 22 "LawnAhead$Tape" "at" "I" : Cond) ∈ sg_tbl := tb_1 _ (List.mem_of_getElem? (i := 44) (by decide +kernel)) (by decide +kernel)
theorem wl_1_43 : (.fieldLink RX10 15 "LawnAhead$Tape" "length" "I" : Cond) ∈ sg_tbl := tb_1 _ (List.mem_of_getElem? (i := 43) (by decide +kernel)) (by decide +kernel)
theorem wl_1_41 : (.fieldLink RX10 11 "LawnAhead$Tape" "bytes" "[I" : Cond) ∈ sg_tbl := tb_1 _ (List.mem_of_getElem? (i := 41) (by decide +kernel)) (by decide +kernel)
theorem wl_3_63 : (.methodLink RX10 25 Lib.Math.min.name : Cond) ∈ sg_tbl := tb_3 _ (List.mem_of_getElem? (i := 63) (by decide +kernel)) (by decide +kernel)
theorem wl_3_171 : (.methodLink RX10 31 yX10_sign : Cond) ∈ sg_tbl := tb_3 _ (List.mem_of_getElem? (i := 171) (by decide +kernel)) (by decide +kernel)
theorem wl_3_218 : (.methodLink RX10 39 yX10_step : Cond) ∈ sg_tbl := tb_3 _ (List.mem_of_getElem? (i := 218) (by decide +kernel)) (by decide +kernel)
theorem wl_3_172 : (.methodLink RX10 35 yX10_wrong : Cond) ∈ sg_tbl := tb_3 _ (List.mem_of_getElem? (i := 172) (by decide +kernel)) (by decide +kernel)
theorem wl_3_83 : (.fieldLink RJ0 38 "java/lang/String" "COMPACT_STRINGS" "Z" : Cond) ∈ sg_tbl := tb_3 _ (List.mem_of_getElem? (i := 83) (by decide +kernel)) (by decide +kernel)
theorem wl_9_180 : (.fieldLink RJ0 15 "java/lang/String" "coder" "B" : Cond) ∈ sg_tbl := tb_9 _ (List.mem_of_getElem? (i := 180) (by decide +kernel)) (by decide +kernel)
theorem wl_9_181 : (.fieldLink RJ0 9 "java/lang/String" "value" "[B" : Cond) ∈ sg_tbl := tb_9 _ (List.mem_of_getElem? (i := 181) (by decide +kernel)) (by decide +kernel)
theorem wl_3_89 : (.methodLink RJ0 335 yJ0_coder_7d493 : Cond) ∈ sg_tbl := tb_3 _ (List.mem_of_getElem? (i := 89) (by decide +kernel)) (by decide +kernel)
theorem wl_3_99 : (.methodLink RJ1 92 Lib.Math.max.name : Cond) ∈ sg_tbl := tb_3 _ (List.mem_of_getElem? (i := 99) (by decide +kernel)) (by decide +kernel)
theorem wl_3_102 : (.methodLink RJ1 38 Lib.Math.min.name : Cond) ∈ sg_tbl := tb_3 _ (List.mem_of_getElem? (i := 102) (by decide +kernel)) (by decide +kernel)
theorem wl_3_96 : (.methodLink RJ1 88 yJ1_canEncode_9a6ad : Cond) ∈ sg_tbl := tb_3 _ (List.mem_of_getElem? (i := 96) (by decide +kernel)) (by decide +kernel)
theorem wl_3_103 : (.methodLink RJ1 95 yJ1_indexOfChar_4cfef : Cond) ∈ sg_tbl := tb_3 _ (List.mem_of_getElem? (i := 103) (by decide +kernel)) (by decide +kernel)
theorem wl_3_33 : (.code yX10_rewind cX10_rewind 1 none : Cond) ∈ sg_tbl := tb_3 _ (List.mem_of_getElem? (i := 33) (by decide +kernel)) (by decide +kernel)
theorem wl_3_31 : (.instanceMethod yX10_rewind : Cond) ∈ sg_tbl := tb_3 _ (List.mem_of_getElem? (i := 31) (by decide +kernel)) (by decide +kernel)
theorem wl_3_32 : (.selects RX10 yX10_rewind yX10_rewind : Cond) ∈ sg_tbl := tb_3 _ (List.mem_of_getElem? (i := 32) (by decide +kernel)) (by decide +kernel)
theorem wl_3_50 : (.code yX10_sign cX10_sign 1 (some .int) : Cond) ∈ sg_tbl := tb_3 _ (List.mem_of_getElem? (i := 50) (by decide +kernel)) (by decide +kernel)
theorem wl_3_48 : (.instanceMethod yX10_sign : Cond) ∈ sg_tbl := tb_3 _ (List.mem_of_getElem? (i := 48) (by decide +kernel)) (by decide +kernel)
theorem wl_3_49 : (.selects RX10 yX10_sign yX10_sign : Cond) ∈ sg_tbl := tb_3 _ (List.mem_of_getElem? (i := 49) (by decide +kernel)) (by decide +kernel)
theorem wl_3_62 : (.code yX10_step cX10_step 1 none : Cond) ∈ sg_tbl := tb_3 _ (List.mem_of_getElem? (i := 62) (by decide +kernel)) (by decide +kernel)
theorem wl_3_60 : (.instanceMethod yX10_step : Cond) ∈ sg_tbl := tb_3 _ (List.mem_of_getElem? (i := 60) (by decide +kernel)) (by decide +kernel)
theorem wl_3_61 : (.selects RX10 yX10_step yX10_step : Cond) ∈ sg_tbl := tb_3 _ (List.mem_of_getElem? (i := 61) (by decide +kernel)) (by decide +kernel)
theorem wl_3_58 : (.code yX10_wrong cX10_wrong 1 (some .boolean) : Cond) ∈ sg_tbl := tb_3 _ (List.mem_of_getElem? (i := 58) (by decide +kernel)) (by decide +kernel)
theorem wl_3_56 : (.instanceMethod yX10_wrong : Cond) ∈ sg_tbl := tb_3 _ (List.mem_of_getElem? (i := 56) (by decide +kernel)) (by decide +kernel)
theorem wl_3_57 : (.selects RX10 yX10_wrong yX10_wrong : Cond) ∈ sg_tbl := tb_3 _ (List.mem_of_getElem? (i := 57) (by decide +kernel)) (by decide +kernel)
theorem wl_3_204 : (.code yX10_wrongAsWhole cX10_wrongAsWhole 1 (some .boolean) : Cond) ∈ sg_tbl := tb_3 _ (List.mem_of_getElem? (i := 204) (by decide +kernel)) (by decide +kernel)
theorem wl_3_202 : (.instanceMethod yX10_wrongAsWhole : Cond) ∈ sg_tbl := tb_3 _ (List.mem_of_getElem? (i := 202) (by decide +kernel)) (by decide +kernel)
theorem wl_3_203 : (.selects RX10 yX10_wrongAsWhole yX10_wrongAsWhole : Cond) ∈ sg_tbl := tb_3 _ (List.mem_of_getElem? (i := 203) (by decide +kernel)) (by decide +kernel)
theorem wl_3_217 : (.code yX10_demand cX10_demand 2 (some .boolean) : Cond) ∈ sg_tbl := tb_3 _ (List.mem_of_getElem? (i := 217) (by decide +kernel)) (by decide +kernel)
theorem wl_3_215 : (.instanceMethod yX10_demand : Cond) ∈ sg_tbl := tb_3 _ (List.mem_of_getElem? (i := 215) (by decide +kernel)) (by decide +kernel)
theorem wl_3_216 : (.selects RX10 yX10_demand yX10_demand : Cond) ∈ sg_tbl := tb_3 _ (List.mem_of_getElem? (i := 216) (by decide +kernel)) (by decide +kernel)
theorem wl_3_170 : (.code yX10_ended cX10_ended 1 (some .boolean) : Cond) ∈ sg_tbl := tb_3 _ (List.mem_of_getElem? (i := 170) (by decide +kernel)) (by decide +kernel)
theorem wl_3_168 : (.instanceMethod yX10_ended : Cond) ∈ sg_tbl := tb_3 _ (List.mem_of_getElem? (i := 168) (by decide +kernel)) (by decide +kernel)
theorem wl_3_169 : (.selects RX10 yX10_ended yX10_ended : Cond) ∈ sg_tbl := tb_3 _ (List.mem_of_getElem? (i := 169) (by decide +kernel)) (by decide +kernel)
theorem wl_3_162 : (.code yX10_number cX10_number 6 (some .int) : Cond) ∈ sg_tbl := tb_3 _ (List.mem_of_getElem? (i := 162) (by decide +kernel)) (by decide +kernel)
theorem wl_3_160 : (.instanceMethod yX10_number : Cond) ∈ sg_tbl := tb_3 _ (List.mem_of_getElem? (i := 160) (by decide +kernel)) (by decide +kernel)
theorem wl_3_161 : (.selects RX10 yX10_number yX10_number : Cond) ∈ sg_tbl := tb_3 _ (List.mem_of_getElem? (i := 161) (by decide +kernel)) (by decide +kernel)
theorem wl_1_16 : (.initialized RJ0 : Cond) ∈ sg_tbl := tb_1 _ (List.mem_of_getElem? (i := 16) (by decide +kernel)) (by decide +kernel)
theorem wl_3_82 : (.code yJ0_isLatin1_aae02 cJ0_isLatin1_aae02 1 (some .boolean) : Cond) ∈ sg_tbl := tb_3 _ (List.mem_of_getElem? (i := 82) (by decide +kernel)) (by decide +kernel)
theorem wl_3_80 : (.instanceMethod yJ0_isLatin1_aae02 : Cond) ∈ sg_tbl := tb_3 _ (List.mem_of_getElem? (i := 80) (by decide +kernel)) (by decide +kernel)
theorem wl_3_81 : (.selects RJ0 yJ0_isLatin1_aae02 yJ0_isLatin1_aae02 : Cond) ∈ sg_tbl := tb_3 _ (List.mem_of_getElem? (i := 81) (by decide +kernel)) (by decide +kernel)
theorem wl_3_92 : (.code yJ0_coder_7d493 cJ0_coder_7d493 1 (some .byte) : Cond) ∈ sg_tbl := tb_3 _ (List.mem_of_getElem? (i := 92) (by decide +kernel)) (by decide +kernel)
theorem wl_3_90 : (.instanceMethod yJ0_coder_7d493 : Cond) ∈ sg_tbl := tb_3 _ (List.mem_of_getElem? (i := 90) (by decide +kernel)) (by decide +kernel)
theorem wl_3_91 : (.selects RJ0 yJ0_coder_7d493 yJ0_coder_7d493 : Cond) ∈ sg_tbl := tb_3 _ (List.mem_of_getElem? (i := 91) (by decide +kernel)) (by decide +kernel)
theorem wl_3_88 : (.code yJ0_length_8abf5 cJ0_length_8abf5 1 (some .int) : Cond) ∈ sg_tbl := tb_3 _ (List.mem_of_getElem? (i := 88) (by decide +kernel)) (by decide +kernel)
theorem wl_3_86 : (.instanceMethod yJ0_length_8abf5 : Cond) ∈ sg_tbl := tb_3 _ (List.mem_of_getElem? (i := 86) (by decide +kernel)) (by decide +kernel)
theorem wl_3_87 : (.selects RJ0 yJ0_length_8abf5 yJ0_length_8abf5 : Cond) ∈ sg_tbl := tb_3 _ (List.mem_of_getElem? (i := 87) (by decide +kernel)) (by decide +kernel)
theorem wl_1_17 : (.initialized RJ1 : Cond) ∈ sg_tbl := tb_1 _ (List.mem_of_getElem? (i := 17) (by decide +kernel)) (by decide +kernel)
theorem wl_3_98 : (.code yJ1_canEncode_9a6ad cJ1_canEncode_9a6ad 1 (some .boolean) : Cond) ∈ sg_tbl := tb_3 _ (List.mem_of_getElem? (i := 98) (by decide +kernel)) (by decide +kernel)
theorem wl_3_97 : (.static yJ1_canEncode_9a6ad : Cond) ∈ sg_tbl := tb_3 _ (List.mem_of_getElem? (i := 97) (by decide +kernel)) (by decide +kernel)
theorem wl_3_105 : (.code yJ1_indexOfChar_4cfef cJ1_indexOfChar_4cfef 6 (some .int) : Cond) ∈ sg_tbl := tb_3 _ (List.mem_of_getElem? (i := 105) (by decide +kernel)) (by decide +kernel)
theorem wl_3_104 : (.static yJ1_indexOfChar_4cfef : Cond) ∈ sg_tbl := tb_3 _ (List.mem_of_getElem? (i := 104) (by decide +kernel)) (by decide +kernel)
theorem wl_3_95 : (.code yJ1_indexOf_4cfef cJ1_indexOf_4cfef 4 (some .int) : Cond) ∈ sg_tbl := tb_3 _ (List.mem_of_getElem? (i := 95) (by decide +kernel)) (by decide +kernel)
theorem wl_3_94 : (.static yJ1_indexOf_4cfef : Cond) ∈ sg_tbl := tb_3 _ (List.mem_of_getElem? (i := 94) (by decide +kernel)) (by decide +kernel)
section
variable {p : Program} {l : Launch} {e : Env} {R : Room} {s : State} {m : MethodId} {args : Array Value} {below : List Frame} {meth : Method} {c : Code} {H : Heap} {locs : List Loc} {cells slots : Nat} {Q : State → Prop} {cc : ByteArray} {nL pc : Nat} {ls : Array Slot} {rest : List Value} {own : String} {D : va_G} {A : Nat → Prop} {tys : List (ClassId × FieldType)} {ad ks : List Nat} {P : sgPm} {H0 : Heap} {index : Nat} {base : Nat} {st0 : List Value} {a : Nat}
theorem gf_X10_0   (X : CallFix p m c cc nL s args sg_tbl own) (hK : va_K D vwCl tys s) (hG : sgG (KT P) D vwCl A tys ad ks H) (ha : isK ad ks 10 a) (hl : Cond.fieldLink own index "LawnAhead$Tape" "bytes" "[I" ∈ sg_tbl) (hdg : decode cc pc = .ok (.getfield index, 3)) (kk : ∀ x : Nat, isK ad ks 42 x → fld D H 10 a 0 (.ref x) → W p l e R s m args below meth c H locs cells slots Q (F0 m (pc + 3) ls (.ref x :: rest))) : W p l e R s m args below meth c H locs cells slots Q (F0 m pc ls (.ref a :: rest)) :=
  sg_get X hK hG ha (k := 10) (ci := 10) rfl (C := RX10) (T := TX10) (N := 4) rfl inL_X10 0 (by decide) rfl hl (fun _ h => h) hdg (fun v hv hf => by
    obtain ⟨h1, -⟩ | ⟨x, rfl, hx⟩ := hv
    · cases h1
    · exact kk x hx hf)
theorem gf_X10_0w   (X : CallFix p m c cc nL s args sg_tbl own) (hK : va_K D vwCl tys s) (hG : sgG (KTw P) D vwCl A tys ad ks H) (ha : isK ad ks 10 a) (hl : Cond.fieldLink own index "LawnAhead$Tape" "bytes" "[I" ∈ sg_tbl) (hdg : decode cc pc = .ok (.getfield index, 3)) (kk : ∀ x : Nat, isK ad ks 42 x → fld D H 10 a 0 (.ref x) → W p l e R s m args below meth c H locs cells slots Q (F0 m (pc + 3) ls (.ref x :: rest))) : W p l e R s m args below meth c H locs cells slots Q (F0 m pc ls (.ref a :: rest)) :=
  sg_get X hK hG ha (k := 10) (ci := 10) rfl (C := RX10) (T := TX10) (N := 4) rfl inL_X10 0 (by decide) rfl hl (fun _ h => h) hdg (fun v hv hf => by
    obtain ⟨h1, -⟩ | ⟨x, rfl, hx⟩ := hv
    · cases h1
    · exact kk x hx hf)
theorem gf_X10_1   (X : CallFix p m c cc nL s args sg_tbl own) (hK : va_K D vwCl tys s) (hG : sgG (KT P) D vwCl A tys ad ks H) (ha : isK ad ks 10 a) (hl : Cond.fieldLink own index "LawnAhead$Tape" "length" "I" ∈ sg_tbl) (hdg : decode cc pc = .ok (.getfield index, 3)) (kk : ∀ x : Int32, iv 0 240 x → iv (sgC240 (sgL1 P)) (sgC240 (sgL1 P)) x → fld D H 10 a 1 (.int x) → W p l e R s m args below meth c H locs cells slots Q (F0 m (pc + 3) ls (.int x :: rest))) : W p l e R s m args below meth c H locs cells slots Q (F0 m pc ls (.ref a :: rest)) :=
  sg_get X hK hG ha (k := 10) (ci := 10) rfl (C := RX10) (T := TX10) (N := 4) rfl inL_X10 1 (by decide) rfl hl (fun _ h => h) hdg (fun v hv hf => by obtain ⟨x, rfl, hx⟩ := hv; exact kk x (sgC240_iv hx) hx hf)
theorem gf_X10_1w   (X : CallFix p m c cc nL s args sg_tbl own) (hK : va_K D vwCl tys s) (hG : sgG (KTw P) D vwCl A tys ad ks H) (ha : isK ad ks 10 a) (hl : Cond.fieldLink own index "LawnAhead$Tape" "length" "I" ∈ sg_tbl) (hdg : decode cc pc = .ok (.getfield index, 3)) (kk : ∀ x : Int32, iv 0 240 x → iv (sgC240 (sgL1 P)) (sgC240 (sgL1 P)) x → fld D H 10 a 1 (.int x) → W p l e R s m args below meth c H locs cells slots Q (F0 m (pc + 3) ls (.int x :: rest))) : W p l e R s m args below meth c H locs cells slots Q (F0 m pc ls (.ref a :: rest)) :=
  sg_get X hK hG ha (k := 10) (ci := 10) rfl (C := RX10) (T := TX10) (N := 4) rfl inL_X10 1 (by decide) rfl hl (fun _ h => h) hdg (fun v hv hf => by obtain ⟨x, rfl, hx⟩ := hv; exact kk x (sgC240_iv hx) hx hf)
theorem gf_X10_2   (X : CallFix p m c cc nL s args sg_tbl own) (hK : va_K D vwCl tys s) (hG : sgG (KT P) D vwCl A tys ad ks H) (ha : isK ad ks 10 a) (hl : Cond.fieldLink own index "LawnAhead$Tape" "at" "I" ∈ sg_tbl) (hdg : decode cc pc = .ok (.getfield index, 3)) (kk : ∀ x : Int32, iv 0 240 x → fld D H 10 a 2 (.int x) → W p l e R s m args below meth c H locs cells slots Q (F0 m (pc + 3) ls (.int x :: rest))) : W p l e R s m args below meth c H locs cells slots Q (F0 m pc ls (.ref a :: rest)) :=
  sg_get X hK hG ha (k := 10) (ci := 10) rfl (C := RX10) (T := TX10) (N := 4) rfl inL_X10 2 (by decide) rfl hl (fun _ h => h) hdg (fun v hv hf => by obtain ⟨x, rfl, hx⟩ := hv; exact kk x hx hf)
theorem gg_X10_0   (X : CallFix p m c cc nL s args sg_tbl own) (hK : va_K D vwCl tys s) (hG : sgG (KT P) D vwCl A tys ad ks H) (ha : isK ad ks 10 a) (hl : Cond.fieldLink own index "LawnAhead$Tape" "bytes" "[I" ∈ sg_tbl) {v : Value} (hf : fld D H 10 a 0 v) (hdg : decode cc pc = .ok (.getfield index, 3)) (kk : W p l e R s m args below meth c H locs cells slots Q (F0 m (pc + 3) ls (v :: rest))) : W p l e R s m args below meth c H locs cells slots Q (F0 m pc ls (.ref a :: rest)) :=
  sg_getf X hK hG ha (k := 10) (ci := 10) rfl (C := RX10) (T := TX10) (N := 4) rfl inL_X10 0 (by decide) (show 0 < 4 by decide) hl (fun _ h => h) hf hdg kk
theorem gg_X10_1w   (X : CallFix p m c cc nL s args sg_tbl own) (hK : va_K D vwCl tys s) (hG : sgG (KTw P) D vwCl A tys ad ks H) (ha : isK ad ks 10 a) (hl : Cond.fieldLink own index "LawnAhead$Tape" "length" "I" ∈ sg_tbl) {v : Value} (hf : fld D H 10 a 1 v) (hdg : decode cc pc = .ok (.getfield index, 3)) (kk : W p l e R s m args below meth c H locs cells slots Q (F0 m (pc + 3) ls (v :: rest))) : W p l e R s m args below meth c H locs cells slots Q (F0 m pc ls (.ref a :: rest)) :=
  sg_getf X hK hG ha (k := 10) (ci := 10) rfl (C := RX10) (T := TX10) (N := 4) rfl inL_X10 1 (by decide) (show 1 < 4 by decide) hl (fun _ h => h) hf hdg kk
theorem gg_X10_2   (X : CallFix p m c cc nL s args sg_tbl own) (hK : va_K D vwCl tys s) (hG : sgG (KT P) D vwCl A tys ad ks H) (ha : isK ad ks 10 a) (hl : Cond.fieldLink own index "LawnAhead$Tape" "at" "I" ∈ sg_tbl) {v : Value} (hf : fld D H 10 a 2 v) (hdg : decode cc pc = .ok (.getfield index, 3)) (kk : W p l e R s m args below meth c H locs cells slots Q (F0 m (pc + 3) ls (v :: rest))) : W p l e R s m args below meth c H locs cells slots Q (F0 m pc ls (.ref a :: rest)) :=
  sg_getf X hK hG ha (k := 10) (ci := 10) rfl (C := RX10) (T := TX10) (N := 4) rfl inL_X10 2 (by decide) (show 2 < 4 by decide) hl (fun _ h => h) hf hdg kk
theorem gg_X10_2w   (X : CallFix p m c cc nL s args sg_tbl own) (hK : va_K D vwCl tys s) (hG : sgG (KTw P) D vwCl A tys ad ks H) (ha : isK ad ks 10 a) (hl : Cond.fieldLink own index "LawnAhead$Tape" "at" "I" ∈ sg_tbl) {v : Value} (hf : fld D H 10 a 2 v) (hdg : decode cc pc = .ok (.getfield index, 3)) (kk : W p l e R s m args below meth c H locs cells slots Q (F0 m (pc + 3) ls (v :: rest))) : W p l e R s m args below meth c H locs cells slots Q (F0 m pc ls (.ref a :: rest)) :=
  sg_getf X hK hG ha (k := 10) (ci := 10) rfl (C := RX10) (T := TX10) (N := 4) rfl inL_X10 2 (by decide) (show 2 < 4 by decide) hl (fun _ h => h) hf hdg kk
theorem pf_X10_2  {x : Int32}  (X : CallFix p m c cc nL s args sg_tbl own) (hK : va_K D vwCl tys s) (hG : sgG (KT P) D vwCl A tys ad ks H) (hS : va_S A H0 H locs) (ha : isK ad ks 10 a) (hl : Cond.fieldLink own index "LawnAhead$Tape" "at" "I" ∈ sg_tbl) (hv : okV ad ks (.inl (0, 240)) (.int x)) (hdg : decode cc pc = .ok (.putfield index, 3)) (kk : ∀ (H1 : Heap) (locs1 : List Loc), sgG (KT P) D vwCl A tys ad ks H1 → va_S A H0 H1 locs1 → fld D H1 10 a 2 (.int x) → sgFr (KT P) D vwCl ad ks H H1 (fun a' j' => a' = a ∧ j' = 2) → W p l e R s m args below meth c H1 locs1 cells slots Q (F0 m (pc + 3) ls rest)) : W p l e R s m args below meth c H locs cells slots Q (F0 m pc ls (.int x :: .ref a :: rest)) :=
  sg_put X hK hG hS ha (k := 10) (ci := 10) rfl (C := RX10) (T := TX10) (N := 4) rfl inL_X10 tyX10 tyX10_ok nmX10 2 (by decide) rfl hl (fun _ h => h) rfl (ty := .int) rfl rfl rfl hv hdg kk
theorem pf_X10_2c  {x : Int32} (X : CallFix p m c cc nL s args sg_tbl own) (hK : va_K D vwCl tys s) (hG : sgG (KTw P) D vwCl A tys ad ks H) (hS : va_S A H0 H locs) (ha : isK ad ks 10 a) (hl : Cond.fieldLink own index "LawnAhead$Tape" "at" "I" ∈ sg_tbl) (hv : okV ad ks (.inl (0, 240)) (.int x)) (hdg : decode cc pc = .ok (.putfield index, 3)) (kk : ∀ (H1 : Heap) (locs1 : List Loc), sgG (KT P) D vwCl A tys ad ks H1 → va_S A H0 H1 locs1 → True → True → W p l e R s m args below meth c H1 locs1 cells slots Q (F0 m (pc + 3) ls rest)) : W p l e R s m args below meth c H locs cells slots Q (F0 m pc ls (.int x :: .ref a :: rest)) :=
  sg_put1 (kt' := KT P) X hK hG hS ha (k := 10) (by decide) (ci := 10) (fts := [.inr (.inl (false, 42)), .inl (sgC240 (sgL1 P), sgC240 (sgL1 P)), .inl (0, 241), .inl ((-2147483648), 2147483647)]) (fts' := [.inr (.inl (false, 42)), .inl (sgC240 (sgL1 P), sgC240 (sgL1 P)), .inl (0, 240), .inl ((-2147483648), 2147483647)]) rfl rfl (C := RX10) (T := TX10) (N := 4) rfl inL_X10 tyX10 tyX10_ok nmX10 2 (by decide) rfl rfl (fun i hi => by match i, hi with
    | 0, hi => rfl
    | 1, hi => rfl
    | 2, hi => exact absurd rfl hi
    | 3, hi => rfl
    | i + 4, hi => rfl) (fun i hi => by match i, hi with
    | 0, hi => rfl
    | 1, hi => rfl
    | 2, hi => rfl
    | 3, hi => rfl
    | 4, hi => rfl
    | 5, hi => rfl
    | 6, hi => rfl
    | 7, hi => rfl
    | 8, hi => rfl
    | 9, hi => rfl
    | 10, hi => exact absurd rfl hi
    | 11, hi => rfl
    | 12, hi => rfl
    | 13, hi => rfl
    | 14, hi => rfl
    | 15, hi => rfl
    | 16, hi => rfl
    | 17, hi => rfl
    | 18, hi => rfl
    | 19, hi => rfl
    | 20, hi => rfl
    | 21, hi => rfl
    | 22, hi => rfl
    | 23, hi => rfl
    | 24, hi => rfl
    | 25, hi => rfl
    | 26, hi => rfl
    | 27, hi => rfl
    | 28, hi => rfl
    | 29, hi => rfl
    | 30, hi => rfl
    | 31, hi => rfl
    | 32, hi => rfl
    | 33, hi => rfl
    | 34, hi => rfl
    | 35, hi => rfl
    | 36, hi => rfl
    | 37, hi => rfl
    | 38, hi => rfl
    | 39, hi => rfl
    | 40, hi => rfl
    | 41, hi => rfl
    | 42, hi => rfl
    | 43, hi => rfl
    | 44, hi => rfl
    | 45, hi => rfl
    | 46, hi => rfl
    | 47, hi => rfl
    | 48, hi => rfl
    | 49, hi => rfl
    | 50, hi => rfl
    | 51, hi => rfl
    | 52, hi => rfl
    | 53, hi => rfl
    | 54, hi => rfl
    | 55, hi => rfl
    | 56, hi => rfl
    | 57, hi => rfl
    | 58, hi => rfl
    | 59, hi => rfl
    | 60, hi => rfl
    | 61, hi => rfl
    | 62, hi => rfl
    | 63, hi => rfl
    | 64, hi => rfl
    | 65, hi => rfl
    | 66, hi => rfl
    | 67, hi => rfl
    | i + 68, hi => rfl) hl (fun _ h => h) rfl (ty := .int) rfl rfl rfl hv hdg (fun H1 locs1 h1 h2 => kk H1 locs1 h1 h2 trivial trivial)
theorem pf_X10_2w  {x : Int32}  (X : CallFix p m c cc nL s args sg_tbl own) (hK : va_K D vwCl tys s) (hG : sgG (KTw P) D vwCl A tys ad ks H) (hS : va_S A H0 H locs) (ha : isK ad ks 10 a) (hl : Cond.fieldLink own index "LawnAhead$Tape" "at" "I" ∈ sg_tbl) (hv : okV ad ks (.inl (0, 241)) (.int x)) (hdg : decode cc pc = .ok (.putfield index, 3)) (kk : ∀ (H1 : Heap) (locs1 : List Loc), sgG (KTw P) D vwCl A tys ad ks H1 → va_S A H0 H1 locs1 → fld D H1 10 a 2 (.int x) → sgFr (KTw P) D vwCl ad ks H H1 (fun a' j' => a' = a ∧ j' = 2) → W p l e R s m args below meth c H1 locs1 cells slots Q (F0 m (pc + 3) ls rest)) : W p l e R s m args below meth c H locs cells slots Q (F0 m pc ls (.int x :: .ref a :: rest)) :=
  sg_put X hK hG hS ha (k := 10) (ci := 10) rfl (C := RX10) (T := TX10) (N := 4) rfl inL_X10 tyX10 tyX10_ok nmX10 2 (by decide) rfl hl (fun _ h => h) rfl (ty := .int) rfl rfl rfl hv hdg kk
theorem pf_X10_3  {x : Int32}  (X : CallFix p m c cc nL s args sg_tbl own) (hK : va_K D vwCl tys s) (hG : sgG (KT P) D vwCl A tys ad ks H) (hS : va_S A H0 H locs) (ha : isK ad ks 10 a) (hl : Cond.fieldLink own index "LawnAhead$Tape" "wrongAt" "I" ∈ sg_tbl) (hv : okV ad ks (.inl ((-2147483648), 2147483647)) (.int x)) (hdg : decode cc pc = .ok (.putfield index, 3)) (kk : ∀ (H1 : Heap) (locs1 : List Loc), sgG (KT P) D vwCl A tys ad ks H1 → va_S A H0 H1 locs1 → fld D H1 10 a 3 (.int x) → sgFr (KT P) D vwCl ad ks H H1 (fun a' j' => a' = a ∧ j' = 3) → W p l e R s m args below meth c H1 locs1 cells slots Q (F0 m (pc + 3) ls rest)) : W p l e R s m args below meth c H locs cells slots Q (F0 m pc ls (.int x :: .ref a :: rest)) :=
  sg_put X hK hG hS ha (k := 10) (ci := 10) rfl (C := RX10) (T := TX10) (N := 4) rfl inL_X10 tyX10 tyX10_ok nmX10 3 (by decide) rfl hl (fun _ h => h) rfl (ty := .int) rfl rfl rfl hv hdg kk
theorem pk_X10_2  (hG : sgG (KT P) D vwCl A tys ad ks H) (ha : isK ad ks 10 a) : ∃ x : Int32, iv 0 240 x ∧ fld D H 10 a 2 (.int x) := by
  obtain ⟨v, hv, hf⟩ := sg_peek hG ha (k := 10) (ci := 10) rfl (r := (RX10, TX10, 4)) rfl 2 (show 2 < 4 by decide) rfl
  obtain ⟨x, rfl, hx⟩ := hv
  exact ⟨x, hx, hf⟩
theorem al_42  {i : Int32}  (X : CallFix p m c cc nL s args sg_tbl own) (hK : va_K D vwCl tys s) (hG : sgG (KT P) D vwCl A tys ad ks H) (ha : isK ad ks 42 a) (hin : vp_in i 240) (hdg : decode cc pc = .ok (.iaload, 1)) (kk : ∀ x : Int32, okV ad ks ((sg_tp (sgT1 P) : Nat → sgT) i.toNatClampNeg) (.int x) → W p l e R s m args below meth c H locs cells slots Q (F0 m (pc + 1) ls (.int x :: rest))) : W p l e R s m args below meth c H locs cells slots Q (F0 m pc ls (.int i :: .ref a :: rest)) :=
  sg_iald X hK hG ha (k := 42) rfl hin hdg kk
theorem al_42w  {i : Int32}  (X : CallFix p m c cc nL s args sg_tbl own) (hK : va_K D vwCl tys s) (hG : sgG (KTw P) D vwCl A tys ad ks H) (ha : isK ad ks 42 a) (hin : vp_in i 240) (hdg : decode cc pc = .ok (.iaload, 1)) (kk : ∀ x : Int32, okV ad ks ((sg_tp (sgT1 P) : Nat → sgT) i.toNatClampNeg) (.int x) → W p l e R s m args below meth c H locs cells slots Q (F0 m (pc + 1) ls (.int x :: rest))) : W p l e R s m args below meth c H locs cells slots Q (F0 m pc ls (.int i :: .ref a :: rest)) :=
  sg_iald X hK hG ha (k := 42) rfl hin hdg kk
set_option maxHeartbeats 8000000 in
set_option maxRecDepth 100000 in
theorem m_X10_rewind (l : Launch) {D : va_G} {base : Nat} {tys : List (ClassId × FieldType)} {ad ks : List Nat} {P : sgPm} (a0 : Nat) (h0 : isK ad ks 10 a0) : sgMv l (KT P) D vwCl base tys ad ks yX10_rewind cX10_rewind 1 none ({ frames := 0, cells := 0, slots := 0, locals := 0 }) [.ref a0] := by
  refine sg_ofW (by decide +kernel) (Nat.le_of_ble_eq_true rfl) (fun p e s m below meth c X hr hlk hb hK hC hG ls hl => ?_)
  have hS : va_S (fun q : Nat => base ≤ q) s.heap s.heap [] := va_S.rf
  have hl : lv_has ls 1 [(0, .ref a0)] := hl
  refine lv_aload_n X.1 X.2.1 dX10_rewind_0 rfl (lv_at hl 0 rfl) ?_
  refine lv_iconst (v := (-1)) X.1 X.2.1 dX10_rewind_1 (by decide +kernel) ?_
  refine pf_X10_3 X hK hG hS h0 wl_1_45 ⟨_, rfl, (iv_top _)⟩ dX10_rewind_2 (fun H locs hG hS ku1 ru1 => ?_)
  refine lv_aload_n X.1 X.2.1 dX10_rewind_5 rfl (lv_at hl 0 rfl) ?_
  refine lv_iconst (v := 0) X.1 X.2.1 dX10_rewind_6 (by decide +kernel) ?_
  refine pf_X10_2 X hK hG hS h0 wl_1_44 ⟨_, rfl, (iv_of (iv_c 0 (a := 0) (b := 0) (by decide +kernel)) (a' := 0) (b' := 240) (by decide +kernel))⟩ dX10_rewind_7 (fun H locs hG hS ku2 ru2 => ?_)
  have B3_10 : ∀ (N : Nat) (H : Heap) (locs : List Loc) (ls : Array Slot) (v3_0_2 : Int32), sgG (KT P) D vwCl (fun q : Nat => base ≤ q) tys ad ks H → va_S (fun q : Nat => base ≤ q) s.heap H locs → lv_has ls 1 [(0, .ref a0)] → iv 0 240 v3_0_2 → fld D H 10 a0 2 (.int v3_0_2) → (241 - v3_0_2.toInt).toNat ≤ N → W p l e (headSpec (Cond.code yX10_rewind cX10_rewind 1 none :: sg_tbl) ({ frames := 0, cells := 0, slots := 0, locals := 0 })).room s m #[.ref a0] below meth c H locs 0 0 (MQ below (va_Qv (fun (_ : Unit) => True) (fun _ => sgB (KT P) D vwCl base tys ad ks) (fun q : Nat => base ≤ q)) #[.ref a0] s 0 0 (fun q : Nat => base ≤ q)) (F0 m 10 ls []) := by
    intro N; induction N with
    | zero =>
      intro H locs ls v3_0_2 hG hS hl hv3_0_2 hkv3_0_2 hN
      exact absurd hN (by have := iv_up hv3_0_2; omega)
    | succ N ih3 =>
      intro H locs ls v3_0_2 hG hS hl hv3_0_2 hkv3_0_2 hN3
      refine lv_aload_n X.1 X.2.1 dX10_rewind_10 rfl (lv_at hl 0 rfl) ?_
      refine gg_X10_2 X hK hG h0 wl_1_44 hkv3_0_2 dX10_rewind_11 ?_
      refine lv_aload_n X.1 X.2.1 dX10_rewind_14 rfl (lv_at hl 0 rfl) ?_
      refine gf_X10_1 X hK hG h0 wl_1_43 dX10_rewind_15 (fun f4 hf4 pf4 kf4 => ?_)
      refine lv_icmp_ge (tgt := 48) X.1 X.2.1 dX10_rewind_18 (by decide) (fun c5 => ?_) (fun c5 => ?_)
      · exact sg_vret X hr hlk hb hK hC hG hS dX10_rewind_48
      · refine lv_aload_n X.1 X.2.1 dX10_rewind_21 rfl (lv_at hl 0 rfl) ?_
        refine gf_X10_0 X hK hG h0 wl_1_41 dX10_rewind_22 (fun q6 hq6 kq6 => ?_)
        refine lv_aload_n X.1 X.2.1 dX10_rewind_25 rfl (lv_at hl 0 rfl) ?_
        refine gg_X10_2 X hK hG h0 wl_1_44 hkv3_0_2 dX10_rewind_26 ?_
        refine al_42 X hK hG hq6 (iv_vpin (iv_lt (b' := 239) (iv_gt_of c5) hv3_0_2 hf4 (by decide +kernel)) (by decide +kernel)) dX10_rewind_29 (fun f7 hf7 => ?_)
        have of7 := hf7
        have hf7 : iv (-2147483648) 2147483647 f7 := iv_top f7
        refine lv_bipush (v := 32) X.1 X.2.1 dX10_rewind_30 (by decide +kernel) ?_
        refine lv_icmp_ne (tgt := 48) X.1 X.2.1 dX10_rewind_32 (by decide) (fun c8 => ?_) (fun c8 => ?_)
        · exact sg_vret X hr hlk hb hK hC hG hS dX10_rewind_48
        · refine lv_aload_n X.1 X.2.1 dX10_rewind_35 rfl (lv_at hl 0 rfl) ?_
          refine lv_dup X.1 X.2.1 dX10_rewind_36 rfl ?_
          refine gg_X10_2 X hK hG h0 wl_1_44 hkv3_0_2 dX10_rewind_37 ?_
          refine lv_iconst (v := 1) X.1 X.2.1 dX10_rewind_40 (by decide +kernel) ?_
          refine lv_iadd X.1 X.2.1 dX10_rewind_41 ?_
          refine lv_topi (fun f9 ef9 => ?_)
          refine pf_X10_2 X hK hG hS h0 wl_1_44 ⟨_, rfl, (iv_of (iv_add (a' := 1) (b' := 240) ef9 (iv_lt (b' := 239) (iv_gt_of c5) hv3_0_2 hf4 (by decide +kernel)) (iv_c 1 (a := 1) (b := 1) (by decide +kernel)) (by decide +kernel)) (a' := 0) (b' := 240) (by decide +kernel))⟩ dX10_rewind_42 (fun H locs hG hS ku10 ru10 => ?_)
          refine lv_goto (tgt := 10) X.1 X.2.1 dX10_rewind_45 (by decide) ?_
          exact ih3 H _ _ f9 hG hS (lv_sub hl [0] rfl) (iv_of (iv_add (a' := 1) (b' := 240) ef9 (iv_lt (b' := 239) (iv_gt_of c5) hv3_0_2 hf4 (by decide +kernel)) (iv_c 1 (a := 1) (b := 1) (by decide +kernel)) (by decide +kernel)) (a' := 0) (b' := 240) (by decide +kernel)) ku10 (iv_stepU ef9 (iv_lt (b' := 239) (iv_gt_of c5) hv3_0_2 hf4 (by decide +kernel)) (by decide +kernel) hN3)
  exact B3_10 _ H _ _ 0 hG hS (lv_sub hl [0] rfl) (iv_of (iv_c 0 (a := 0) (b := 0) (by decide +kernel)) (a' := 0) (b' := 240) (by decide +kernel)) ku2 (Nat.le_refl _)

theorem ca_X10_rewind   (X : CallFix p m c cc nL s args sg_tbl own) (hK : va_K D vwCl tys s) (hG : sgG (KT P) D vwCl (fun q : Nat => base ≤ q) tys ad ks H) (hC : sgC base s) (hS : va_S (fun q : Nat => base ≤ q) s.heap H locs) (hb : base ≤ s.heap.size) (a0 : Nat) (h0 : isK ad ks 10 a0) (hl : Cond.methodLink own index yX10_rewind ∈ sg_tbl) (hsize : ls.size = nL) (hst : st0 = [].reverse ++ .ref a0 :: rest) (hW : (rest.map fun v => v.category).sum ≤ 8) (hR : 1 ≤ R.frames ∧ 20 ≤ R.locals) (hf : cells ≤ R.cells ∧ slots ≤ R.slots) (hdg : decode cc pc = .ok (.invokevirtual index, 3)) (kk : ∀ (H1 : Heap) (locs1 : List Loc), sgG (KT P) D vwCl (fun q : Nat => base ≤ q) tys ad ks H1 → va_S (fun q : Nat => base ≤ q) s.heap H1 locs1 → W p l e R s m args below meth c H1 locs1 cells slots Q (F0 m (pc + 3) ls rest)) : W p l e R s m args below meth c H locs cells slots Q (F0 m pc ls st0) :=
  sg_callVv X hK hG hC hS hb (m_X10_rewind l a0 h0) h0 (k := 10) (ci := 10) rfl (C := RX10) (T := TX10) (N := 4) rfl wl_3_33 wl_1_2 wl_3_31 wl_3_32 (n := 0) (by decide +kernel) rfl rfl rfl hl hsize hst hW hR hf hdg kk

set_option maxHeartbeats 8000000 in
set_option maxRecDepth 100000 in
theorem m_X10_sign (l : Launch) {D : va_G} {base : Nat} {tys : List (ClassId × FieldType)} {ad ks : List Nat} {P : sgPm} {Hx : Heap} (a0 : Nat) (h0 : isK ad ks 10 a0) : sgPi l (KT P) D vwCl base tys ad ks Hx yX10_sign cX10_sign 1 (some .int) ({ frames := 0, cells := 0, slots := 0, locals := 0 }) [.ref a0] (fun r : Int32 => True) := by
  refine sg_ofP (Pq := fun Hx => va_Qi (fun r (_ : Unit) => (fun r : Int32 => True) r) (fun _ t => t.heap = Hx) (fun _ : Nat => False)) (by decide +kernel) (Nat.le_of_ble_eq_true rfl) (fun p e s m below meth c X hr hlk hb hK hC hG ls hl => ?_)
  have hS : va_S (fun _ : Nat => False) s.heap s.heap [] := va_S.rf
  have hl : lv_has ls 1 [(0, .ref a0)] := hl
  refine lv_aload_n X.1 X.2.1 dX10_sign_0 rfl (lv_at hl 0 rfl) ?_
  refine gf_X10_2 X hK hG h0 wl_1_44 dX10_sign_1 (fun f1 hf1 kf1 => ?_)
  refine lv_aload_n X.1 X.2.1 dX10_sign_4 rfl (lv_at hl 0 rfl) ?_
  refine gf_X10_1 X hK hG h0 wl_1_43 dX10_sign_5 (fun f2 hf2 pf2 kf2 => ?_)
  refine lv_icmp_ge (tgt := 23) X.1 X.2.1 dX10_sign_8 (by decide) (fun c3 => ?_) (fun c3 => ?_)
  · refine lv_iconst (v := 0) X.1 X.2.1 dX10_sign_23 (by decide +kernel) ?_
    exact sg_iretP X hr hlk hS trivial dX10_sign_24
  · refine lv_aload_n X.1 X.2.1 dX10_sign_11 rfl (lv_at hl 0 rfl) ?_
    refine gf_X10_0 X hK hG h0 wl_1_41 dX10_sign_12 (fun q4 hq4 kq4 => ?_)
    refine lv_aload_n X.1 X.2.1 dX10_sign_15 rfl (lv_at hl 0 rfl) ?_
    refine gg_X10_2 X hK hG h0 wl_1_44 kf1 dX10_sign_16 ?_
    refine al_42 X hK hG hq4 (iv_vpin (iv_lt (b' := 239) (iv_gt_of c3) hf1 hf2 (by decide +kernel)) (by decide +kernel)) dX10_sign_19 (fun f5 hf5 => ?_)
    have of5 := hf5
    have hf5 : iv (-2147483648) 2147483647 f5 := iv_top f5
    refine lv_goto (tgt := 24) X.1 X.2.1 dX10_sign_20 (by decide) ?_
    exact sg_iretP X hr hlk hS trivial dX10_sign_24

theorem ca_X10_sign   (X : CallFix p m c cc nL s args sg_tbl own) (hK : va_K D vwCl tys s) (hG : sgG (KT P) D vwCl (fun q : Nat => base ≤ q) tys ad ks H) (hC : sgC base s) (hA : ∀ q : Nat, A q → base ≤ q) (hS : va_S A s.heap H locs) (hb : base ≤ s.heap.size) (a0 : Nat) (h0 : isK ad ks 10 a0) (hl : Cond.methodLink own index yX10_sign ∈ sg_tbl) (hsize : ls.size = nL) (hst : st0 = [].reverse ++ .ref a0 :: rest) (hW : (rest.map fun v => v.category).sum ≤ 8) (hR : 1 ≤ R.frames ∧ 20 ≤ R.locals) (hf : cells ≤ R.cells ∧ slots ≤ R.slots) (hdg : decode cc pc = .ok (.invokevirtual index, 3)) (kk : ∀ (r : Int32) (locs1 : List Loc), (fun r : Int32 => True) r → va_S A s.heap H locs1 → W p l e R s m args below meth c H locs1 cells slots Q (F0 m (pc + 3) ls (.int r :: rest))) : W p l e R s m args below meth c H locs cells slots Q (F0 m pc ls st0) :=
  sg_callPVi X hK hG hC hA hS hb (m_X10_sign l a0 h0) h0 (k := 10) (ci := 10) rfl (C := RX10) (T := TX10) (N := 4) rfl wl_3_50 wl_1_2 wl_3_48 wl_3_49 (n := 0) (by decide +kernel) rfl rfl rfl hl hsize hst hW hR hf hdg kk

set_option maxHeartbeats 8000000 in
set_option maxRecDepth 100000 in
theorem m_X10_step (l : Launch) {D : va_G} {base : Nat} {tys : List (ClassId × FieldType)} {ad ks : List Nat} {P : sgPm} (a0 : Nat) (h0 : isK ad ks 10 a0) : sgMv l (KT P) D vwCl base tys ad ks yX10_step cX10_step 1 none ({ frames := 1, cells := 0, slots := 0, locals := 14 }) [.ref a0] := by
  refine sg_ofW (by decide +kernel) (Nat.le_of_ble_eq_true rfl) (fun p e s m below meth c X hr hlk hb hK hC hG ls hl => ?_)
  obtain ⟨gp0_2, hgp0_2, kgp0_2⟩ := pk_X10_2 hG h0
  have hG := sg_wide hG
  have hS : va_S (fun q : Nat => base ≤ q) s.heap s.heap [] := va_S.rf
  have hl : lv_has ls 1 [(0, .ref a0)] := hl
  refine lv_aload_n X.1 X.2.1 dX10_step_0 rfl (lv_at hl 0 rfl) ?_
  refine lv_dup X.1 X.2.1 dX10_step_1 rfl ?_
  refine gg_X10_2w X hK hG h0 wl_1_44 kgp0_2 dX10_step_2 ?_
  refine lv_iconst (v := 1) X.1 X.2.1 dX10_step_5 (by decide +kernel) ?_
  refine lv_iadd X.1 X.2.1 dX10_step_6 ?_
  refine lv_topi (fun f1 ef1 => ?_)
  refine pf_X10_2w X hK hG hS h0 wl_1_44 ⟨_, rfl, (iv_of (iv_add (a' := 1) (b' := 241) ef1 hgp0_2 (iv_c 1 (a := 1) (b := 1) (by decide +kernel)) (by decide +kernel)) (a' := 0) (b' := 241) (by decide +kernel))⟩ dX10_step_7 (fun H locs hG hS ku2 ru2 => ?_)
  have B3_10 : ∀ (N : Nat) (H : Heap) (locs : List Loc) (ls : Array Slot) (v3_0_2 : Int32), sgG (KTw P) D vwCl (fun q : Nat => base ≤ q) tys ad ks H → va_S (fun q : Nat => base ≤ q) s.heap H locs → lv_has ls 1 [(0, .ref a0)] → iv 0 241 v3_0_2 → fld D H 10 a0 2 (.int v3_0_2) → (242 - v3_0_2.toInt).toNat ≤ N → W p l e (headSpec (Cond.code yX10_step cX10_step 1 none :: sg_tbl) ({ frames := 1, cells := 0, slots := 0, locals := 14 })).room s m #[.ref a0] below meth c H locs 0 0 (MQ below (va_Qv (fun (_ : Unit) => True) (fun _ => sgB (KT P) D vwCl base tys ad ks) (fun q : Nat => base ≤ q)) #[.ref a0] s 0 0 (fun q : Nat => base ≤ q)) (F0 m 10 ls []) := by
    intro N; induction N with
    | zero =>
      intro H locs ls v3_0_2 hG hS hl hv3_0_2 hkv3_0_2 hN
      exact absurd hN (by have := iv_up hv3_0_2; omega)
    | succ N ih3 =>
      intro H locs ls v3_0_2 hG hS hl hv3_0_2 hkv3_0_2 hN3
      refine lv_aload_n X.1 X.2.1 dX10_step_10 rfl (lv_at hl 0 rfl) ?_
      refine gg_X10_2w X hK hG h0 wl_1_44 hkv3_0_2 dX10_step_11 ?_
      refine lv_aload_n X.1 X.2.1 dX10_step_14 rfl (lv_at hl 0 rfl) ?_
      refine gf_X10_1w X hK hG h0 wl_1_43 dX10_step_15 (fun f4 hf4 pf4 kf4 => ?_)
      have B6_48 : ∀ (locs : List Loc) (ls : Array Slot), va_S (fun q : Nat => base ≤ q) s.heap H locs → lv_has ls 1 [(0, .ref a0)] → W p l e (headSpec (Cond.code yX10_step cX10_step 1 none :: sg_tbl) ({ frames := 1, cells := 0, slots := 0, locals := 14 })).room s m #[.ref a0] below meth c H locs 0 0 (MQ below (va_Qv (fun (_ : Unit) => True) (fun _ => sgB (KT P) D vwCl base tys ad ks) (fun q : Nat => base ≤ q)) #[.ref a0] s 0 0 (fun q : Nat => base ≤ q)) (F0 m 48 ls []) := by
        intro locs ls hS hl
        refine lv_aload_n X.1 X.2.1 dX10_step_48 rfl (lv_at hl 0 rfl) ?_
        refine lv_aload_n X.1 X.2.1 dX10_step_49 rfl (lv_at hl 0 rfl) ?_
        refine gg_X10_2w X hK hG h0 wl_1_44 hkv3_0_2 dX10_step_50 ?_
        refine lv_aload_n X.1 X.2.1 dX10_step_53 rfl (lv_at hl 0 rfl) ?_
        refine gg_X10_1w X hK hG h0 wl_1_43 kf4 dX10_step_54 ?_
        refine va_mmin X.1 X.2.1 (X.2.2.1.trans hl.1.symm) X.2.2.2.1 (X.2.2.2.2 _ wl_3_63) (X.2.2.2.2 _ wl_3_64) (X.2.2.2.2 _ wl_1_15) (X.2.2.2.2 _ wl_3_65) (Nat.le_of_ble_eq_true rfl) (Nat.le_of_ble_eq_true rfl) (Nat.le_of_ble_eq_true rfl) (Nat.le_of_ble_eq_true rfl) dX10_step_57 ?_
        refine lv_topi (fun f7 ef7 => ?_)
        refine pf_X10_2c X hK hG hS h0 wl_1_44 ⟨_, rfl, (iv_min (a' := 0) (b' := 240) ef7 hv3_0_2 hf4 (by decide +kernel))⟩ dX10_step_60 (fun H locs hG hS ku8 ru8 => ?_)
        exact sg_vret X hr hlk hb hK hC hG hS dX10_step_63
      refine lv_icmp_ge (tgt := 48) X.1 X.2.1 dX10_step_18 (by decide) (fun c5 => ?_) (fun c5 => ?_)
      · exact B6_48 _ _ hS (lv_sub hl [0] rfl)
      · refine lv_aload_n X.1 X.2.1 dX10_step_21 rfl (lv_at hl 0 rfl) ?_
        refine gf_X10_0w X hK hG h0 wl_1_41 dX10_step_22 (fun q9 hq9 kq9 => ?_)
        refine lv_aload_n X.1 X.2.1 dX10_step_25 rfl (lv_at hl 0 rfl) ?_
        refine gg_X10_2w X hK hG h0 wl_1_44 hkv3_0_2 dX10_step_26 ?_
        refine al_42w X hK hG hq9 (iv_vpin (iv_lt (b' := 239) (iv_gt_of c5) hv3_0_2 hf4 (by decide +kernel)) (by decide +kernel)) dX10_step_29 (fun f10 hf10 => ?_)
        have of10 := hf10
        have hf10 : iv (-2147483648) 2147483647 f10 := iv_top f10
        refine lv_bipush (v := 32) X.1 X.2.1 dX10_step_30 (by decide +kernel) ?_
        refine lv_icmp_ne (tgt := 48) X.1 X.2.1 dX10_step_32 (by decide) (fun c11 => ?_) (fun c11 => ?_)
        · exact B6_48 _ _ hS (lv_sub hl [0] rfl)
        · refine lv_aload_n X.1 X.2.1 dX10_step_35 rfl (lv_at hl 0 rfl) ?_
          refine lv_dup X.1 X.2.1 dX10_step_36 rfl ?_
          refine gg_X10_2w X hK hG h0 wl_1_44 hkv3_0_2 dX10_step_37 ?_
          refine lv_iconst (v := 1) X.1 X.2.1 dX10_step_40 (by decide +kernel) ?_
          refine lv_iadd X.1 X.2.1 dX10_step_41 ?_
          refine lv_topi (fun f12 ef12 => ?_)
          refine pf_X10_2w X hK hG hS h0 wl_1_44 ⟨_, rfl, (iv_of (iv_add (a' := 1) (b' := 240) ef12 (iv_lt (b' := 239) (iv_gt_of c5) hv3_0_2 hf4 (by decide +kernel)) (iv_c 1 (a := 1) (b := 1) (by decide +kernel)) (by decide +kernel)) (a' := 0) (b' := 241) (by decide +kernel))⟩ dX10_step_42 (fun H locs hG hS ku13 ru13 => ?_)
          refine lv_goto (tgt := 10) X.1 X.2.1 dX10_step_45 (by decide) ?_
          exact ih3 H _ _ f12 hG hS (lv_sub hl [0] rfl) (iv_of (iv_add (a' := 1) (b' := 240) ef12 (iv_lt (b' := 239) (iv_gt_of c5) hv3_0_2 hf4 (by decide +kernel)) (iv_c 1 (a := 1) (b := 1) (by decide +kernel)) (by decide +kernel)) (a' := 0) (b' := 241) (by decide +kernel)) ku13 (iv_stepU ef12 (iv_lt (b' := 239) (iv_gt_of c5) hv3_0_2 hf4 (by decide +kernel)) (by decide +kernel) hN3)
  exact B3_10 _ H _ _ f1 hG hS (lv_sub hl [0] rfl) (iv_of (iv_add (a' := 1) (b' := 241) ef1 hgp0_2 (iv_c 1 (a := 1) (b := 1) (by decide +kernel)) (by decide +kernel)) (a' := 0) (b' := 241) (by decide +kernel)) ku2 (Nat.le_refl _)

theorem ca_X10_step   (X : CallFix p m c cc nL s args sg_tbl own) (hK : va_K D vwCl tys s) (hG : sgG (KT P) D vwCl (fun q : Nat => base ≤ q) tys ad ks H) (hC : sgC base s) (hS : va_S (fun q : Nat => base ≤ q) s.heap H locs) (hb : base ≤ s.heap.size) (a0 : Nat) (h0 : isK ad ks 10 a0) (hl : Cond.methodLink own index yX10_step ∈ sg_tbl) (hsize : ls.size = nL) (hst : st0 = [].reverse ++ .ref a0 :: rest) (hW : (rest.map fun v => v.category).sum ≤ 8) (hR : 2 ≤ R.frames ∧ 34 ≤ R.locals) (hf : cells ≤ R.cells ∧ slots ≤ R.slots) (hdg : decode cc pc = .ok (.invokevirtual index, 3)) (kk : ∀ (H1 : Heap) (locs1 : List Loc), sgG (KT P) D vwCl (fun q : Nat => base ≤ q) tys ad ks H1 → va_S (fun q : Nat => base ≤ q) s.heap H1 locs1 → W p l e R s m args below meth c H1 locs1 cells slots Q (F0 m (pc + 3) ls rest)) : W p l e R s m args below meth c H locs cells slots Q (F0 m pc ls st0) :=
  sg_callVv X hK hG hC hS hb (m_X10_step l a0 h0) h0 (k := 10) (ci := 10) rfl (C := RX10) (T := TX10) (N := 4) rfl wl_3_62 wl_1_2 wl_3_60 wl_3_61 (n := 0) (by decide +kernel) rfl rfl rfl hl hsize hst hW hR hf hdg kk

set_option maxHeartbeats 8000000 in
set_option maxRecDepth 100000 in
theorem m_X10_wrong (l : Launch) {D : va_G} {base : Nat} {tys : List (ClassId × FieldType)} {ad ks : List Nat} {P : sgPm} (a0 : Nat) (h0 : isK ad ks 10 a0) : sgMi l (KT P) D vwCl base tys ad ks yX10_wrong cX10_wrong 1 (some .boolean) ({ frames := 0, cells := 0, slots := 0, locals := 0 }) [.ref a0] (fun r : Int32 => iv 0 1 r) := by
  refine sg_ofW (by decide +kernel) (Nat.le_of_ble_eq_true rfl) (fun p e s m below meth c X hr hlk hb hK hC hG ls hl => ?_)
  have hS : va_S (fun q : Nat => base ≤ q) s.heap s.heap [] := va_S.rf
  have hl : lv_has ls 1 [(0, .ref a0)] := hl
  refine lv_aload_n X.1 X.2.1 dX10_wrong_0 rfl (lv_at hl 0 rfl) ?_
  refine lv_aload_n X.1 X.2.1 dX10_wrong_1 rfl (lv_at hl 0 rfl) ?_
  refine gf_X10_2 X hK hG h0 wl_1_44 dX10_wrong_2 (fun f1 hf1 kf1 => ?_)
  refine pf_X10_3 X hK hG hS h0 wl_1_45 ⟨_, rfl, (iv_top _)⟩ dX10_wrong_5 (fun H locs hG hS ku2 ru2 => ?_)
  refine lv_iconst (v := 0) X.1 X.2.1 dX10_wrong_8 (by decide +kernel) ?_
  exact sg_zret X hr (sg_zn (iv_of (iv_c 0 (a := 0) (b := 0) (by decide +kernel)) (a' := 0) (b' := 1) (by decide +kernel))) hlk hb hK hC hG hS (iv_of (iv_c 0 (a := 0) (b := 0) (by decide +kernel)) (a' := 0) (b' := 1) (by decide +kernel)) dX10_wrong_9

theorem ca_X10_wrong   (X : CallFix p m c cc nL s args sg_tbl own) (hK : va_K D vwCl tys s) (hG : sgG (KT P) D vwCl (fun q : Nat => base ≤ q) tys ad ks H) (hC : sgC base s) (hS : va_S (fun q : Nat => base ≤ q) s.heap H locs) (hb : base ≤ s.heap.size) (a0 : Nat) (h0 : isK ad ks 10 a0) (hl : Cond.methodLink own index yX10_wrong ∈ sg_tbl) (hsize : ls.size = nL) (hst : st0 = [].reverse ++ .ref a0 :: rest) (hW : (rest.map fun v => v.category).sum ≤ 8) (hR : 1 ≤ R.frames ∧ 20 ≤ R.locals) (hf : cells ≤ R.cells ∧ slots ≤ R.slots) (hdg : decode cc pc = .ok (.invokevirtual index, 3)) (kk : ∀ (r : Int32) (H1 : Heap) (locs1 : List Loc), (fun r : Int32 => iv 0 1 r) r → sgG (KT P) D vwCl (fun q : Nat => base ≤ q) tys ad ks H1 → va_S (fun q : Nat => base ≤ q) s.heap H1 locs1 → W p l e R s m args below meth c H1 locs1 cells slots Q (F0 m (pc + 3) ls (.int r :: rest))) : W p l e R s m args below meth c H locs cells slots Q (F0 m pc ls st0) :=
  sg_callVi X hK hG hC hS hb (m_X10_wrong l a0 h0) h0 (k := 10) (ci := 10) rfl (C := RX10) (T := TX10) (N := 4) rfl wl_3_58 wl_1_2 wl_3_56 wl_3_57 (n := 0) (by decide +kernel) rfl rfl rfl hl hsize hst hW hR hf hdg kk

set_option maxHeartbeats 8000000 in
set_option maxRecDepth 100000 in
theorem m_X10_wrongAsWhole (l : Launch) {D : va_G} {base : Nat} {tys : List (ClassId × FieldType)} {ad ks : List Nat} {P : sgPm} (a0 : Nat) (h0 : isK ad ks 10 a0) : sgMi l (KT P) D vwCl base tys ad ks yX10_wrongAsWhole cX10_wrongAsWhole 1 (some .boolean) ({ frames := 0, cells := 0, slots := 0, locals := 0 }) [.ref a0] (fun r : Int32 => iv 0 1 r) := by
  refine sg_ofW (by decide +kernel) (Nat.le_of_ble_eq_true rfl) (fun p e s m below meth c X hr hlk hb hK hC hG ls hl => ?_)
  have hS : va_S (fun q : Nat => base ≤ q) s.heap s.heap [] := va_S.rf
  have hl : lv_has ls 1 [(0, .ref a0)] := hl
  refine lv_aload_n X.1 X.2.1 dX10_wrongAsWhole_0 rfl (lv_at hl 0 rfl) ?_
  refine lv_aload_n X.1 X.2.1 dX10_wrongAsWhole_1 rfl (lv_at hl 0 rfl) ?_
  refine gf_X10_1 X hK hG h0 wl_1_43 dX10_wrongAsWhole_2 (fun f1 hf1 pf1 kf1 => ?_)
  refine pf_X10_3 X hK hG hS h0 wl_1_45 ⟨_, rfl, (iv_top _)⟩ dX10_wrongAsWhole_5 (fun H locs hG hS ku2 ru2 => ?_)
  refine lv_iconst (v := 0) X.1 X.2.1 dX10_wrongAsWhole_8 (by decide +kernel) ?_
  exact sg_zret X hr (sg_zn (iv_of (iv_c 0 (a := 0) (b := 0) (by decide +kernel)) (a' := 0) (b' := 1) (by decide +kernel))) hlk hb hK hC hG hS (iv_of (iv_c 0 (a := 0) (b := 0) (by decide +kernel)) (a' := 0) (b' := 1) (by decide +kernel)) dX10_wrongAsWhole_9

theorem ca_X10_wrongAsWhole   (X : CallFix p m c cc nL s args sg_tbl own) (hK : va_K D vwCl tys s) (hG : sgG (KT P) D vwCl (fun q : Nat => base ≤ q) tys ad ks H) (hC : sgC base s) (hS : va_S (fun q : Nat => base ≤ q) s.heap H locs) (hb : base ≤ s.heap.size) (a0 : Nat) (h0 : isK ad ks 10 a0) (hl : Cond.methodLink own index yX10_wrongAsWhole ∈ sg_tbl) (hsize : ls.size = nL) (hst : st0 = [].reverse ++ .ref a0 :: rest) (hW : (rest.map fun v => v.category).sum ≤ 8) (hR : 1 ≤ R.frames ∧ 20 ≤ R.locals) (hf : cells ≤ R.cells ∧ slots ≤ R.slots) (hdg : decode cc pc = .ok (.invokevirtual index, 3)) (kk : ∀ (r : Int32) (H1 : Heap) (locs1 : List Loc), (fun r : Int32 => iv 0 1 r) r → sgG (KT P) D vwCl (fun q : Nat => base ≤ q) tys ad ks H1 → va_S (fun q : Nat => base ≤ q) s.heap H1 locs1 → W p l e R s m args below meth c H1 locs1 cells slots Q (F0 m (pc + 3) ls (.int r :: rest))) : W p l e R s m args below meth c H locs cells slots Q (F0 m pc ls st0) :=
  sg_callVi X hK hG hC hS hb (m_X10_wrongAsWhole l a0 h0) h0 (k := 10) (ci := 10) rfl (C := RX10) (T := TX10) (N := 4) rfl wl_3_204 wl_1_2 wl_3_202 wl_3_203 (n := 0) (by decide +kernel) rfl rfl rfl hl hsize hst hW hR hf hdg kk

set_option maxHeartbeats 8000000 in
set_option maxRecDepth 100000 in
theorem m_X10_demand (l : Launch) {D : va_G} {base : Nat} {tys : List (ClassId × FieldType)} {ad ks : List Nat} {P : sgPm} (a0 : Nat) (h0 : isK ad ks 10 a0) (x1 : Int32) : sgMi l (KT P) D vwCl base tys ad ks yX10_demand cX10_demand 2 (some .boolean) ({ frames := 2, cells := 0, slots := 0, locals := 34 }) [.ref a0, .int x1] (fun r : Int32 => iv 0 1 r) := by
  refine sg_ofW (by decide +kernel) (Nat.le_of_ble_eq_true rfl) (fun p e s m below meth c X hr hlk hb hK hC hG ls hl => ?_)
  have hS : va_S (fun q : Nat => base ≤ q) s.heap s.heap [] := va_S.rf
  have hl : lv_has ls 2 [(0, .ref a0), (1, .int x1)] := hl
  refine lv_aload_n X.1 X.2.1 dX10_demand_0 rfl (lv_at hl 0 rfl) ?_
  refine ca_X10_sign X hK hG hC (fun _ h => h) hS hb a0 h0 wl_3_171 hl.1 (rest := []) rfl (Nat.le_of_ble_eq_true rfl) ⟨Nat.le_of_ble_eq_true rfl, Nat.le_of_ble_eq_true rfl⟩ ⟨Nat.le_of_ble_eq_true rfl, Nat.le_of_ble_eq_true rfl⟩ dX10_demand_1 (fun f1 locs hf1 hS => ?_)
  refine lv_iload_n X.1 X.2.1 dX10_demand_4 rfl (lv_at hl 1 rfl) ?_
  refine lv_icmp_eq (tgt := 13) X.1 X.2.1 dX10_demand_5 (by decide) (fun c2 => ?_) (fun c2 => ?_)
  · refine lv_aload_n X.1 X.2.1 dX10_demand_13 rfl (lv_at hl 0 rfl) ?_
    refine ca_X10_step X hK hG hC hS hb a0 h0 wl_3_218 hl.1 (rest := []) rfl (Nat.le_of_ble_eq_true rfl) ⟨Nat.le_of_ble_eq_true rfl, Nat.le_of_ble_eq_true rfl⟩ ⟨Nat.le_of_ble_eq_true rfl, Nat.le_of_ble_eq_true rfl⟩ dX10_demand_14 (fun H locs hG hS => ?_)
    refine lv_iconst (v := 1) X.1 X.2.1 dX10_demand_17 (by decide +kernel) ?_
    exact sg_zret X hr (sg_zn (iv_of (iv_c 1 (a := 1) (b := 1) (by decide +kernel)) (a' := 0) (b' := 1) (by decide +kernel))) hlk hb hK hC hG hS (iv_of (iv_c 1 (a := 1) (b := 1) (by decide +kernel)) (a' := 0) (b' := 1) (by decide +kernel)) dX10_demand_18
  · refine lv_aload_n X.1 X.2.1 dX10_demand_8 rfl (lv_at hl 0 rfl) ?_
    refine ca_X10_wrong X hK hG hC hS hb a0 h0 wl_3_172 hl.1 (rest := []) rfl (Nat.le_of_ble_eq_true rfl) ⟨Nat.le_of_ble_eq_true rfl, Nat.le_of_ble_eq_true rfl⟩ ⟨Nat.le_of_ble_eq_true rfl, Nat.le_of_ble_eq_true rfl⟩ dX10_demand_9 (fun f4 H locs hf4 hG hS => ?_)
    exact sg_zret X hr (sg_zn hf4) hlk hb hK hC hG hS hf4 dX10_demand_12

theorem ca_X10_demand   (X : CallFix p m c cc nL s args sg_tbl own) (hK : va_K D vwCl tys s) (hG : sgG (KT P) D vwCl (fun q : Nat => base ≤ q) tys ad ks H) (hC : sgC base s) (hS : va_S (fun q : Nat => base ≤ q) s.heap H locs) (hb : base ≤ s.heap.size) (a0 : Nat) (h0 : isK ad ks 10 a0) (x1 : Int32) (hl : Cond.methodLink own index yX10_demand ∈ sg_tbl) (hsize : ls.size = nL) (hst : st0 = [.int x1].reverse ++ .ref a0 :: rest) (hW : (rest.map fun v => v.category).sum ≤ 8) (hR : 3 ≤ R.frames ∧ 55 ≤ R.locals) (hf : cells ≤ R.cells ∧ slots ≤ R.slots) (hdg : decode cc pc = .ok (.invokevirtual index, 3)) (kk : ∀ (r : Int32) (H1 : Heap) (locs1 : List Loc), (fun r : Int32 => iv 0 1 r) r → sgG (KT P) D vwCl (fun q : Nat => base ≤ q) tys ad ks H1 → va_S (fun q : Nat => base ≤ q) s.heap H1 locs1 → W p l e R s m args below meth c H1 locs1 cells slots Q (F0 m (pc + 3) ls (.int r :: rest))) : W p l e R s m args below meth c H locs cells slots Q (F0 m pc ls st0) :=
  sg_callVi X hK hG hC hS hb (m_X10_demand l a0 h0 x1) h0 (k := 10) (ci := 10) rfl (C := RX10) (T := TX10) (N := 4) rfl wl_3_217 wl_1_2 wl_3_215 wl_3_216 (n := 1) (by decide +kernel) rfl rfl rfl hl hsize hst hW hR hf hdg kk

set_option maxHeartbeats 8000000 in
set_option maxRecDepth 100000 in
theorem m_X10_ended (l : Launch) {D : va_G} {base : Nat} {tys : List (ClassId × FieldType)} {ad ks : List Nat} {P : sgPm} (a0 : Nat) (h0 : isK ad ks 10 a0) : sgMi l (KT P) D vwCl base tys ad ks yX10_ended cX10_ended 1 (some .boolean) ({ frames := 1, cells := 0, slots := 0, locals := 20 }) [.ref a0] (fun r : Int32 => iv 0 1 r) := by
  refine sg_ofW (by decide +kernel) (Nat.le_of_ble_eq_true rfl) (fun p e s m below meth c X hr hlk hb hK hC hG ls hl => ?_)
  have hS : va_S (fun q : Nat => base ≤ q) s.heap s.heap [] := va_S.rf
  have hl : lv_has ls 1 [(0, .ref a0)] := hl
  refine lv_aload_n X.1 X.2.1 dX10_ended_0 rfl (lv_at hl 0 rfl) ?_
  refine ca_X10_sign X hK hG hC (fun _ h => h) hS hb a0 h0 wl_3_171 hl.1 (rest := []) rfl (Nat.le_of_ble_eq_true rfl) ⟨Nat.le_of_ble_eq_true rfl, Nat.le_of_ble_eq_true rfl⟩ ⟨Nat.le_of_ble_eq_true rfl, Nat.le_of_ble_eq_true rfl⟩ dX10_ended_1 (fun f1 locs hf1 hS => ?_)
  have B3_14 : ∀ (H : Heap) (locs : List Loc) (ls : Array Slot), sgG (KT P) D vwCl (fun q : Nat => base ≤ q) tys ad ks H → va_S (fun q : Nat => base ≤ q) s.heap H locs → lv_has ls 1 [] → W p l e (headSpec (Cond.code yX10_ended cX10_ended 1 (some .boolean) :: sg_tbl) ({ frames := 1, cells := 0, slots := 0, locals := 20 })).room s m #[.ref a0] below meth c H locs 0 0 (MQ below (va_Qi (fun r (_ : Unit) => (fun r : Int32 => iv 0 1 r) r) (fun _ => sgB (KT P) D vwCl base tys ad ks) (fun q : Nat => base ≤ q)) #[.ref a0] s 0 0 (fun q : Nat => base ≤ q)) (F0 m 14 ls []) := by
    intro H locs ls hG hS hl
    refine lv_iconst (v := 1) X.1 X.2.1 dX10_ended_14 (by decide +kernel) ?_
    refine lv_goto (tgt := 19) X.1 X.2.1 dX10_ended_15 (by decide) ?_
    exact sg_zret X hr (sg_zn (iv_of (iv_c 1 (a := 1) (b := 1) (by decide +kernel)) (a' := 0) (b' := 1) (by decide +kernel))) hlk hb hK hC hG hS (iv_of (iv_c 1 (a := 1) (b := 1) (by decide +kernel)) (a' := 0) (b' := 1) (by decide +kernel)) dX10_ended_19
  refine lv_if_eq (tgt := 14) X.1 X.2.1 dX10_ended_4 (by decide) (fun c2 => ?_) (fun c2 => ?_)
  · exact B3_14 s.heap _ _ hG hS (lv_sub hl [] rfl)
  · refine lv_aload_n X.1 X.2.1 dX10_ended_7 rfl (lv_at hl 0 rfl) ?_
    refine ca_X10_wrong X hK hG hC hS hb a0 h0 wl_3_172 hl.1 (rest := []) rfl (Nat.le_of_ble_eq_true rfl) ⟨Nat.le_of_ble_eq_true rfl, Nat.le_of_ble_eq_true rfl⟩ ⟨Nat.le_of_ble_eq_true rfl, Nat.le_of_ble_eq_true rfl⟩ dX10_ended_8 (fun f4 H locs hf4 hG hS => ?_)
    refine lv_if_eq (tgt := 18) X.1 X.2.1 dX10_ended_11 (by decide) (fun c5 => ?_) (fun c5 => ?_)
    · refine lv_iconst (v := 0) X.1 X.2.1 dX10_ended_18 (by decide +kernel) ?_
      exact sg_zret X hr (sg_zn (iv_of (iv_c 0 (a := 0) (b := 0) (by decide +kernel)) (a' := 0) (b' := 1) (by decide +kernel))) hlk hb hK hC hG hS (iv_of (iv_c 0 (a := 0) (b := 0) (by decide +kernel)) (a' := 0) (b' := 1) (by decide +kernel)) dX10_ended_19
    · exact B3_14 H _ _ hG hS (lv_sub hl [] rfl)

theorem ca_X10_ended   (X : CallFix p m c cc nL s args sg_tbl own) (hK : va_K D vwCl tys s) (hG : sgG (KT P) D vwCl (fun q : Nat => base ≤ q) tys ad ks H) (hC : sgC base s) (hS : va_S (fun q : Nat => base ≤ q) s.heap H locs) (hb : base ≤ s.heap.size) (a0 : Nat) (h0 : isK ad ks 10 a0) (hl : Cond.methodLink own index yX10_ended ∈ sg_tbl) (hsize : ls.size = nL) (hst : st0 = [].reverse ++ .ref a0 :: rest) (hW : (rest.map fun v => v.category).sum ≤ 8) (hR : 2 ≤ R.frames ∧ 40 ≤ R.locals) (hf : cells ≤ R.cells ∧ slots ≤ R.slots) (hdg : decode cc pc = .ok (.invokevirtual index, 3)) (kk : ∀ (r : Int32) (H1 : Heap) (locs1 : List Loc), (fun r : Int32 => iv 0 1 r) r → sgG (KT P) D vwCl (fun q : Nat => base ≤ q) tys ad ks H1 → va_S (fun q : Nat => base ≤ q) s.heap H1 locs1 → W p l e R s m args below meth c H1 locs1 cells slots Q (F0 m (pc + 3) ls (.int r :: rest))) : W p l e R s m args below meth c H locs cells slots Q (F0 m pc ls st0) :=
  sg_callVi X hK hG hC hS hb (m_X10_ended l a0 h0) h0 (k := 10) (ci := 10) rfl (C := RX10) (T := TX10) (N := 4) rfl wl_3_170 wl_1_2 wl_3_168 wl_3_169 (n := 0) (by decide +kernel) rfl rfl rfl hl hsize hst hW hR hf hdg kk

set_option maxHeartbeats 8000000 in
set_option maxRecDepth 100000 in
theorem m_X10_number (l : Launch) {D : va_G} {base : Nat} {tys : List (ClassId × FieldType)} {ad ks : List Nat} {P : sgPm} (a0 : Nat) (h0 : isK ad ks 10 a0) (x1 : Int32) (x2 : Int32) (x3 : Int32) : sgMi l (KT P) D vwCl base tys ad ks yX10_number cX10_number 6 (some .int) ({ frames := 0, cells := 0, slots := 0, locals := 0 }) [.ref a0, .int x1, .int x2, .int x3] (fun r : Int32 => r = -1 ∨ (x2 ≤ r ∧ r ≤ x3)) := by
  refine sg_ofW (by decide +kernel) (Nat.le_of_ble_eq_true rfl) (fun p e s m below meth c X hr hlk hb hK hC hG ls hl => ?_)
  have hS : va_S (fun q : Nat => base ≤ q) s.heap s.heap [] := va_S.rf
  have hl : lv_has ls 6 [(0, .ref a0), (1, .int x1), (2, .int x2), (3, .int x3)] := hl
  refine lv_iconst (v := 0) X.1 X.2.1 dX10_number_0 (by decide +kernel) ?_
  refine lv_istore (lv' := [(4, .int 0), (0, .ref a0), (1, .int x1), (2, .int x2), (3, .int x3)]) X.1 X.2.1 dX10_number_1 hl (by decide) rfl (fun ls hl => ?_)
  refine lv_iconst (v := 0) X.1 X.2.1 dX10_number_3 (by decide +kernel) ?_
  refine lv_istore (lv' := [(5, .int 0), (4, .int 0), (0, .ref a0), (1, .int x1), (2, .int x2), (3, .int x3)]) X.1 X.2.1 dX10_number_4 hl (by decide) rfl (fun ls hl => ?_)
  have B1_6 : ∀ (N : Nat) (H : Heap) (locs : List Loc) (ls : Array Slot) (z1_4 : Int32) (z1_5 : Int32) (v1_0_2 : Int32), sgG (KT P) D vwCl (fun q : Nat => base ≤ q) tys ad ks H → va_S (fun q : Nat => base ≤ q) s.heap H locs → lv_has ls 6 [(0, .ref a0), (1, .int x1), (2, .int x2), (3, .int x3), (4, .int z1_4), (5, .int z1_5)] → iv 0 240 v1_0_2 → fld D H 10 a0 2 (.int v1_0_2) → (241 - v1_0_2.toInt).toNat ≤ N → W p l e (headSpec (Cond.code yX10_number cX10_number 6 (some .int) :: sg_tbl) ({ frames := 0, cells := 0, slots := 0, locals := 0 })).room s m #[.ref a0, .int x1, .int x2, .int x3] below meth c H locs 0 0 (MQ below (va_Qi (fun r (_ : Unit) => (fun r : Int32 => r = -1 ∨ (x2 ≤ r ∧ r ≤ x3)) r) (fun _ => sgB (KT P) D vwCl base tys ad ks) (fun q : Nat => base ≤ q)) #[.ref a0, .int x1, .int x2, .int x3] s 0 0 (fun q : Nat => base ≤ q)) (F0 m 6 ls []) := by
    intro N; induction N with
    | zero =>
      intro H locs ls z1_4 z1_5 v1_0_2 hG hS hl hv1_0_2 hkv1_0_2 hN
      exact absurd hN (by have := iv_up hv1_0_2; omega)
    | succ N ih1 =>
      intro H locs ls z1_4 z1_5 v1_0_2 hG hS hl hv1_0_2 hkv1_0_2 hN1
      refine lv_aload_n X.1 X.2.1 dX10_number_6 rfl (lv_at hl 0 rfl) ?_
      refine gg_X10_2 X hK hG h0 wl_1_44 hkv1_0_2 dX10_number_7 ?_
      refine lv_aload_n X.1 X.2.1 dX10_number_10 rfl (lv_at hl 0 rfl) ?_
      refine gf_X10_1 X hK hG h0 wl_1_43 dX10_number_11 (fun f2 hf2 pf2 kf2 => ?_)
      have B4_97 : ∀ (locs : List Loc) (ls : Array Slot), va_S (fun q : Nat => base ≤ q) s.heap H locs → lv_has ls 6 [(0, .ref a0), (2, .int x2), (3, .int x3), (4, .int z1_4), (5, .int z1_5)] → W p l e (headSpec (Cond.code yX10_number cX10_number 6 (some .int) :: sg_tbl) ({ frames := 0, cells := 0, slots := 0, locals := 0 })).room s m #[.ref a0, .int x1, .int x2, .int x3] below meth c H locs 0 0 (MQ below (va_Qi (fun r (_ : Unit) => (fun r : Int32 => r = -1 ∨ (x2 ≤ r ∧ r ≤ x3)) r) (fun _ => sgB (KT P) D vwCl base tys ad ks) (fun q : Nat => base ≤ q)) #[.ref a0, .int x1, .int x2, .int x3] s 0 0 (fun q : Nat => base ≤ q)) (F0 m 97 ls []) := by
        intro locs ls hS hl
        refine lv_iload X.1 X.2.1 dX10_number_97 (lv_at hl 4 rfl) ?_
        have B6_114 : ∀ (locs : List Loc) (ls : Array Slot), va_S (fun q : Nat => base ≤ q) s.heap H locs → lv_has ls 6 [(0, .ref a0), (5, .int z1_5)] → W p l e (headSpec (Cond.code yX10_number cX10_number 6 (some .int) :: sg_tbl) ({ frames := 0, cells := 0, slots := 0, locals := 0 })).room s m #[.ref a0, .int x1, .int x2, .int x3] below meth c H locs 0 0 (MQ below (va_Qi (fun r (_ : Unit) => (fun r : Int32 => r = -1 ∨ (x2 ≤ r ∧ r ≤ x3)) r) (fun _ => sgB (KT P) D vwCl base tys ad ks) (fun q : Nat => base ≤ q)) #[.ref a0, .int x1, .int x2, .int x3] s 0 0 (fun q : Nat => base ≤ q)) (F0 m 114 ls []) := by
          intro locs ls hS hl
          refine lv_aload_n X.1 X.2.1 dX10_number_114 rfl (lv_at hl 0 rfl) ?_
          refine lv_iload X.1 X.2.1 dX10_number_115 (lv_at hl 1 rfl) ?_
          have B8_133 : ∀ (locs : List Loc) (ls : Array Slot) (w8_0 : Int32), va_S (fun q : Nat => base ≤ q) s.heap H locs → lv_has ls 6 [] → iv (-1) 240 w8_0 → W p l e (headSpec (Cond.code yX10_number cX10_number 6 (some .int) :: sg_tbl) ({ frames := 0, cells := 0, slots := 0, locals := 0 })).room s m #[.ref a0, .int x1, .int x2, .int x3] below meth c H locs 0 0 (MQ below (va_Qi (fun r (_ : Unit) => (fun r : Int32 => r = -1 ∨ (x2 ≤ r ∧ r ≤ x3)) r) (fun _ => sgB (KT P) D vwCl base tys ad ks) (fun q : Nat => base ≤ q)) #[.ref a0, .int x1, .int x2, .int x3] s 0 0 (fun q : Nat => base ≤ q)) (F0 m 133 ls [.int w8_0, .ref a0]) := by
            intro locs ls w8_0 hS hl hw8_0
            refine pf_X10_3 X hK hG hS h0 wl_1_45 ⟨_, rfl, (iv_top _)⟩ dX10_number_133 (fun H locs hG hS ku9 ru9 => ?_)
            refine lv_iconst (v := (-1)) X.1 X.2.1 dX10_number_136 (by decide +kernel) ?_
            exact sg_iret X hr hlk hb hK hC hG hS (Or.inl rfl) dX10_number_137
          refine lv_if_ne (tgt := 127) X.1 X.2.1 dX10_number_117 (by decide) (fun c7 => ?_) (fun c7 => ?_)
          · refine lv_aload_n X.1 X.2.1 dX10_number_127 rfl (lv_at hl 0 rfl) ?_
            refine gg_X10_2 X hK hG h0 wl_1_44 hkv1_0_2 dX10_number_128 ?_
            refine lv_iconst (v := 1) X.1 X.2.1 dX10_number_131 (by decide +kernel) ?_
            refine lv_isub X.1 X.2.1 dX10_number_132 ?_
            refine lv_topi (fun f10 ef10 => ?_)
            exact B8_133 _ _ f10 hS (lv_sub hl [] rfl) (iv_of (iv_sub (a' := (-1)) (b' := 239) ef10 hv1_0_2 (iv_c 1 (a := 1) (b := 1) (by decide +kernel)) (by decide +kernel)) (a' := (-1)) (b' := 240) (by decide +kernel))
          · refine lv_aload_n X.1 X.2.1 dX10_number_120 rfl (lv_at hl 0 rfl) ?_
            refine gg_X10_2 X hK hG h0 wl_1_44 hkv1_0_2 dX10_number_121 ?_
            refine lv_goto (tgt := 133) X.1 X.2.1 dX10_number_124 (by decide) ?_
            exact B8_133 _ _ v1_0_2 hS (lv_sub hl [] rfl) (iv_of hv1_0_2 (a' := (-1)) (b' := 240) (by decide +kernel))
        refine lv_if_eq (tgt := 114) X.1 X.2.1 dX10_number_99 (by decide) (fun c5 => ?_) (fun c5 => ?_)
        · exact B6_114 _ _ hS (lv_sub hl [0, 4] rfl)
        · refine lv_iload X.1 X.2.1 dX10_number_102 (lv_at hl 3 rfl) ?_
          refine lv_iload_n X.1 X.2.1 dX10_number_104 rfl (lv_at hl 1 rfl) ?_
          refine lv_icmp_lt (tgt := 114) X.1 X.2.1 dX10_number_105 (by decide) (fun c11 => ?_) (fun c11 => ?_)
          · exact B6_114 _ _ hS (lv_sub hl [0, 4] rfl)
          · refine lv_iload X.1 X.2.1 dX10_number_108 (lv_at hl 3 rfl) ?_
            refine lv_iload_n X.1 X.2.1 dX10_number_110 rfl (lv_at hl 2 rfl) ?_
            refine lv_icmp_le (tgt := 138) X.1 X.2.1 dX10_number_111 (by decide) (fun c12 => ?_) (fun c12 => ?_)
            · have B13_138 : ∀ (N : Nat) (H : Heap) (locs : List Loc) (ls : Array Slot) (v13_0_2 : Int32), sgG (KT P) D vwCl (fun q : Nat => base ≤ q) tys ad ks H → va_S (fun q : Nat => base ≤ q) s.heap H locs → lv_has ls 6 [(0, .ref a0), (4, .int z1_4)] → iv 0 240 v13_0_2 → fld D H 10 a0 2 (.int v13_0_2) → (241 - v13_0_2.toInt).toNat ≤ N → W p l e (headSpec (Cond.code yX10_number cX10_number 6 (some .int) :: sg_tbl) ({ frames := 0, cells := 0, slots := 0, locals := 0 })).room s m #[.ref a0, .int x1, .int x2, .int x3] below meth c H locs 0 0 (MQ below (va_Qi (fun r (_ : Unit) => (fun r : Int32 => r = -1 ∨ (x2 ≤ r ∧ r ≤ x3)) r) (fun _ => sgB (KT P) D vwCl base tys ad ks) (fun q : Nat => base ≤ q)) #[.ref a0, .int x1, .int x2, .int x3] s 0 0 (fun q : Nat => base ≤ q)) (F0 m 138 ls []) := by
                intro N; induction N with
                | zero =>
                  intro H locs ls v13_0_2 hG hS hl hv13_0_2 hkv13_0_2 hN
                  exact absurd hN (by have := iv_up hv13_0_2; omega)
                | succ N ih13 =>
                  intro H locs ls v13_0_2 hG hS hl hv13_0_2 hkv13_0_2 hN13
                  refine lv_aload_n X.1 X.2.1 dX10_number_138 rfl (lv_at hl 0 rfl) ?_
                  refine gg_X10_2 X hK hG h0 wl_1_44 hkv13_0_2 dX10_number_139 ?_
                  refine lv_aload_n X.1 X.2.1 dX10_number_142 rfl (lv_at hl 0 rfl) ?_
                  refine gf_X10_1 X hK hG h0 wl_1_43 dX10_number_143 (fun f14 hf14 pf14 kf14 => ?_)
                  refine lv_icmp_ge (tgt := 176) X.1 X.2.1 dX10_number_146 (by decide) (fun c15 => ?_) (fun c15 => ?_)
                  · refine lv_iload X.1 X.2.1 dX10_number_176 (lv_at hl 1 rfl) ?_
                    exact sg_iret X hr hlk hb hK hC hG hS (Or.inr ⟨(iv_ge_of c11), c12⟩) dX10_number_178
                  · refine lv_aload_n X.1 X.2.1 dX10_number_149 rfl (lv_at hl 0 rfl) ?_
                    refine gf_X10_0 X hK hG h0 wl_1_41 dX10_number_150 (fun q16 hq16 kq16 => ?_)
                    refine lv_aload_n X.1 X.2.1 dX10_number_153 rfl (lv_at hl 0 rfl) ?_
                    refine gg_X10_2 X hK hG h0 wl_1_44 hkv13_0_2 dX10_number_154 ?_
                    refine al_42 X hK hG hq16 (iv_vpin (iv_lt (b' := 239) (iv_gt_of c15) hv13_0_2 hf14 (by decide +kernel)) (by decide +kernel)) dX10_number_157 (fun f17 hf17 => ?_)
                    have of17 := hf17
                    have hf17 : iv (-2147483648) 2147483647 f17 := iv_top f17
                    refine lv_bipush (v := 32) X.1 X.2.1 dX10_number_158 (by decide +kernel) ?_
                    refine lv_icmp_ne (tgt := 176) X.1 X.2.1 dX10_number_160 (by decide) (fun c18 => ?_) (fun c18 => ?_)
                    · refine lv_iload X.1 X.2.1 dX10_number_176 (lv_at hl 1 rfl) ?_
                      exact sg_iret X hr hlk hb hK hC hG hS (Or.inr ⟨(iv_ge_of c11), c12⟩) dX10_number_178
                    · refine lv_aload_n X.1 X.2.1 dX10_number_163 rfl (lv_at hl 0 rfl) ?_
                      refine lv_dup X.1 X.2.1 dX10_number_164 rfl ?_
                      refine gg_X10_2 X hK hG h0 wl_1_44 hkv13_0_2 dX10_number_165 ?_
                      refine lv_iconst (v := 1) X.1 X.2.1 dX10_number_168 (by decide +kernel) ?_
                      refine lv_iadd X.1 X.2.1 dX10_number_169 ?_
                      refine lv_topi (fun f19 ef19 => ?_)
                      refine pf_X10_2 X hK hG hS h0 wl_1_44 ⟨_, rfl, (iv_of (iv_add (a' := 1) (b' := 240) ef19 (iv_lt (b' := 239) (iv_gt_of c15) hv13_0_2 hf14 (by decide +kernel)) (iv_c 1 (a := 1) (b := 1) (by decide +kernel)) (by decide +kernel)) (a' := 0) (b' := 240) (by decide +kernel))⟩ dX10_number_170 (fun H locs hG hS ku20 ru20 => ?_)
                      refine lv_goto (tgt := 138) X.1 X.2.1 dX10_number_173 (by decide) ?_
                      exact ih13 H _ _ f19 hG hS (lv_sub hl [0, 1] rfl) (iv_of (iv_add (a' := 1) (b' := 240) ef19 (iv_lt (b' := 239) (iv_gt_of c15) hv13_0_2 hf14 (by decide +kernel)) (iv_c 1 (a := 1) (b := 1) (by decide +kernel)) (by decide +kernel)) (a' := 0) (b' := 240) (by decide +kernel)) ku20 (iv_stepU ef19 (iv_lt (b' := 239) (iv_gt_of c15) hv13_0_2 hf14 (by decide +kernel)) (by decide +kernel) hN13)
              exact B13_138 _ H _ _ v1_0_2 hG hS (lv_sub hl [0, 3] rfl) hv1_0_2 hkv1_0_2 (Nat.le_refl _)
            · exact B6_114 _ _ hS (lv_sub hl [0, 4] rfl)
      refine lv_icmp_ge (tgt := 97) X.1 X.2.1 dX10_number_14 (by decide) (fun c3 => ?_) (fun c3 => ?_)
      · exact B4_97 _ _ hS (lv_sub hl [0, 2, 3, 4, 5] rfl)
      · refine lv_aload_n X.1 X.2.1 dX10_number_17 rfl (lv_at hl 0 rfl) ?_
        refine gf_X10_0 X hK hG h0 wl_1_41 dX10_number_18 (fun q21 hq21 kq21 => ?_)
        refine lv_aload_n X.1 X.2.1 dX10_number_21 rfl (lv_at hl 0 rfl) ?_
        refine gg_X10_2 X hK hG h0 wl_1_44 hkv1_0_2 dX10_number_22 ?_
        refine al_42 X hK hG hq21 (iv_vpin (iv_lt (b' := 239) (iv_gt_of c3) hv1_0_2 hf2 (by decide +kernel)) (by decide +kernel)) dX10_number_25 (fun f22 hf22 => ?_)
        have of22 := hf22
        have hf22 : iv (-2147483648) 2147483647 f22 := iv_top f22
        refine lv_bipush (v := 48) X.1 X.2.1 dX10_number_26 (by decide +kernel) ?_
        refine lv_icmp_lt (tgt := 97) X.1 X.2.1 dX10_number_28 (by decide) (fun c23 => ?_) (fun c23 => ?_)
        · exact B4_97 _ _ hS (lv_sub hl [0, 2, 3, 4, 5] rfl)
        · refine lv_aload_n X.1 X.2.1 dX10_number_31 rfl (lv_at hl 0 rfl) ?_
          refine gg_X10_0 X hK hG h0 wl_1_41 kq21 dX10_number_32 ?_
          refine lv_aload_n X.1 X.2.1 dX10_number_35 rfl (lv_at hl 0 rfl) ?_
          refine gg_X10_2 X hK hG h0 wl_1_44 hkv1_0_2 dX10_number_36 ?_
          refine al_42 X hK hG hq21 (iv_vpin (iv_lt (b' := 239) (iv_gt_of c3) hv1_0_2 hf2 (by decide +kernel)) (by decide +kernel)) dX10_number_39 (fun f24 hf24 => ?_)
          have of24 := hf24
          have hf24 : iv (-2147483648) 2147483647 f24 := iv_top f24
          refine lv_bipush (v := 57) X.1 X.2.1 dX10_number_40 (by decide +kernel) ?_
          refine lv_icmp_gt (tgt := 97) X.1 X.2.1 dX10_number_42 (by decide) (fun c25 => ?_) (fun c25 => ?_)
          · exact B4_97 _ _ hS (lv_sub hl [0, 2, 3, 4, 5] rfl)
          · refine lv_iload X.1 X.2.1 dX10_number_45 (lv_at hl 5 rfl) ?_
            refine lv_iload_n X.1 X.2.1 dX10_number_47 rfl (lv_at hl 1 rfl) ?_
            refine lv_icmp_ne (tgt := 61) X.1 X.2.1 dX10_number_48 (by decide) (fun c26 => ?_) (fun c26 => ?_)
            · refine lv_iload X.1 X.2.1 dX10_number_61 (lv_at hl 4 rfl) ?_
              refine lv_bipush (v := 10) X.1 X.2.1 dX10_number_63 (by decide +kernel) ?_
              refine lv_imul X.1 X.2.1 dX10_number_65 ?_
              refine lv_topi (fun f27 ef27 => ?_)
              refine lv_aload_n X.1 X.2.1 dX10_number_66 rfl (lv_at hl 0 rfl) ?_
              refine gg_X10_0 X hK hG h0 wl_1_41 kq21 dX10_number_67 ?_
              refine lv_aload_n X.1 X.2.1 dX10_number_70 rfl (lv_at hl 0 rfl) ?_
              refine gg_X10_2 X hK hG h0 wl_1_44 hkv1_0_2 dX10_number_71 ?_
              refine al_42 X hK hG hq21 (iv_vpin (iv_lt (b' := 239) (iv_gt_of c3) hv1_0_2 hf2 (by decide +kernel)) (by decide +kernel)) dX10_number_74 (fun f28 hf28 => ?_)
              have of28 := hf28
              have hf28 : iv (-2147483648) 2147483647 f28 := iv_top f28
              refine lv_iadd X.1 X.2.1 dX10_number_75 ?_
              refine lv_topi (fun f29 ef29 => ?_)
              refine lv_bipush (v := 48) X.1 X.2.1 dX10_number_76 (by decide +kernel) ?_
              refine lv_isub X.1 X.2.1 dX10_number_78 ?_
              refine lv_topi (fun f30 ef30 => ?_)
              refine lv_istore (lv' := [(4, .int f30), (0, .ref a0), (1, .int x1), (2, .int x2), (3, .int x3), (5, .int z1_5)]) X.1 X.2.1 dX10_number_79 hl (by decide) rfl (fun ls hl => ?_)
              obtain ⟨y31, ey31⟩ : ∃ y : Int32, y = z1_5 + Int32.ofInt 1 := ⟨_, rfl⟩
              refine lv_iinc (v := y31) (lv' := [(5, .int y31), (4, .int f30), (0, .ref a0), (1, .int x1), (2, .int x2), (3, .int x3)]) X.1 X.2.1 dX10_number_81 hl (k := 5) rfl ey31.symm (by decide) rfl (fun ls hl => ?_)
              refine lv_aload_n X.1 X.2.1 dX10_number_84 rfl (lv_at hl 2 rfl) ?_
              refine lv_dup X.1 X.2.1 dX10_number_85 rfl ?_
              refine gg_X10_2 X hK hG h0 wl_1_44 hkv1_0_2 dX10_number_86 ?_
              refine lv_iconst (v := 1) X.1 X.2.1 dX10_number_89 (by decide +kernel) ?_
              refine lv_iadd X.1 X.2.1 dX10_number_90 ?_
              refine lv_topi (fun f32 ef32 => ?_)
              refine pf_X10_2 X hK hG hS h0 wl_1_44 ⟨_, rfl, (iv_of (iv_add (a' := 1) (b' := 240) ef32 (iv_lt (b' := 239) (iv_gt_of c3) hv1_0_2 hf2 (by decide +kernel)) (iv_c 1 (a := 1) (b := 1) (by decide +kernel)) (by decide +kernel)) (a' := 0) (b' := 240) (by decide +kernel))⟩ dX10_number_91 (fun H locs hG hS ku33 ru33 => ?_)
              refine lv_goto (tgt := 6) X.1 X.2.1 dX10_number_94 (by decide) ?_
              exact ih1 H _ _ f30 y31 f32 hG hS (lv_sub hl [2, 3, 4, 5, 1, 0] rfl) (iv_of (iv_add (a' := 1) (b' := 240) ef32 (iv_lt (b' := 239) (iv_gt_of c3) hv1_0_2 hf2 (by decide +kernel)) (iv_c 1 (a := 1) (b := 1) (by decide +kernel)) (by decide +kernel)) (a' := 0) (b' := 240) (by decide +kernel)) ku33 (iv_stepU ef32 (iv_lt (b' := 239) (iv_gt_of c3) hv1_0_2 hf2 (by decide +kernel)) (by decide +kernel) hN1)
            · refine lv_aload_n X.1 X.2.1 dX10_number_51 rfl (lv_at hl 0 rfl) ?_
              refine lv_aload_n X.1 X.2.1 dX10_number_52 rfl (lv_at hl 0 rfl) ?_
              refine gg_X10_2 X hK hG h0 wl_1_44 hkv1_0_2 dX10_number_53 ?_
              refine pf_X10_3 X hK hG hS h0 wl_1_45 ⟨_, rfl, (iv_top _)⟩ dX10_number_56 (fun H locs hG hS ku34 ru34 => ?_)
              refine lv_iconst (v := (-1)) X.1 X.2.1 dX10_number_59 (by decide +kernel) ?_
              exact sg_iret X hr hlk hb hK hC hG hS (Or.inl rfl) dX10_number_60
  obtain ⟨g35, hg35, kg35⟩ := pk_X10_2 hG h0
  exact B1_6 _ s.heap _ _ 0 0 g35 hG hS (lv_sub hl [2, 3, 4, 5, 1, 0] rfl) hg35 kg35 (Nat.le_refl _)

theorem ca_X10_number   (X : CallFix p m c cc nL s args sg_tbl own) (hK : va_K D vwCl tys s) (hG : sgG (KT P) D vwCl (fun q : Nat => base ≤ q) tys ad ks H) (hC : sgC base s) (hS : va_S (fun q : Nat => base ≤ q) s.heap H locs) (hb : base ≤ s.heap.size) (a0 : Nat) (h0 : isK ad ks 10 a0) (x1 : Int32) (x2 : Int32) (x3 : Int32) (hl : Cond.methodLink own index yX10_number ∈ sg_tbl) (hsize : ls.size = nL) (hst : st0 = [.int x1, .int x2, .int x3].reverse ++ .ref a0 :: rest) (hW : (rest.map fun v => v.category).sum ≤ 8) (hR : 1 ≤ R.frames ∧ 25 ≤ R.locals) (hf : cells ≤ R.cells ∧ slots ≤ R.slots) (hdg : decode cc pc = .ok (.invokevirtual index, 3)) (kk : ∀ (r : Int32) (H1 : Heap) (locs1 : List Loc), (fun r : Int32 => r = -1 ∨ (x2 ≤ r ∧ r ≤ x3)) r → sgG (KT P) D vwCl (fun q : Nat => base ≤ q) tys ad ks H1 → va_S (fun q : Nat => base ≤ q) s.heap H1 locs1 → W p l e R s m args below meth c H1 locs1 cells slots Q (F0 m (pc + 3) ls (.int r :: rest))) : W p l e R s m args below meth c H locs cells slots Q (F0 m pc ls st0) :=
  sg_callVi X hK hG hC hS hb (m_X10_number l a0 h0 x1 x2 x3) h0 (k := 10) (ci := 10) rfl (C := RX10) (T := TX10) (N := 4) rfl wl_3_162 wl_1_2 wl_3_160 wl_3_161 (n := 3) (by decide +kernel) rfl rfl rfl hl hsize hst hW hR hf hdg kk

set_option maxHeartbeats 8000000 in
set_option maxRecDepth 100000 in
theorem m_J0_isLatin1_aae02_7 (l : Launch) {D : va_G} {base : Nat} {tys : List (ClassId × FieldType)} {ad ks : List Nat} {P : sgPm} {Hx : Heap} (ta tv : Nat) (tb : List Int32) : sgEi l (KT P) D vwCl base tys ad ks Hx ta tv 7 tb yJ0_isLatin1_aae02 cJ0_isLatin1_aae02 1 (some .boolean) ({ frames := 0, cells := 0, slots := 0, locals := 0 }) [.ref ta] (fun r : Int32 => iv 1 1 r) := by
  refine sg_ofE (Pq := fun Hx => va_Qi (fun r (_ : Unit) => (fun r : Int32 => iv 1 1 r) r) (fun _ t => t.heap = Hx) (fun _ : Nat => False)) (by decide +kernel) (Nat.le_of_ble_eq_true rfl) (fun p e s m below meth c X hr hlk hb hK hC hG ls hl hp => ?_)
  have hS : va_S (fun _ : Nat => False) s.heap s.heap [] := va_S.rf
  have hl : lv_has ls 1 [(0, .ref ta)] := hl
  refine va_gets (v := .int 1) X.1 X.2.1 hp.2.2.2.2.1 hS X.2.2.2.1 (X.2.2.2.2 _ wl_3_83) (fun _ h9 => h9) dJ0_isLatin1_aae02_0 ?_
  refine lv_if_eq (tgt := 17) X.1 X.2.1 dJ0_isLatin1_aae02_3 (by decide) (fun c1 => ?_) (fun c1 => ?_)
  · exact ((iv_no (a := 1) (b := 0) (iv_eqm c1 (iv_c 1 (a := 1) (b := 1) (by decide +kernel)) (iv_c 0 (a := 0) (b := 0) (by decide +kernel)) (by decide +kernel)) (by decide +kernel))).elim
  · refine lv_aload_n X.1 X.2.1 dJ0_isLatin1_aae02_6 rfl (lv_at hl 0 rfl) ?_
    refine vk_getf (v := .int 0) X.1 X.2.1 hp.2.1 hS X.2.2.2.1 (X.2.2.2.2 _ wl_9_180) (fun _ h9 => h9) dJ0_isLatin1_aae02_7 ?_
    refine lv_if_ne (tgt := 17) X.1 X.2.1 dJ0_isLatin1_aae02_10 (by decide) (fun c2 => ?_) (fun c2 => ?_)
    · exact ((c2 (iv_one (iv_c 0 (a := 0) (b := 0) (by decide +kernel)) (iv_c 0 (a := 0) (b := 0) (by decide +kernel)) (by decide +kernel)))).elim
    · refine lv_iconst (v := 1) X.1 X.2.1 dJ0_isLatin1_aae02_13 (by decide +kernel) ?_
      refine lv_goto (tgt := 18) X.1 X.2.1 dJ0_isLatin1_aae02_14 (by decide) ?_
      exact sg_zretP X hr (sg_zn (iv_of (iv_c 1 (a := 1) (b := 1) (by decide +kernel)) (a' := 0) (b' := 1) (by decide +kernel))) hlk hS (iv_c 1 (a := 1) (b := 1) (by decide +kernel)) dJ0_isLatin1_aae02_18

theorem ca_J0_isLatin1_aae02_7   (X : CallFix p m c cc nL s args sg_tbl own) (hK : va_K D vwCl tys s) (hG : sgG (KT P) D vwCl (fun q : Nat => base ≤ q) tys ad ks H) (hC : sgC base s) (hA : ∀ q : Nat, A q → base ≤ q) (hS : va_S A s.heap H locs)  (hb : base ≤ s.heap.size) {ta tv : Nat} {tb : List Int32} (hp : P_S ta tv 7 tb A s)  (hl : Cond.methodLink own index yJ0_isLatin1_aae02 ∈ sg_tbl) (hsize : ls.size = nL) (hst : st0 = [].reverse ++ .ref ta :: rest) (hW : (rest.map fun v => v.category).sum ≤ 8) (hR : 1 ≤ R.frames ∧ 20 ≤ R.locals) (hf : cells ≤ R.cells ∧ slots ≤ R.slots) (hdg : decode cc pc = .ok (.invokevirtual index, 3)) (kk : ∀ (r : Int32) (locs1 : List Loc), (fun r : Int32 => iv 1 1 r) r → va_S A s.heap H locs1 → W p l e R s m args below meth c H locs1 cells slots Q (F0 m (pc + 3) ls (.int r :: rest))) : W p l e R s m args below meth c H locs cells slots Q (F0 m pc ls st0) :=
  sg_callEVi X hK hG hC hA hS hb hp (m_J0_isLatin1_aae02_7 l ta tv tb ) wl_3_82 wl_1_16 wl_3_80 wl_3_81 (n := 0) (by decide +kernel) rfl rfl rfl hl hsize hst hW hR hf hdg kk

set_option maxHeartbeats 8000000 in
set_option maxRecDepth 100000 in
theorem m_J0_coder_7d493_7 (l : Launch) {D : va_G} {base : Nat} {tys : List (ClassId × FieldType)} {ad ks : List Nat} {P : sgPm} {Hx : Heap} (ta tv : Nat) (tb : List Int32) : sgEi l (KT P) D vwCl base tys ad ks Hx ta tv 7 tb yJ0_coder_7d493 cJ0_coder_7d493 1 (some .byte) ({ frames := 0, cells := 0, slots := 0, locals := 0 }) [.ref ta] (fun r : Int32 => iv 0 0 r) := by
  refine sg_ofE (Pq := fun Hx => va_Qi (fun r (_ : Unit) => (fun r : Int32 => iv 0 0 r) r) (fun _ t => t.heap = Hx) (fun _ : Nat => False)) (by decide +kernel) (Nat.le_of_ble_eq_true rfl) (fun p e s m below meth c X hr hlk hb hK hC hG ls hl hp => ?_)
  have hS : va_S (fun _ : Nat => False) s.heap s.heap [] := va_S.rf
  have hl : lv_has ls 1 [(0, .ref ta)] := hl
  refine va_gets (v := .int 1) X.1 X.2.1 hp.2.2.2.2.1 hS X.2.2.2.1 (X.2.2.2.2 _ wl_3_83) (fun _ h9 => h9) dJ0_coder_7d493_0 ?_
  refine lv_if_eq (tgt := 13) X.1 X.2.1 dJ0_coder_7d493_3 (by decide) (fun c1 => ?_) (fun c1 => ?_)
  · exact ((iv_no (a := 1) (b := 0) (iv_eqm c1 (iv_c 1 (a := 1) (b := 1) (by decide +kernel)) (iv_c 0 (a := 0) (b := 0) (by decide +kernel)) (by decide +kernel)) (by decide +kernel))).elim
  · refine lv_aload_n X.1 X.2.1 dJ0_coder_7d493_6 rfl (lv_at hl 0 rfl) ?_
    refine vk_getf (v := .int 0) X.1 X.2.1 hp.2.1 hS X.2.2.2.1 (X.2.2.2.2 _ wl_9_180) (fun _ h9 => h9) dJ0_coder_7d493_7 ?_
    refine lv_goto (tgt := 14) X.1 X.2.1 dJ0_coder_7d493_10 (by decide) ?_
    exact sg_zretP X hr (show narrow .byte (.int 0) = .int 0 by decide +kernel) hlk hS (iv_c 0 (a := 0) (b := 0) (by decide +kernel)) dJ0_coder_7d493_14

theorem ca_J0_coder_7d493_7   (X : CallFix p m c cc nL s args sg_tbl own) (hK : va_K D vwCl tys s) (hG : sgG (KT P) D vwCl (fun q : Nat => base ≤ q) tys ad ks H) (hC : sgC base s) (hA : ∀ q : Nat, A q → base ≤ q) (hS : va_S A s.heap H locs)  (hb : base ≤ s.heap.size) {ta tv : Nat} {tb : List Int32} (hp : P_S ta tv 7 tb A s)  (hl : Cond.methodLink own index yJ0_coder_7d493 ∈ sg_tbl) (hsize : ls.size = nL) (hst : st0 = [].reverse ++ .ref ta :: rest) (hW : (rest.map fun v => v.category).sum ≤ 8) (hR : 1 ≤ R.frames ∧ 20 ≤ R.locals) (hf : cells ≤ R.cells ∧ slots ≤ R.slots) (hdg : decode cc pc = .ok (.invokevirtual index, 3)) (kk : ∀ (r : Int32) (locs1 : List Loc), (fun r : Int32 => iv 0 0 r) r → va_S A s.heap H locs1 → W p l e R s m args below meth c H locs1 cells slots Q (F0 m (pc + 3) ls (.int r :: rest))) : W p l e R s m args below meth c H locs cells slots Q (F0 m pc ls st0) :=
  sg_callEVi X hK hG hC hA hS hb hp (m_J0_coder_7d493_7 l ta tv tb ) wl_3_92 wl_1_16 wl_3_90 wl_3_91 (n := 0) (by decide +kernel) rfl rfl rfl hl hsize hst hW hR hf hdg kk

set_option maxHeartbeats 8000000 in
set_option maxRecDepth 100000 in
theorem m_J0_length_8abf5_7 (l : Launch) {D : va_G} {base : Nat} {tys : List (ClassId × FieldType)} {ad ks : List Nat} {P : sgPm} {Hx : Heap} (ta tv : Nat) (tb : List Int32) : sgEi l (KT P) D vwCl base tys ad ks Hx ta tv 7 tb yJ0_length_8abf5 cJ0_length_8abf5 1 (some .int) ({ frames := 1, cells := 0, slots := 0, locals := 20 }) [.ref ta] (fun r : Int32 => iv 7 7 r) := by
  refine sg_ofE (Pq := fun Hx => va_Qi (fun r (_ : Unit) => (fun r : Int32 => iv 7 7 r) r) (fun _ t => t.heap = Hx) (fun _ : Nat => False)) (by decide +kernel) (Nat.le_of_ble_eq_true rfl) (fun p e s m below meth c X hr hlk hb hK hC hG ls hl hp => ?_)
  have hS : va_S (fun _ : Nat => False) s.heap s.heap [] := va_S.rf
  have hl : lv_has ls 1 [(0, .ref ta)] := hl
  refine lv_aload_n X.1 X.2.1 dJ0_length_8abf5_0 rfl (lv_at hl 0 rfl) ?_
  refine vk_getf (v := .ref tv) X.1 X.2.1 hp.2.2.1 hS X.2.2.2.1 (X.2.2.2.2 _ wl_9_181) (fun _ h9 => h9) dJ0_length_8abf5_1 ?_
  refine va_tlen X.1 X.2.1 hp.2.2.2.1 hS (v := 7) rfl dJ0_length_8abf5_4 ?_
  refine lv_aload_n X.1 X.2.1 dJ0_length_8abf5_5 rfl (lv_at hl 0 rfl) ?_
  refine ca_J0_coder_7d493_7 X hK hG hC (fun _ h => h.elim) hS hb hp wl_3_89 hl.1 (rest := [.int 7]) rfl (Nat.le_of_ble_eq_true rfl) ⟨Nat.le_of_ble_eq_true rfl, Nat.le_of_ble_eq_true rfl⟩ ⟨Nat.le_of_ble_eq_true rfl, Nat.le_of_ble_eq_true rfl⟩ dJ0_length_8abf5_6 (fun f1 locs hf1 hS => ?_)
  refine lv_ishr X.1 X.2.1 dJ0_length_8abf5_9 ?_
  refine lv_topi (fun f2 ef2 => ?_)
  exact sg_iretP X hr hlk hS (sg_shr0 ef2 hf1 (by decide +kernel) (iv_c 7 (a := 7) (b := 7) (by decide +kernel))) dJ0_length_8abf5_10

theorem ca_J0_length_8abf5_7   (X : CallFix p m c cc nL s args sg_tbl own) (hK : va_K D vwCl tys s) (hG : sgG (KT P) D vwCl (fun q : Nat => base ≤ q) tys ad ks H) (hC : sgC base s) (hA : ∀ q : Nat, A q → base ≤ q) (hS : va_S A s.heap H locs)  (hb : base ≤ s.heap.size) {ta tv : Nat} {tb : List Int32} (hp : P_S ta tv 7 tb A s)  (hl : Cond.methodLink own index yJ0_length_8abf5 ∈ sg_tbl) (hsize : ls.size = nL) (hst : st0 = [].reverse ++ .ref ta :: rest) (hW : (rest.map fun v => v.category).sum ≤ 8) (hR : 2 ≤ R.frames ∧ 40 ≤ R.locals) (hf : cells ≤ R.cells ∧ slots ≤ R.slots) (hdg : decode cc pc = .ok (.invokevirtual index, 3)) (kk : ∀ (r : Int32) (locs1 : List Loc), (fun r : Int32 => iv 7 7 r) r → va_S A s.heap H locs1 → W p l e R s m args below meth c H locs1 cells slots Q (F0 m (pc + 3) ls (.int r :: rest))) : W p l e R s m args below meth c H locs cells slots Q (F0 m pc ls st0) :=
  sg_callEVi X hK hG hC hA hS hb hp (m_J0_length_8abf5_7 l ta tv tb ) wl_3_88 wl_1_16 wl_3_86 wl_3_87 (n := 0) (by decide +kernel) rfl rfl rfl hl hsize hst hW hR hf hdg kk

set_option maxHeartbeats 8000000 in
set_option maxRecDepth 100000 in
theorem m_J1_canEncode_9a6ad (l : Launch) {D : va_G} {base : Nat} {tys : List (ClassId × FieldType)} {ad ks : List Nat} {P : sgPm} {Hx : Heap} (x0 : Int32) : sgPi l (KT P) D vwCl base tys ad ks Hx yJ1_canEncode_9a6ad cJ1_canEncode_9a6ad 1 (some .boolean) ({ frames := 0, cells := 0, slots := 0, locals := 0 }) [.int x0] (fun r : Int32 => iv 0 1 r) := by
  refine sg_ofP (Pq := fun Hx => va_Qi (fun r (_ : Unit) => (fun r : Int32 => iv 0 1 r) r) (fun _ t => t.heap = Hx) (fun _ : Nat => False)) (by decide +kernel) (Nat.le_of_ble_eq_true rfl) (fun p e s m below meth c X hr hlk hb hK hC hG ls hl => ?_)
  have hS : va_S (fun _ : Nat => False) s.heap s.heap [] := va_S.rf
  have hl : lv_has ls 1 [(0, .int x0)] := hl
  refine lv_iload_n X.1 X.2.1 dJ1_canEncode_9a6ad_0 rfl (lv_at hl 0 rfl) ?_
  have B2_15 : ∀ (locs : List Loc) (ls : Array Slot), va_S (fun _ : Nat => False) s.heap s.heap locs → lv_has ls 1 [] → W p l e (headSpec (Cond.code yJ1_canEncode_9a6ad cJ1_canEncode_9a6ad 1 (some .boolean) :: sg_tbl) ({ frames := 0, cells := 0, slots := 0, locals := 0 })).room s m #[.int x0] below meth c s.heap locs 0 0 (MQ below (va_Qi (fun r (_ : Unit) => (fun r : Int32 => iv 0 1 r) r) (fun _ t => t.heap = s.heap) (fun _ : Nat => False)) #[.int x0] s 0 0 (fun _ : Nat => False)) (F0 m 15 ls []) := by
    intro locs ls hS hl
    refine lv_iconst (v := 0) X.1 X.2.1 dJ1_canEncode_9a6ad_15 (by decide +kernel) ?_
    exact sg_zretP X hr (sg_zn (iv_of (iv_c 0 (a := 0) (b := 0) (by decide +kernel)) (a' := 0) (b' := 1) (by decide +kernel))) hlk hS (iv_of (iv_c 0 (a := 0) (b := 0) (by decide +kernel)) (a' := 0) (b' := 1) (by decide +kernel)) dJ1_canEncode_9a6ad_16
  refine lv_if_lt (tgt := 15) X.1 X.2.1 dJ1_canEncode_9a6ad_1 (by decide) (fun c1 => ?_) (fun c1 => ?_)
  · exact B2_15 _ _ hS (lv_sub hl [] rfl)
  · refine lv_iload_n X.1 X.2.1 dJ1_canEncode_9a6ad_4 rfl (lv_at hl 0 rfl) ?_
    refine lv_sipush (v := 255) X.1 X.2.1 dJ1_canEncode_9a6ad_5 (by decide +kernel) ?_
    refine lv_icmp_gt (tgt := 15) X.1 X.2.1 dJ1_canEncode_9a6ad_8 (by decide) (fun c3 => ?_) (fun c3 => ?_)
    · exact B2_15 _ _ hS (lv_sub hl [] rfl)
    · refine lv_iconst (v := 1) X.1 X.2.1 dJ1_canEncode_9a6ad_11 (by decide +kernel) ?_
      refine lv_goto (tgt := 16) X.1 X.2.1 dJ1_canEncode_9a6ad_12 (by decide) ?_
      exact sg_zretP X hr (sg_zn (iv_of (iv_c 1 (a := 1) (b := 1) (by decide +kernel)) (a' := 0) (b' := 1) (by decide +kernel))) hlk hS (iv_of (iv_c 1 (a := 1) (b := 1) (by decide +kernel)) (a' := 0) (b' := 1) (by decide +kernel)) dJ1_canEncode_9a6ad_16

theorem ca_J1_canEncode_9a6ad   (X : CallFix p m c cc nL s args sg_tbl own) (hK : va_K D vwCl tys s) (hG : sgG (KT P) D vwCl (fun q : Nat => base ≤ q) tys ad ks H) (hC : sgC base s) (hA : ∀ q : Nat, A q → base ≤ q) (hS : va_S A s.heap H locs) (hb : base ≤ s.heap.size) (x0 : Int32) (hl : Cond.methodLink own index yJ1_canEncode_9a6ad ∈ sg_tbl) (hsize : ls.size = nL) (hst : st0 = [.int x0].reverse ++ rest) (hW : (rest.map fun v => v.category).sum ≤ 8) (hR : 1 ≤ R.frames ∧ 20 ≤ R.locals) (hf : cells ≤ R.cells ∧ slots ≤ R.slots) (hdg : decode cc pc = .ok (.invokestatic index, 3)) (kk : ∀ (r : Int32) (locs1 : List Loc), (fun r : Int32 => iv 0 1 r) r → va_S A s.heap H locs1 → W p l e R s m args below meth c H locs1 cells slots Q (F0 m (pc + 3) ls (.int r :: rest))) : W p l e R s m args below meth c H locs cells slots Q (F0 m pc ls st0) :=
  sg_callPSi X hK hG hC hA hS hb (m_J1_canEncode_9a6ad l x0) wl_3_98 wl_1_17 wl_3_97 (n := 1) (by decide +kernel) rfl rfl rfl hl hsize hst hW hR hf hdg kk

set_option maxHeartbeats 8000000 in
set_option maxRecDepth 100000 in
theorem m_J1_indexOfChar_4cfef_7 (l : Launch) {D : va_G} {base : Nat} {tys : List (ClassId × FieldType)} {ad ks : List Nat} {P : sgPm} {Hx : Heap} (ta tv : Nat) (tb : List Int32) (x1 : Int32) (x2 : Int32) (h2 : iv 0 2147483647 x2) (x3 : Int32) (h3 : iv (-2147483648) 7 x3) : sgEi l (KT P) D vwCl base tys ad ks Hx ta tv 7 tb yJ1_indexOfChar_4cfef cJ1_indexOfChar_4cfef 6 (some .int) ({ frames := 0, cells := 0, slots := 0, locals := 0 }) [.ref tv, .int x1, .int x2, .int x3] (fun r : Int32 => True) := by
  refine sg_ofE (Pq := fun Hx => va_Qi (fun r (_ : Unit) => (fun r : Int32 => True) r) (fun _ t => t.heap = Hx) (fun _ : Nat => False)) (by decide +kernel) (Nat.le_of_ble_eq_true rfl) (fun p e s m below meth c X hr hlk hb hK hC hG ls hl hp => ?_)
  have hS : va_S (fun _ : Nat => False) s.heap s.heap [] := va_S.rf
  have hl : lv_has ls 6 [(0, .ref tv), (1, .int x1), (2, .int x2), (3, .int x3)] := hl
  refine lv_iload_n X.1 X.2.1 dJ1_indexOfChar_4cfef_0 rfl (lv_at hl 1 rfl) ?_
  obtain ⟨f1, ef1⟩ : ∃ y : Int32, y = (x1 : Int32).toInt8.toInt32 := ⟨_, rfl⟩
  refine lv_i2b (v := f1) X.1 X.2.1 dJ1_indexOfChar_4cfef_1 ef1.symm ?_
  refine lv_istore (lv' := [(4, .int f1), (0, .ref tv), (1, .int x1), (2, .int x2), (3, .int x3)]) X.1 X.2.1 dJ1_indexOfChar_4cfef_2 hl (by decide) rfl (fun ls hl => ?_)
  refine lv_iload_n X.1 X.2.1 dJ1_indexOfChar_4cfef_4 rfl (lv_at hl 3 rfl) ?_
  refine lv_istore (lv' := [(5, .int x2), (4, .int f1), (0, .ref tv), (1, .int x1), (2, .int x2), (3, .int x3)]) X.1 X.2.1 dJ1_indexOfChar_4cfef_5 hl (by decide) rfl (fun ls hl => ?_)
  have B2_7 : ∀ (N : Nat) (locs : List Loc) (ls : Array Slot) (z2_5 : Int32), va_S (fun _ : Nat => False) s.heap s.heap locs → lv_has ls 6 [(0, .ref tv), (3, .int x3), (4, .int f1), (5, .int z2_5)] → iv 0 2147483647 z2_5 → (2147483648 - z2_5.toInt).toNat ≤ N → W p l e (headSpec (Cond.code yJ1_indexOfChar_4cfef cJ1_indexOfChar_4cfef 6 (some .int) :: sg_tbl) ({ frames := 0, cells := 0, slots := 0, locals := 0 })).room s m #[.ref tv, .int x1, .int x2, .int x3] below meth c s.heap locs 0 0 (MQ below (va_Qi (fun r (_ : Unit) => (fun r : Int32 => True) r) (fun _ t => t.heap = s.heap) (fun _ : Nat => False)) #[.ref tv, .int x1, .int x2, .int x3] s 0 0 (fun _ : Nat => False)) (F0 m 7 ls []) := by
    intro N; induction N with
    | zero =>
      intro locs ls z2_5 hS hl hz2_5 hN
      exact absurd hN (by have := iv_up hz2_5; omega)
    | succ N ih2 =>
      intro locs ls z2_5 hS hl hz2_5 hN2
      refine lv_iload X.1 X.2.1 dJ1_indexOfChar_4cfef_7 (lv_at hl 3 rfl) ?_
      refine lv_iload_n X.1 X.2.1 dJ1_indexOfChar_4cfef_9 rfl (lv_at hl 1 rfl) ?_
      refine lv_icmp_ge (tgt := 31) X.1 X.2.1 dJ1_indexOfChar_4cfef_10 (by decide) (fun c3 => ?_) (fun c3 => ?_)
      · refine lv_iconst (v := (-1)) X.1 X.2.1 dJ1_indexOfChar_4cfef_31 (by decide +kernel) ?_
        exact sg_iretP X hr hlk hS trivial dJ1_indexOfChar_4cfef_32
      · refine lv_aload_n X.1 X.2.1 dJ1_indexOfChar_4cfef_13 rfl (lv_at hl 0 rfl) ?_
        refine lv_iload X.1 X.2.1 dJ1_indexOfChar_4cfef_14 (lv_at hl 3 rfl) ?_
        refine va_tb X.1 X.2.1 hp.2.2.2.1 hS (i := z2_5) (iv_vpin (iv_lt (b' := 6) (iv_gt_of c3) hz2_5 h3 (by decide +kernel)) (by decide +kernel)) rfl dJ1_indexOfChar_4cfef_16 ?_
        refine lv_topi (fun f4 ef4 => ?_)
        refine lv_iload X.1 X.2.1 dJ1_indexOfChar_4cfef_17 (lv_at hl 2 rfl) ?_
        refine lv_icmp_ne (tgt := 25) X.1 X.2.1 dJ1_indexOfChar_4cfef_19 (by decide) (fun c5 => ?_) (fun c5 => ?_)
        · obtain ⟨y6, ey6⟩ : ∃ y : Int32, y = z2_5 + Int32.ofInt 1 := ⟨_, rfl⟩
          refine lv_iinc (v := y6) (lv' := [(5, .int y6), (0, .ref tv), (3, .int x3), (4, .int f1)]) X.1 X.2.1 dJ1_indexOfChar_4cfef_25 hl (k := 3) rfl ey6.symm (by decide) rfl (fun ls hl => ?_)
          refine lv_goto (tgt := 7) X.1 X.2.1 dJ1_indexOfChar_4cfef_28 (by decide) ?_
          exact ih2 _ _ y6 hS (lv_sub hl [1, 2, 3, 0] rfl) (iv_of (iv_add (a' := 1) (b' := 7) ey6 (iv_lt (b' := 6) (iv_gt_of c3) hz2_5 h3 (by decide +kernel)) (iv_c _ (a := 1) (b := 1) (by decide +kernel)) (by decide +kernel)) (a' := 0) (b' := 2147483647) (by decide +kernel)) (iv_stepU ey6 (iv_lt (b' := 6) (iv_gt_of c3) hz2_5 h3 (by decide +kernel)) (by decide +kernel) hN2)
        · refine lv_iload X.1 X.2.1 dJ1_indexOfChar_4cfef_22 (lv_at hl 3 rfl) ?_
          exact sg_iretP X hr hlk hS trivial dJ1_indexOfChar_4cfef_24
  exact B2_7 _ _ _ x2 hS (lv_sub hl [2, 5, 1, 0] rfl) h2 (Nat.le_refl _)

theorem ca_J1_indexOfChar_4cfef_7   (X : CallFix p m c cc nL s args sg_tbl own) (hK : va_K D vwCl tys s) (hG : sgG (KT P) D vwCl (fun q : Nat => base ≤ q) tys ad ks H) (hC : sgC base s) (hA : ∀ q : Nat, A q → base ≤ q) (hS : va_S A s.heap H locs)  (hb : base ≤ s.heap.size) {ta tv : Nat} {tb : List Int32} (hp : P_S ta tv 7 tb A s) (x1 : Int32) (x2 : Int32) (h2 : iv 0 2147483647 x2) (x3 : Int32) (h3 : iv (-2147483648) 7 x3) (hl : Cond.methodLink own index yJ1_indexOfChar_4cfef ∈ sg_tbl) (hsize : ls.size = nL) (hst : st0 = [.ref tv, .int x1, .int x2, .int x3].reverse ++ rest) (hW : (rest.map fun v => v.category).sum ≤ 8) (hR : 1 ≤ R.frames ∧ 25 ≤ R.locals) (hf : cells ≤ R.cells ∧ slots ≤ R.slots) (hdg : decode cc pc = .ok (.invokestatic index, 3)) (kk : ∀ (r : Int32) (locs1 : List Loc), (fun r : Int32 => True) r → va_S A s.heap H locs1 → W p l e R s m args below meth c H locs1 cells slots Q (F0 m (pc + 3) ls (.int r :: rest))) : W p l e R s m args below meth c H locs cells slots Q (F0 m pc ls st0) :=
  sg_callESi X hK hG hC hA hS hb hp (m_J1_indexOfChar_4cfef_7 l ta tv tb x1 x2 h2 x3 h3) wl_3_105 wl_1_17 wl_3_104 (n := 4) (by decide +kernel) rfl rfl rfl hl hsize hst hW hR hf hdg kk

set_option maxHeartbeats 8000000 in
set_option maxRecDepth 100000 in
theorem m_J1_indexOf_4cfef_7 (l : Launch) {D : va_G} {base : Nat} {tys : List (ClassId × FieldType)} {ad ks : List Nat} {P : sgPm} {Hx : Heap} (ta tv : Nat) (tb : List Int32) (x1 : Int32) (x2 : Int32) (x3 : Int32) : sgEi l (KT P) D vwCl base tys ad ks Hx ta tv 7 tb yJ1_indexOf_4cfef cJ1_indexOf_4cfef 4 (some .int) ({ frames := 1, cells := 0, slots := 0, locals := 25 }) [.ref tv, .int x1, .int x2, .int x3] (fun r : Int32 => True) := by
  refine sg_ofE (Pq := fun Hx => va_Qi (fun r (_ : Unit) => (fun r : Int32 => True) r) (fun _ t => t.heap = Hx) (fun _ : Nat => False)) (by decide +kernel) (Nat.le_of_ble_eq_true rfl) (fun p e s m below meth c X hr hlk hb hK hC hG ls hl hp => ?_)
  have hS : va_S (fun _ : Nat => False) s.heap s.heap [] := va_S.rf
  have hl : lv_has ls 4 [(0, .ref tv), (1, .int x1), (2, .int x2), (3, .int x3)] := hl
  refine lv_iload_n X.1 X.2.1 dJ1_indexOf_4cfef_0 rfl (lv_at hl 1 rfl) ?_
  refine ca_J1_canEncode_9a6ad X hK hG hC (fun _ h => h.elim) hS hb x1 wl_3_96 hl.1 (rest := []) rfl (Nat.le_of_ble_eq_true rfl) ⟨Nat.le_of_ble_eq_true rfl, Nat.le_of_ble_eq_true rfl⟩ ⟨Nat.le_of_ble_eq_true rfl, Nat.le_of_ble_eq_true rfl⟩ dJ1_indexOf_4cfef_1 (fun f1 locs hf1 hS => ?_)
  refine lv_if_ne (tgt := 9) X.1 X.2.1 dJ1_indexOf_4cfef_4 (by decide) (fun c2 => ?_) (fun c2 => ?_)
  · refine lv_iload_n X.1 X.2.1 dJ1_indexOf_4cfef_9 rfl (lv_at hl 2 rfl) ?_
    refine lv_iconst (v := 0) X.1 X.2.1 dJ1_indexOf_4cfef_10 (by decide +kernel) ?_
    refine va_mmax X.1 X.2.1 (X.2.2.1.trans hl.1.symm) X.2.2.2.1 (X.2.2.2.2 _ wl_3_99) (X.2.2.2.2 _ wl_3_100) (X.2.2.2.2 _ wl_1_15) (X.2.2.2.2 _ wl_3_101) (Nat.le_of_ble_eq_true rfl) (Nat.le_of_ble_eq_true rfl) (Nat.le_of_ble_eq_true rfl) (Nat.le_of_ble_eq_true rfl) dJ1_indexOf_4cfef_11 ?_
    refine lv_topi (fun f3 ef3 => ?_)
    refine lv_istore_n (lv' := [(2, .int f3), (0, .ref tv), (1, .int x1), (3, .int x3)]) X.1 X.2.1 dJ1_indexOf_4cfef_14 rfl hl (by decide) rfl (fun ls hl => ?_)
    refine lv_iload_n X.1 X.2.1 dJ1_indexOf_4cfef_15 rfl (lv_at hl 3 rfl) ?_
    refine lv_aload_n X.1 X.2.1 dJ1_indexOf_4cfef_16 rfl (lv_at hl 1 rfl) ?_
    refine va_tlen X.1 X.2.1 hp.2.2.2.1 hS (v := 7) rfl dJ1_indexOf_4cfef_17 ?_
    refine va_mmin X.1 X.2.1 (X.2.2.1.trans hl.1.symm) X.2.2.2.1 (X.2.2.2.2 _ wl_3_102) (X.2.2.2.2 _ wl_3_64) (X.2.2.2.2 _ wl_1_15) (X.2.2.2.2 _ wl_3_65) (Nat.le_of_ble_eq_true rfl) (Nat.le_of_ble_eq_true rfl) (Nat.le_of_ble_eq_true rfl) (Nat.le_of_ble_eq_true rfl) dJ1_indexOf_4cfef_18 ?_
    refine lv_topi (fun f4 ef4 => ?_)
    refine lv_istore_n (lv' := [(3, .int f4), (2, .int f3), (0, .ref tv), (1, .int x1)]) X.1 X.2.1 dJ1_indexOf_4cfef_21 rfl hl (by decide) rfl (fun ls hl => ?_)
    refine lv_iload_n X.1 X.2.1 dJ1_indexOf_4cfef_22 rfl (lv_at hl 1 rfl) ?_
    refine lv_iload_n X.1 X.2.1 dJ1_indexOf_4cfef_23 rfl (lv_at hl 0 rfl) ?_
    refine lv_icmp_lt (tgt := 29) X.1 X.2.1 dJ1_indexOf_4cfef_24 (by decide) (fun c5 => ?_) (fun c5 => ?_)
    · refine lv_aload_n X.1 X.2.1 dJ1_indexOf_4cfef_29 rfl (lv_at hl 2 rfl) ?_
      refine lv_iload_n X.1 X.2.1 dJ1_indexOf_4cfef_30 rfl (lv_at hl 3 rfl) ?_
      refine lv_iload_n X.1 X.2.1 dJ1_indexOf_4cfef_31 rfl (lv_at hl 1 rfl) ?_
      refine lv_iload_n X.1 X.2.1 dJ1_indexOf_4cfef_32 rfl (lv_at hl 0 rfl) ?_
      refine ca_J1_indexOfChar_4cfef_7 X hK hG hC (fun _ h => h.elim) hS hb hp x1 f3 (iv_of (iv_lt (b' := 6) c5 (iv_max (a' := 0) (b' := 2147483647) ef3 (iv_top x2) (iv_c 0 (a := 0) (b := 0) (by decide +kernel)) (by decide +kernel)) (iv_min (a' := (-2147483648)) (b' := 7) ef4 (iv_top x3) (iv_c 7 (a := 7) (b := 7) (by decide +kernel)) (by decide +kernel)) (by decide +kernel)) (a' := 0) (b' := 2147483647) (by decide +kernel)) f4 (iv_of (iv_ltr (c' := 1) c5 (iv_max (a' := 0) (b' := 2147483647) ef3 (iv_top x2) (iv_c 0 (a := 0) (b := 0) (by decide +kernel)) (by decide +kernel)) (iv_min (a' := (-2147483648)) (b' := 7) ef4 (iv_top x3) (iv_c 7 (a := 7) (b := 7) (by decide +kernel)) (by decide +kernel)) (by decide +kernel)) (a' := (-2147483648)) (b' := 7) (by decide +kernel)) wl_3_103 hl.1 (rest := []) rfl (Nat.le_of_ble_eq_true rfl) ⟨Nat.le_of_ble_eq_true rfl, Nat.le_of_ble_eq_true rfl⟩ ⟨Nat.le_of_ble_eq_true rfl, Nat.le_of_ble_eq_true rfl⟩ dJ1_indexOf_4cfef_33 (fun f6 locs hf6 hS => ?_)
      exact sg_iretP X hr hlk hS trivial dJ1_indexOf_4cfef_36
    · refine lv_iconst (v := (-1)) X.1 X.2.1 dJ1_indexOf_4cfef_27 (by decide +kernel) ?_
      exact sg_iretP X hr hlk hS trivial dJ1_indexOf_4cfef_28
  · refine lv_iconst (v := (-1)) X.1 X.2.1 dJ1_indexOf_4cfef_7 (by decide +kernel) ?_
    exact sg_iretP X hr hlk hS trivial dJ1_indexOf_4cfef_8

theorem ca_J1_indexOf_4cfef_7   (X : CallFix p m c cc nL s args sg_tbl own) (hK : va_K D vwCl tys s) (hG : sgG (KT P) D vwCl (fun q : Nat => base ≤ q) tys ad ks H) (hC : sgC base s) (hA : ∀ q : Nat, A q → base ≤ q) (hS : va_S A s.heap H locs)  (hb : base ≤ s.heap.size) {ta tv : Nat} {tb : List Int32} (hp : P_S ta tv 7 tb A s) (x1 : Int32) (x2 : Int32) (x3 : Int32) (hl : Cond.methodLink own index yJ1_indexOf_4cfef ∈ sg_tbl) (hsize : ls.size = nL) (hst : st0 = [.ref tv, .int x1, .int x2, .int x3].reverse ++ rest) (hW : (rest.map fun v => v.category).sum ≤ 8) (hR : 2 ≤ R.frames ∧ 48 ≤ R.locals) (hf : cells ≤ R.cells ∧ slots ≤ R.slots) (hdg : decode cc pc = .ok (.invokestatic index, 3)) (kk : ∀ (r : Int32) (locs1 : List Loc), (fun r : Int32 => True) r → va_S A s.heap H locs1 → W p l e R s m args below meth c H locs1 cells slots Q (F0 m (pc + 3) ls (.int r :: rest))) : W p l e R s m args below meth c H locs cells slots Q (F0 m pc ls st0) :=
  sg_callESi X hK hG hC hA hS hb hp (m_J1_indexOf_4cfef_7 l ta tv tb x1 x2 x3) wl_3_95 wl_1_17 wl_3_94 (n := 4) (by decide +kernel) rfl rfl rfl hl hsize hst hW hR hf hdg kk
end
