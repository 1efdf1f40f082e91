abbrev cX10_demand : ByteArray := prog_12_method_9_code
def yX10_demand : MethodName := ⟨RX10, "demand", "(I)Z"⟩
abbrev cX10_ended : ByteArray := prog_12_method_10_code
def yX10_ended : MethodName := ⟨RX10, "ended", "()Z"⟩
abbrev cX10_number : ByteArray := prog_12_method_11_code
def yX10_number : MethodName := ⟨RX10, "number", "(III)I"⟩
abbrev cX10_rewind : ByteArray := prog_12_method_4_code
def yX10_rewind : MethodName := ⟨RX10, "rewind", "()V"⟩
abbrev cX10_sign : ByteArray := prog_12_method_5_code
def yX10_sign : MethodName := ⟨RX10, "sign", "()I"⟩
abbrev cX10_step : ByteArray := prog_12_method_6_code
def yX10_step : MethodName := ⟨RX10, "step", "()V"⟩
abbrev cX10_wrong : ByteArray := prog_12_method_7_code
def yX10_wrong : MethodName := ⟨RX10, "wrong", "()Z"⟩
abbrev cX10_wrongAsWhole : ByteArray := prog_12_method_8_code
def yX10_wrongAsWhole : MethodName := ⟨RX10, "wrongAsWhole", "()Z"⟩
abbrev cX3_read : ByteArray := prog_5_method_4_code
def yX3_read : MethodName := ⟨RX3, "read", "(LLawnAhead$Tape;)Z"⟩
abbrev cX3_readCut : ByteArray := prog_5_method_6_code
def yX3_readCut : MethodName := ⟨RX3, "readCut", "(LLawnAhead$Tape;I)I"⟩
abbrev cX3_readMove : ByteArray := prog_5_method_5_code
def yX3_readMove : MethodName := ⟨RX3, "readMove", "(LLawnAhead$Tape;)I"⟩
abbrev cX4_isWhole : ByteArray := prog_6_method_8_code
def yX4_isWhole : MethodName := ⟨RX4, "isWhole", "()Z"⟩
abbrev cX4_mayCome : ByteArray := prog_6_method_5_code
def yX4_mayCome : MethodName := ⟨RX4, "mayCome", "(I)Z"⟩
abbrev cX4_readSpot : ByteArray := prog_6_method_7_code
def yX4_readSpot : MethodName := ⟨RX4, "readSpot", "(LLawnAhead$Tape;Z)Z"⟩
theorem dX10_demand_0 : decode cX10_demand 0 = .ok (.aload_n 0, 1) := by decide +kernel
theorem dX10_demand_1 : decode cX10_demand 1 = .ok (.invokevirtual 31, 3) := by decide +kernel
theorem dX10_demand_4 : decode cX10_demand 4 = .ok (.iload_n 1, 1) := by decide +kernel
theorem dX10_demand_5 : decode cX10_demand 5 = .ok (.if_icmp .eq 8, 3) := by decide +kernel
theorem dX10_demand_8 : decode cX10_demand 8 = .ok (.aload_n 0, 1) := by decide +kernel
theorem dX10_demand_9 : decode cX10_demand 9 = .ok (.invokevirtual 35, 3) := by decide +kernel
theorem dX10_demand_12 : decode cX10_demand 12 = .ok (.ireturn, 1) := by decide +kernel
theorem dX10_demand_13 : decode cX10_demand 13 = .ok (.aload_n 0, 1) := by decide +kernel
theorem dX10_demand_14 : decode cX10_demand 14 = .ok (.invokevirtual 39, 3) := by decide +kernel
theorem dX10_demand_17 : decode cX10_demand 17 = .ok (.iconst 1, 1) := by decide +kernel
theorem dX10_demand_18 : decode cX10_demand 18 = .ok (.ireturn, 1) := by decide +kernel
theorem dX10_ended_0 : decode cX10_ended 0 = .ok (.aload_n 0, 1) := by decide +kernel
theorem dX10_ended_1 : decode cX10_ended 1 = .ok (.invokevirtual 31, 3) := by decide +kernel
theorem dX10_ended_4 : decode cX10_ended 4 = .ok (.ifCond .eq 10, 3) := by decide +kernel
theorem dX10_ended_7 : decode cX10_ended 7 = .ok (.aload_n 0, 1) := by decide +kernel
theorem dX10_ended_8 : decode cX10_ended 8 = .ok (.invokevirtual 35, 3) := by decide +kernel
theorem dX10_ended_11 : decode cX10_ended 11 = .ok (.ifCond .eq 7, 3) := by decide +kernel
theorem dX10_ended_14 : decode cX10_ended 14 = .ok (.iconst 1, 1) := by decide +kernel
theorem dX10_ended_15 : decode cX10_ended 15 = .ok (.goto 4, 3) := by decide +kernel
theorem dX10_ended_18 : decode cX10_ended 18 = .ok (.iconst 0, 1) := by decide +kernel
theorem dX10_ended_19 : decode cX10_ended 19 = .ok (.ireturn, 1) := by decide +kernel
theorem dX10_number_0 : decode cX10_number 0 = .ok (.iconst 0, 1) := by decide +kernel
theorem dX10_number_1 : decode cX10_number 1 = .ok (.istore 4, 2) := by decide +kernel
theorem dX10_number_3 : decode cX10_number 3 = .ok (.iconst 0, 1) := by decide +kernel
theorem dX10_number_4 : decode cX10_number 4 = .ok (.istore 5, 2) := by decide +kernel
theorem dX10_number_6 : decode cX10_number 6 = .ok (.aload_n 0, 1) := by decide +kernel
theorem dX10_number_7 : decode cX10_number 7 = .ok (.getfield 22, 3) := by decide +kernel
theorem dX10_number_10 : decode cX10_number 10 = .ok (.aload_n 0, 1) := by decide +kernel
theorem dX10_number_11 : decode cX10_number 11 = .ok (.getfield 15, 3) := by decide +kernel
theorem dX10_number_14 : decode cX10_number 14 = .ok (.if_icmp .ge 83, 3) := by decide +kernel
theorem dX10_number_17 : decode cX10_number 17 = .ok (.aload_n 0, 1) := by decide +kernel
theorem dX10_number_18 : decode cX10_number 18 = .ok (.getfield 11, 3) := by decide +kernel
theorem dX10_number_21 : decode cX10_number 21 = .ok (.aload_n 0, 1) := by decide +kernel
theorem dX10_number_22 : decode cX10_number 22 = .ok (.getfield 22, 3) := by decide +kernel
theorem dX10_number_25 : decode cX10_number 25 = .ok (.iaload, 1) := by decide +kernel
theorem dX10_number_26 : decode cX10_number 26 = .ok (.bipush 48, 2) := by decide +kernel
theorem dX10_number_28 : decode cX10_number 28 = .ok (.if_icmp .lt 69, 3) := by decide +kernel
theorem dX10_number_31 : decode cX10_number 31 = .ok (.aload_n 0, 1) := by decide +kernel
theorem dX10_number_32 : decode cX10_number 32 = .ok (.getfield 11, 3) := by decide +kernel
theorem dX10_number_35 : decode cX10_number 35 = .ok (.aload_n 0, 1) := by decide +kernel
theorem dX10_number_36 : decode cX10_number 36 = .ok (.getfield 22, 3) := by decide +kernel
theorem dX10_number_39 : decode cX10_number 39 = .ok (.iaload, 1) := by decide +kernel
theorem dX10_number_40 : decode cX10_number 40 = .ok (.bipush 57, 2) := by decide +kernel
theorem dX10_number_42 : decode cX10_number 42 = .ok (.if_icmp .gt 55, 3) := by decide +kernel
theorem dX10_number_45 : decode cX10_number 45 = .ok (.iload 5, 2) := by decide +kernel
theorem dX10_number_47 : decode cX10_number 47 = .ok (.iload_n 1, 1) := by decide +kernel
theorem dX10_number_48 : decode cX10_number 48 = .ok (.if_icmp .ne 13, 3) := by decide +kernel
theorem dX10_number_51 : decode cX10_number 51 = .ok (.aload_n 0, 1) := by decide +kernel
theorem dX10_number_52 : decode cX10_number 52 = .ok (.aload_n 0, 1) := by decide +kernel
theorem dX10_number_53 : decode cX10_number 53 = .ok (.getfield 22, 3) := by decide +kernel
theorem dX10_number_56 : decode cX10_number 56 = .ok (.putfield 19, 3) := by decide +kernel
theorem dX10_number_59 : decode cX10_number 59 = .ok (.iconst (-1), 1) := by decide +kernel
theorem dX10_number_60 : decode cX10_number 60 = .ok (.ireturn, 1) := by decide +kernel
theorem dX10_number_61 : decode cX10_number 61 = .ok (.iload 4, 2) := by decide +kernel
theorem dX10_number_63 : decode cX10_number 63 = .ok (.bipush 10, 2) := by decide +kernel
theorem dX10_number_65 : decode cX10_number 65 = .ok (.imul, 1) := by decide +kernel
theorem dX10_number_66 : decode cX10_number 66 = .ok (.aload_n 0, 1) := by decide +kernel
theorem dX10_number_67 : decode cX10_number 67 = .ok (.getfield 11, 3) := by decide +kernel
theorem dX10_number_70 : decode cX10_number 70 = .ok (.aload_n 0, 1) := by decide +kernel
theorem dX10_number_71 : decode cX10_number 71 = .ok (.getfield 22, 3) := by decide +kernel
theorem dX10_number_74 : decode cX10_number 74 = .ok (.iaload, 1) := by decide +kernel
theorem dX10_number_75 : decode cX10_number 75 = .ok (.iadd, 1) := by decide +kernel
theorem dX10_number_76 : decode cX10_number 76 = .ok (.bipush 48, 2) := by decide +kernel
theorem dX10_number_78 : decode cX10_number 78 = .ok (.isub, 1) := by decide +kernel
theorem dX10_number_79 : decode cX10_number 79 = .ok (.istore 4, 2) := by decide +kernel
theorem dX10_number_81 : decode cX10_number 81 = .ok (.iinc 5 1, 3) := by decide +kernel
theorem dX10_number_84 : decode cX10_number 84 = .ok (.aload_n 0, 1) := by decide +kernel
theorem dX10_number_85 : decode cX10_number 85 = .ok (.dup, 1) := by decide +kernel
theorem dX10_number_86 : decode cX10_number 86 = .ok (.getfield 22, 3) := by decide +kernel
theorem dX10_number_89 : decode cX10_number 89 = .ok (.iconst 1, 1) := by decide +kernel
theorem dX10_number_90 : decode cX10_number 90 = .ok (.iadd, 1) := by decide +kernel
theorem dX10_number_91 : decode cX10_number 91 = .ok (.putfield 22, 3) := by decide +kernel
theorem dX10_number_94 : decode cX10_number 94 = .ok (.goto (-88), 3) := by decide +kernel
theorem dX10_number_97 : decode cX10_number 97 = .ok (.iload 5, 2) := by decide +kernel
theorem dX10_number_99 : decode cX10_number 99 = .ok (.ifCond .eq 15, 3) := by decide +kernel
theorem dX10_number_102 : decode cX10_number 102 = .ok (.iload 4, 2) := by decide +kernel
theorem dX10_number_104 : decode cX10_number 104 = .ok (.iload_n 2, 1) := by decide +kernel
theorem dX10_number_105 : decode cX10_number 105 = .ok (.if_icmp .lt 9, 3) := by decide +kernel
theorem dX10_number_108 : decode cX10_number 108 = .ok (.iload 4, 2) := by decide +kernel
theorem dX10_number_110 : decode cX10_number 110 = .ok (.iload_n 3, 1) := by decide +kernel
theorem dX10_number_111 : decode cX10_number 111 = .ok (.if_icmp .le 27, 3) := by decide +kernel
theorem dX10_number_114 : decode cX10_number 114 = .ok (.aload_n 0, 1) := by decide +kernel
theorem dX10_number_115 : decode cX10_number 115 = .ok (.iload 5, 2) := by decide +kernel
theorem dX10_number_117 : decode cX10_number 117 = .ok (.ifCond .ne 10, 3) := by decide +kernel
theorem dX10_number_120 : decode cX10_number 120 = .ok (.aload_n 0, 1) := by decide +kernel
theorem dX10_number_121 : decode cX10_number 121 = .ok (.getfield 22, 3) := by decide +kernel
theorem dX10_number_124 : decode cX10_number 124 = .ok (.goto 9, 3) := by decide +kernel
theorem dX10_number_127 : decode cX10_number 127 = .ok (.aload_n 0, 1) := by decide +kernel
theorem dX10_number_128 : decode cX10_number 128 = .ok (.getfield 22, 3) := by decide +kernel
theorem dX10_number_131 : decode cX10_number 131 = .ok (.iconst 1, 1) := by decide +kernel
theorem dX10_number_132 : decode cX10_number 132 = .ok (.isub, 1) := by decide +kernel
theorem dX10_number_133 : decode cX10_number 133 = .ok (.putfield 19, 3) := by decide +kernel
theorem dX10_number_136 : decode cX10_number 136 = .ok (.iconst (-1), 1) := by decide +kernel
theorem dX10_number_137 : decode cX10_number 137 = .ok (.ireturn, 1) := by decide +kernel
theorem dX10_number_138 : decode cX10_number 138 = .ok (.aload_n 0, 1) := by decide +kernel
theorem dX10_number_139 : decode cX10_number 139 = .ok (.getfield 22, 3) := by decide +kernel
theorem dX10_number_142 : decode cX10_number 142 = .ok (.aload_n 0, 1) := by decide +kernel
theorem dX10_number_143 : decode cX10_number 143 = .ok (.getfield 15, 3) := by decide +kernel
theorem dX10_number_146 : decode cX10_number 146 = .ok (.if_icmp .ge 30, 3) := by decide +kernel
theorem dX10_number_149 : decode cX10_number 149 = .ok (.aload_n 0, 1) := by decide +kernel
theorem dX10_number_150 : decode cX10_number 150 = .ok (.getfield 11, 3) := by decide +kernel
theorem dX10_number_153 : decode cX10_number 153 = .ok (.aload_n 0, 1) := by decide +kernel
theorem dX10_number_154 : decode cX10_number 154 = .ok (.getfield 22, 3) := by decide +kernel
theorem dX10_number_157 : decode cX10_number 157 = .ok (.iaload, 1) := by decide +kernel
theorem dX10_number_158 : decode cX10_number 158 = .ok (.bipush 32, 2) := by decide +kernel
theorem dX10_number_160 : decode cX10_number 160 = .ok (.if_icmp .ne 16, 3) := by decide +kernel
theorem dX10_number_163 : decode cX10_number 163 = .ok (.aload_n 0, 1) := by decide +kernel
theorem dX10_number_164 : decode cX10_number 164 = .ok (.dup, 1) := by decide +kernel
theorem dX10_number_165 : decode cX10_number 165 = .ok (.getfield 22, 3) := by decide +kernel
theorem dX10_number_168 : decode cX10_number 168 = .ok (.iconst 1, 1) := by decide +kernel
theorem dX10_number_169 : decode cX10_number 169 = .ok (.iadd, 1) := by decide +kernel
theorem dX10_number_170 : decode cX10_number 170 = .ok (.putfield 22, 3) := by decide +kernel
theorem dX10_number_173 : decode cX10_number 173 = .ok (.goto (-35), 3) := by decide +kernel
theorem dX10_number_176 : decode cX10_number 176 = .ok (.iload 4, 2) := by decide +kernel
theorem dX10_number_178 : decode cX10_number 178 = .ok (.ireturn, 1) := by decide +kernel
theorem dX10_rewind_0 : decode cX10_rewind 0 = .ok (.aload_n 0, 1) := by decide +kernel
theorem dX10_rewind_1 : decode cX10_rewind 1 = .ok (.iconst (-1), 1) := by decide +kernel
theorem dX10_rewind_2 : decode cX10_rewind 2 = .ok (.putfield 19, 3) := by decide +kernel
theorem dX10_rewind_5 : decode cX10_rewind 5 = .ok (.aload_n 0, 1) := by decide +kernel
theorem dX10_rewind_6 : decode cX10_rewind 6 = .ok (.iconst 0, 1) := by decide +kernel
theorem dX10_rewind_7 : decode cX10_rewind 7 = .ok (.putfield 22, 3) := by decide +kernel
theorem dX10_rewind_10 : decode cX10_rewind 10 = .ok (.aload_n 0, 1) := by decide +kernel
theorem dX10_rewind_11 : decode cX10_rewind 11 = .ok (.getfield 22, 3) := by decide +kernel
theorem dX10_rewind_14 : decode cX10_rewind 14 = .ok (.aload_n 0, 1) := by decide +kernel
theorem dX10_rewind_15 : decode cX10_rewind 15 = .ok (.getfield 15, 3) := by decide +kernel
theorem dX10_rewind_18 : decode cX10_rewind 18 = .ok (.if_icmp .ge 30, 3) := by decide +kernel
theorem dX10_rewind_21 : decode cX10_rewind 21 = .ok (.aload_n 0, 1) := by decide +kernel
theorem dX10_rewind_22 : decode cX10_rewind 22 = .ok (.getfield 11, 3) := by decide +kernel
theorem dX10_rewind_25 : decode cX10_rewind 25 = .ok (.aload_n 0, 1) := by decide +kernel
theorem dX10_rewind_26 : decode cX10_rewind 26 = .ok (.getfield 22, 3) := by decide +kernel
theorem dX10_rewind_29 : decode cX10_rewind 29 = .ok (.iaload, 1) := by decide +kernel
theorem dX10_rewind_30 : decode cX10_rewind 30 = .ok (.bipush 32, 2) := by decide +kernel
theorem dX10_rewind_32 : decode cX10_rewind 32 = .ok (.if_icmp .ne 16, 3) := by decide +kernel
theorem dX10_rewind_35 : decode cX10_rewind 35 = .ok (.aload_n 0, 1) := by decide +kernel
theorem dX10_rewind_36 : decode cX10_rewind 36 = .ok (.dup, 1) := by decide +kernel
theorem dX10_rewind_37 : decode cX10_rewind 37 = .ok (.getfield 22, 3) := by decide +kernel
theorem dX10_rewind_40 : decode cX10_rewind 40 = .ok (.iconst 1, 1) := by decide +kernel
theorem dX10_rewind_41 : decode cX10_rewind 41 = .ok (.iadd, 1) := by decide +kernel
theorem dX10_rewind_42 : decode cX10_rewind 42 = .ok (.putfield 22, 3) := by decide +kernel
theorem dX10_rewind_45 : decode cX10_rewind 45 = .ok (.goto (-35), 3) := by decide +kernel
theorem dX10_rewind_48 : decode cX10_rewind 48 = .ok (.return_, 1) := by decide +kernel
theorem dX10_sign_0 : decode cX10_sign 0 = .ok (.aload_n 0, 1) := by decide +kernel
theorem dX10_sign_1 : decode cX10_sign 1 = .ok (.getfield 22, 3) := by decide +kernel
theorem dX10_sign_4 : decode cX10_sign 4 = .ok (.aload_n 0, 1) := by decide +kernel
theorem dX10_sign_5 : decode cX10_sign 5 = .ok (.getfield 15, 3) := by decide +kernel
theorem dX10_sign_8 : decode cX10_sign 8 = .ok (.if_icmp .ge 15, 3) := by decide +kernel
theorem dX10_sign_11 : decode cX10_sign 11 = .ok (.aload_n 0, 1) := by decide +kernel
theorem dX10_sign_12 : decode cX10_sign 12 = .ok (.getfield 11, 3) := by decide +kernel
theorem dX10_sign_15 : decode cX10_sign 15 = .ok (.aload_n 0, 1) := by decide +kernel
theorem dX10_sign_16 : decode cX10_sign 16 = .ok (.getfield 22, 3) := by decide +kernel
theorem dX10_sign_19 : decode cX10_sign 19 = .ok (.iaload, 1) := by decide +kernel
theorem dX10_sign_20 : decode cX10_sign 20 = .ok (.goto 4, 3) := by decide +kernel
theorem dX10_sign_23 : decode cX10_sign 23 = .ok (.iconst 0, 1) := by decide +kernel
theorem dX10_sign_24 : decode cX10_sign 24 = .ok (.ireturn, 1) := by decide +kernel
theorem dX10_step_0 : decode cX10_step 0 = .ok (.aload_n 0, 1) := by decide +kernel
theorem dX10_step_1 : decode cX10_step 1 = .ok (.dup, 1) := by decide +kernel
theorem dX10_step_2 : decode cX10_step 2 = .ok (.getfield 22, 3) := by decide +kernel
theorem dX10_step_5 : decode cX10_step 5 = .ok (.iconst 1, 1) := by decide +kernel
theorem dX10_step_6 : decode cX10_step 6 = .ok (.iadd, 1) := by decide +kernel
theorem dX10_step_7 : decode cX10_step 7 = .ok (.putfield 22, 3) := by decide +kernel
theorem dX10_step_10 : decode cX10_step 10 = .ok (.aload_n 0, 1) := by decide +kernel
theorem dX10_step_11 : decode cX10_step 11 = .ok (.getfield 22, 3) := by decide +kernel
theorem dX10_step_14 : decode cX10_step 14 = .ok (.aload_n 0, 1) := by decide +kernel
theorem dX10_step_15 : decode cX10_step 15 = .ok (.getfield 15, 3) := by decide +kernel
theorem dX10_step_18 : decode cX10_step 18 = .ok (.if_icmp .ge 30, 3) := by decide +kernel
theorem dX10_step_21 : decode cX10_step 21 = .ok (.aload_n 0, 1) := by decide +kernel
theorem dX10_step_22 : decode cX10_step 22 = .ok (.getfield 11, 3) := by decide +kernel
theorem dX10_step_25 : decode cX10_step 25 = .ok (.aload_n 0, 1) := by decide +kernel
theorem dX10_step_26 : decode cX10_step 26 = .ok (.getfield 22, 3) := by decide +kernel
theorem dX10_step_29 : decode cX10_step 29 = .ok (.iaload, 1) := by decide +kernel
theorem dX10_step_30 : decode cX10_step 30 = .ok (.bipush 32, 2) := by decide +kernel
theorem dX10_step_32 : decode cX10_step 32 = .ok (.if_icmp .ne 16, 3) := by decide +kernel
theorem dX10_step_35 : decode cX10_step 35 = .ok (.aload_n 0, 1) := by decide +kernel
theorem dX10_step_36 : decode cX10_step 36 = .ok (.dup, 1) := by decide +kernel
theorem dX10_step_37 : decode cX10_step 37 = .ok (.getfield 22, 3) := by decide +kernel
theorem dX10_step_40 : decode cX10_step 40 = .ok (.iconst 1, 1) := by decide +kernel
theorem dX10_step_41 : decode cX10_step 41 = .ok (.iadd, 1) := by decide +kernel
theorem dX10_step_42 : decode cX10_step 42 = .ok (.putfield 22, 3) := by decide +kernel
theorem dX10_step_45 : decode cX10_step 45 = .ok (.goto (-35), 3) := by decide +kernel
theorem dX10_step_48 : decode cX10_step 48 = .ok (.aload_n 0, 1) := by decide +kernel
theorem dX10_step_49 : decode cX10_step 49 = .ok (.aload_n 0, 1) := by decide +kernel
theorem dX10_step_50 : decode cX10_step 50 = .ok (.getfield 22, 3) := by decide +kernel
theorem dX10_step_53 : decode cX10_step 53 = .ok (.aload_n 0, 1) := by decide +kernel
theorem dX10_step_54 : decode cX10_step 54 = .ok (.getfield 15, 3) := by decide +kernel
theorem dX10_step_57 : decode cX10_step 57 = .ok (.invokestatic 25, 3) := by decide +kernel
theorem dX10_step_60 : decode cX10_step 60 = .ok (.putfield 22, 3) := by decide +kernel
theorem dX10_step_63 : decode cX10_step 63 = .ok (.return_, 1) := by decide +kernel
theorem dX10_wrong_0 : decode cX10_wrong 0 = .ok (.aload_n 0, 1) := by decide +kernel
theorem dX10_wrong_1 : decode cX10_wrong 1 = .ok (.aload_n 0, 1) := by decide +kernel
theorem dX10_wrong_2 : decode cX10_wrong 2 = .ok (.getfield 22, 3) := by decide +kernel
theorem dX10_wrong_5 : decode cX10_wrong 5 = .ok (.putfield 19, 3) := by decide +kernel
theorem dX10_wrong_8 : decode cX10_wrong 8 = .ok (.iconst 0, 1) := by decide +kernel
theorem dX10_wrong_9 : decode cX10_wrong 9 = .ok (.ireturn, 1) := by decide +kernel
theorem dX10_wrongAsWhole_0 : decode cX10_wrongAsWhole 0 = .ok (.aload_n 0, 1) := by decide +kernel
theorem dX10_wrongAsWhole_1 : decode cX10_wrongAsWhole 1 = .ok (.aload_n 0, 1) := by decide +kernel
theorem dX10_wrongAsWhole_2 : decode cX10_wrongAsWhole 2 = .ok (.getfield 15, 3) := by decide +kernel
theorem dX10_wrongAsWhole_5 : decode cX10_wrongAsWhole 5 = .ok (.putfield 19, 3) := by decide +kernel
theorem dX10_wrongAsWhole_8 : decode cX10_wrongAsWhole 8 = .ok (.iconst 0, 1) := by decide +kernel
theorem dX10_wrongAsWhole_9 : decode cX10_wrongAsWhole 9 = .ok (.ireturn, 1) := by decide +kernel
theorem dX3_read_0 : decode cX3_read 0 = .ok (.aload_n 1, 1) := by decide +kernel
theorem dX3_read_1 : decode cX3_read 1 = .ok (.invokevirtual 15, 3) := by decide +kernel
theorem dX3_read_4 : decode cX3_read 4 = .ok (.aload_n 0, 1) := by decide +kernel
theorem dX3_read_5 : decode cX3_read 5 = .ok (.iconst 0, 1) := by decide +kernel
theorem dX3_read_6 : decode cX3_read 6 = .ok (.putfield 20, 3) := by decide +kernel
theorem dX3_read_9 : decode cX3_read 9 = .ok (.aload_n 0, 1) := by decide +kernel
theorem dX3_read_10 : decode cX3_read 10 = .ok (.iconst 0, 1) := by decide +kernel
theorem dX3_read_11 : decode cX3_read 11 = .ok (.putfield 24, 3) := by decide +kernel
theorem dX3_read_14 : decode cX3_read 14 = .ok (.iconst 0, 1) := by decide +kernel
theorem dX3_read_15 : decode cX3_read 15 = .ok (.istore_n 2, 1) := by decide +kernel
theorem dX3_read_16 : decode cX3_read 16 = .ok (.iload_n 2, 1) := by decide +kernel
theorem dX3_read_17 : decode cX3_read 17 = .ok (.bipush 16, 2) := by decide +kernel
theorem dX3_read_19 : decode cX3_read 19 = .ok (.if_icmp .ge 61, 3) := by decide +kernel
theorem dX3_read_22 : decode cX3_read 22 = .ok (.aload_n 0, 1) := by decide +kernel
theorem dX3_read_23 : decode cX3_read 23 = .ok (.aload_n 1, 1) := by decide +kernel
theorem dX3_read_24 : decode cX3_read 24 = .ok (.invokevirtual 27, 3) := by decide +kernel
theorem dX3_read_27 : decode cX3_read 27 = .ok (.istore_n 3, 1) := by decide +kernel
theorem dX3_read_28 : decode cX3_read 28 = .ok (.iload_n 3, 1) := by decide +kernel
theorem dX3_read_29 : decode cX3_read 29 = .ok (.iconst (-1), 1) := by decide +kernel
theorem dX3_read_30 : decode cX3_read 30 = .ok (.if_icmp .ne 5, 3) := by decide +kernel
theorem dX3_read_33 : decode cX3_read 33 = .ok (.iconst 0, 1) := by decide +kernel
theorem dX3_read_34 : decode cX3_read 34 = .ok (.ireturn, 1) := by decide +kernel
theorem dX3_read_35 : decode cX3_read 35 = .ok (.aload_n 0, 1) := by decide +kernel
theorem dX3_read_36 : decode cX3_read 36 = .ok (.getfield 11, 3) := by decide +kernel
theorem dX3_read_39 : decode cX3_read 39 = .ok (.iload_n 2, 1) := by decide +kernel
theorem dX3_read_40 : decode cX3_read 40 = .ok (.iload_n 3, 1) := by decide +kernel
theorem dX3_read_41 : decode cX3_read 41 = .ok (.iastore, 1) := by decide +kernel
theorem dX3_read_42 : decode cX3_read 42 = .ok (.aload_n 0, 1) := by decide +kernel
theorem dX3_read_43 : decode cX3_read 43 = .ok (.iload_n 2, 1) := by decide +kernel
theorem dX3_read_44 : decode cX3_read 44 = .ok (.iconst 1, 1) := by decide +kernel
theorem dX3_read_45 : decode cX3_read 45 = .ok (.iadd, 1) := by decide +kernel
theorem dX3_read_46 : decode cX3_read 46 = .ok (.putfield 24, 3) := by decide +kernel
theorem dX3_read_49 : decode cX3_read 49 = .ok (.aload_n 1, 1) := by decide +kernel
theorem dX3_read_50 : decode cX3_read 50 = .ok (.invokevirtual 31, 3) := by decide +kernel
theorem dX3_read_53 : decode cX3_read 53 = .ok (.bipush 59, 2) := by decide +kernel
theorem dX3_read_55 : decode cX3_read 55 = .ok (.if_icmp .ne 25, 3) := by decide +kernel
theorem dX3_read_58 : decode cX3_read 58 = .ok (.aload_n 0, 1) := by decide +kernel
theorem dX3_read_59 : decode cX3_read 59 = .ok (.getfield 24, 3) := by decide +kernel
theorem dX3_read_62 : decode cX3_read 62 = .ok (.bipush 16, 2) := by decide +kernel
theorem dX3_read_64 : decode cX3_read 64 = .ok (.if_icmp .ne 6, 3) := by decide +kernel
theorem dX3_read_67 : decode cX3_read 67 = .ok (.goto 13, 3) := by decide +kernel
theorem dX3_read_70 : decode cX3_read 70 = .ok (.aload_n 1, 1) := by decide +kernel
theorem dX3_read_71 : decode cX3_read 71 = .ok (.invokevirtual 35, 3) := by decide +kernel
theorem dX3_read_74 : decode cX3_read 74 = .ok (.iinc 2 1, 3) := by decide +kernel
theorem dX3_read_77 : decode cX3_read 77 = .ok (.goto (-61), 3) := by decide +kernel
theorem dX3_read_80 : decode cX3_read 80 = .ok (.aload_n 1, 1) := by decide +kernel
theorem dX3_read_81 : decode cX3_read 81 = .ok (.invokevirtual 38, 3) := by decide +kernel
theorem dX3_read_84 : decode cX3_read 84 = .ok (.ireturn, 1) := by decide +kernel
theorem dX3_readCut_0 : decode cX3_readCut 0 = .ok (.aload_n 0, 1) := by decide +kernel
theorem dX3_readCut_1 : decode cX3_readCut 1 = .ok (.invokevirtual 31, 3) := by decide +kernel
theorem dX3_readCut_4 : decode cX3_readCut 4 = .ok (.istore_n 2, 1) := by decide +kernel
theorem dX3_readCut_5 : decode cX3_readCut 5 = .ok (.iload_n 2, 1) := by decide +kernel
theorem dX3_readCut_6 : decode cX3_readCut 6 = .ok (.bipush 114, 2) := by decide +kernel
theorem dX3_readCut_8 : decode cX3_readCut 8 = .ok (.if_icmp .eq 16, 3) := by decide +kernel
theorem dX3_readCut_11 : decode cX3_readCut 11 = .ok (.iload_n 2, 1) := by decide +kernel
theorem dX3_readCut_12 : decode cX3_readCut 12 = .ok (.bipush 100, 2) := by decide +kernel
theorem dX3_readCut_14 : decode cX3_readCut 14 = .ok (.if_icmp .eq 10, 3) := by decide +kernel
theorem dX3_readCut_17 : decode cX3_readCut 17 = .ok (.aload_n 0, 1) := by decide +kernel
theorem dX3_readCut_18 : decode cX3_readCut 18 = .ok (.invokevirtual 42, 3) := by decide +kernel
theorem dX3_readCut_21 : decode cX3_readCut 21 = .ok (.pop, 1) := by decide +kernel
theorem dX3_readCut_22 : decode cX3_readCut 22 = .ok (.iconst (-1), 1) := by decide +kernel
theorem dX3_readCut_23 : decode cX3_readCut 23 = .ok (.ireturn, 1) := by decide +kernel
theorem dX3_readCut_24 : decode cX3_readCut 24 = .ok (.aload_n 0, 1) := by decide +kernel
theorem dX3_readCut_25 : decode cX3_readCut 25 = .ok (.invokevirtual 35, 3) := by decide +kernel
theorem dX3_readCut_28 : decode cX3_readCut 28 = .ok (.aload_n 0, 1) := by decide +kernel
theorem dX3_readCut_29 : decode cX3_readCut 29 = .ok (.invokevirtual 31, 3) := by decide +kernel
theorem dX3_readCut_32 : decode cX3_readCut 32 = .ok (.bipush 48, 2) := by decide +kernel
theorem dX3_readCut_34 : decode cX3_readCut 34 = .ok (.isub, 1) := by decide +kernel
theorem dX3_readCut_35 : decode cX3_readCut 35 = .ok (.istore_n 3, 1) := by decide +kernel
theorem dX3_readCut_36 : decode cX3_readCut 36 = .ok (.iload_n 3, 1) := by decide +kernel
theorem dX3_readCut_37 : decode cX3_readCut 37 = .ok (.iconst 1, 1) := by decide +kernel
theorem dX3_readCut_38 : decode cX3_readCut 38 = .ok (.if_icmp .lt 8, 3) := by decide +kernel
theorem dX3_readCut_41 : decode cX3_readCut 41 = .ok (.iload_n 3, 1) := by decide +kernel
theorem dX3_readCut_42 : decode cX3_readCut 42 = .ok (.iconst 5, 1) := by decide +kernel
theorem dX3_readCut_43 : decode cX3_readCut 43 = .ok (.if_icmp .le 10, 3) := by decide +kernel
theorem dX3_readCut_46 : decode cX3_readCut 46 = .ok (.aload_n 0, 1) := by decide +kernel
theorem dX3_readCut_47 : decode cX3_readCut 47 = .ok (.invokevirtual 42, 3) := by decide +kernel
theorem dX3_readCut_50 : decode cX3_readCut 50 = .ok (.pop, 1) := by decide +kernel
theorem dX3_readCut_51 : decode cX3_readCut 51 = .ok (.iconst (-1), 1) := by decide +kernel
theorem dX3_readCut_52 : decode cX3_readCut 52 = .ok (.ireturn, 1) := by decide +kernel
theorem dX3_readCut_53 : decode cX3_readCut 53 = .ok (.aload_n 0, 1) := by decide +kernel
theorem dX3_readCut_54 : decode cX3_readCut 54 = .ok (.invokevirtual 35, 3) := by decide +kernel
theorem dX3_readCut_57 : decode cX3_readCut 57 = .ok (.iconst 1, 1) := by decide +kernel
theorem dX3_readCut_58 : decode cX3_readCut 58 = .ok (.iload_n 1, 1) := by decide +kernel
theorem dX3_readCut_59 : decode cX3_readCut 59 = .ok (.iload_n 2, 1) := by decide +kernel
theorem dX3_readCut_60 : decode cX3_readCut 60 = .ok (.bipush 100, 2) := by decide +kernel
theorem dX3_readCut_62 : decode cX3_readCut 62 = .ok (.if_icmp .ne 7, 3) := by decide +kernel
theorem dX3_readCut_65 : decode cX3_readCut 65 = .ok (.iconst 1, 1) := by decide +kernel
theorem dX3_readCut_66 : decode cX3_readCut 66 = .ok (.goto 4, 3) := by decide +kernel
theorem dX3_readCut_69 : decode cX3_readCut 69 = .ok (.iconst 0, 1) := by decide +kernel
theorem dX3_readCut_70 : decode cX3_readCut 70 = .ok (.iload_n 3, 1) := by decide +kernel
theorem dX3_readCut_71 : decode cX3_readCut 71 = .ok (.invokestatic 45, 3) := by decide +kernel
theorem dX3_readCut_74 : decode cX3_readCut 74 = .ok (.ireturn, 1) := by decide +kernel
theorem dX3_readMove_0 : decode cX3_readMove 0 = .ok (.aload_n 1, 1) := by decide +kernel
theorem dX3_readMove_1 : decode cX3_readMove 1 = .ok (.invokevirtual 31, 3) := by decide +kernel
theorem dX3_readMove_4 : decode cX3_readMove 4 = .ok (.istore_n 2, 1) := by decide +kernel
theorem dX3_readMove_5 : decode cX3_readMove 5 = .ok (.iload_n 2, 1) := by decide +kernel
theorem dX3_readMove_6 : decode cX3_readMove 6 = .ok (.bipush 103, 2) := by decide +kernel
theorem dX3_readMove_8 : decode cX3_readMove 8 = .ok (.if_icmp .eq 28, 3) := by decide +kernel
theorem dX3_readMove_11 : decode cX3_readMove 11 = .ok (.iload_n 2, 1) := by decide +kernel
theorem dX3_readMove_12 : decode cX3_readMove 12 = .ok (.bipush 99, 2) := by decide +kernel
theorem dX3_readMove_14 : decode cX3_readMove 14 = .ok (.if_icmp .eq 22, 3) := by decide +kernel
theorem dX3_readMove_17 : decode cX3_readMove 17 = .ok (.iload_n 2, 1) := by decide +kernel
theorem dX3_readMove_18 : decode cX3_readMove 18 = .ok (.bipush 109, 2) := by decide +kernel
theorem dX3_readMove_20 : decode cX3_readMove 20 = .ok (.if_icmp .eq 16, 3) := by decide +kernel
theorem dX3_readMove_23 : decode cX3_readMove 23 = .ok (.iload_n 2, 1) := by decide +kernel
theorem dX3_readMove_24 : decode cX3_readMove 24 = .ok (.bipush 120, 2) := by decide +kernel
theorem dX3_readMove_26 : decode cX3_readMove 26 = .ok (.if_icmp .eq 10, 3) := by decide +kernel
theorem dX3_readMove_29 : decode cX3_readMove 29 = .ok (.aload_n 1, 1) := by decide +kernel
theorem dX3_readMove_30 : decode cX3_readMove 30 = .ok (.invokevirtual 42, 3) := by decide +kernel
theorem dX3_readMove_33 : decode cX3_readMove 33 = .ok (.pop, 1) := by decide +kernel
theorem dX3_readMove_34 : decode cX3_readMove 34 = .ok (.iconst (-1), 1) := by decide +kernel
theorem dX3_readMove_35 : decode cX3_readMove 35 = .ok (.ireturn, 1) := by decide +kernel
theorem dX3_readMove_36 : decode cX3_readMove 36 = .ok (.aload_n 1, 1) := by decide +kernel
theorem dX3_readMove_37 : decode cX3_readMove 37 = .ok (.invokevirtual 35, 3) := by decide +kernel
theorem dX3_readMove_40 : decode cX3_readMove 40 = .ok (.iload_n 2, 1) := by decide +kernel
theorem dX3_readMove_41 : decode cX3_readMove 41 = .ok (.bipush 120, 2) := by decide +kernel
theorem dX3_readMove_43 : decode cX3_readMove 43 = .ok (.if_icmp .ne 11, 3) := by decide +kernel
theorem dX3_readMove_46 : decode cX3_readMove 46 = .ok (.iconst 3, 1) := by decide +kernel
theorem dX3_readMove_47 : decode cX3_readMove 47 = .ok (.iconst (-1), 1) := by decide +kernel
theorem dX3_readMove_48 : decode cX3_readMove 48 = .ok (.iconst 0, 1) := by decide +kernel
theorem dX3_readMove_49 : decode cX3_readMove 49 = .ok (.iconst 0, 1) := by decide +kernel
theorem dX3_readMove_50 : decode cX3_readMove 50 = .ok (.invokestatic 45, 3) := by decide +kernel
theorem dX3_readMove_53 : decode cX3_readMove 53 = .ok (.ireturn, 1) := by decide +kernel
theorem dX3_readMove_54 : decode cX3_readMove 54 = .ok (.iload_n 2, 1) := by decide +kernel
theorem dX3_readMove_55 : decode cX3_readMove 55 = .ok (.bipush 103, 2) := by decide +kernel
theorem dX3_readMove_57 : decode cX3_readMove 57 = .ok (.if_icmp .ne 34, 3) := by decide +kernel
theorem dX3_readMove_60 : decode cX3_readMove 60 = .ok (.aload_n 1, 1) := by decide +kernel
theorem dX3_readMove_61 : decode cX3_readMove 61 = .ok (.invokevirtual 31, 3) := by decide +kernel
theorem dX3_readMove_64 : decode cX3_readMove 64 = .ok (.bipush 63, 2) := by decide +kernel
theorem dX3_readMove_66 : decode cX3_readMove 66 = .ok (.if_icmp .ne 25, 3) := by decide +kernel
theorem dX3_readMove_69 : decode cX3_readMove 69 = .ok (.aload_n 1, 1) := by decide +kernel
theorem dX3_readMove_70 : decode cX3_readMove 70 = .ok (.invokevirtual 35, 3) := by decide +kernel
theorem dX3_readMove_73 : decode cX3_readMove 73 = .ok (.aload_n 0, 1) := by decide +kernel
theorem dX3_readMove_74 : decode cX3_readMove 74 = .ok (.dup, 1) := by decide +kernel
theorem dX3_readMove_75 : decode cX3_readMove 75 = .ok (.getfield 20, 3) := by decide +kernel
theorem dX3_readMove_78 : decode cX3_readMove 78 = .ok (.iconst 1, 1) := by decide +kernel
theorem dX3_readMove_79 : decode cX3_readMove 79 = .ok (.iadd, 1) := by decide +kernel
theorem dX3_readMove_80 : decode cX3_readMove 80 = .ok (.putfield 20, 3) := by decide +kernel
theorem dX3_readMove_83 : decode cX3_readMove 83 = .ok (.iconst 0, 1) := by decide +kernel
theorem dX3_readMove_84 : decode cX3_readMove 84 = .ok (.iconst (-1), 1) := by decide +kernel
theorem dX3_readMove_85 : decode cX3_readMove 85 = .ok (.iconst 0, 1) := by decide +kernel
theorem dX3_readMove_86 : decode cX3_readMove 86 = .ok (.iconst 0, 1) := by decide +kernel
theorem dX3_readMove_87 : decode cX3_readMove 87 = .ok (.invokestatic 45, 3) := by decide +kernel
theorem dX3_readMove_90 : decode cX3_readMove 90 = .ok (.ireturn, 1) := by decide +kernel
theorem dX3_readMove_91 : decode cX3_readMove 91 = .ok (.aload_n 1, 1) := by decide +kernel
theorem dX3_readMove_92 : decode cX3_readMove 92 = .ok (.iconst 2, 1) := by decide +kernel
theorem dX3_readMove_93 : decode cX3_readMove 93 = .ok (.iconst 0, 1) := by decide +kernel
theorem dX3_readMove_94 : decode cX3_readMove 94 = .ok (.bipush 29, 2) := by decide +kernel
theorem dX3_readMove_96 : decode cX3_readMove 96 = .ok (.invokevirtual 49, 3) := by decide +kernel
theorem dX3_readMove_99 : decode cX3_readMove 99 = .ok (.istore_n 3, 1) := by decide +kernel
theorem dX3_readMove_100 : decode cX3_readMove 100 = .ok (.iload_n 3, 1) := by decide +kernel
theorem dX3_readMove_101 : decode cX3_readMove 101 = .ok (.iconst (-1), 1) := by decide +kernel
theorem dX3_readMove_102 : decode cX3_readMove 102 = .ok (.if_icmp .ne 5, 3) := by decide +kernel
theorem dX3_readMove_105 : decode cX3_readMove 105 = .ok (.iconst (-1), 1) := by decide +kernel
theorem dX3_readMove_106 : decode cX3_readMove 106 = .ok (.ireturn, 1) := by decide +kernel
theorem dX3_readMove_107 : decode cX3_readMove 107 = .ok (.iload_n 2, 1) := by decide +kernel
theorem dX3_readMove_108 : decode cX3_readMove 108 = .ok (.bipush 99, 2) := by decide +kernel
theorem dX3_readMove_110 : decode cX3_readMove 110 = .ok (.if_icmp .ne 9, 3) := by decide +kernel
theorem dX3_readMove_113 : decode cX3_readMove 113 = .ok (.aload_n 1, 1) := by decide +kernel
theorem dX3_readMove_114 : decode cX3_readMove 114 = .ok (.iload_n 3, 1) := by decide +kernel
theorem dX3_readMove_115 : decode cX3_readMove 115 = .ok (.invokestatic 53, 3) := by decide +kernel
theorem dX3_readMove_118 : decode cX3_readMove 118 = .ok (.ireturn, 1) := by decide +kernel
theorem dX3_readMove_119 : decode cX3_readMove 119 = .ok (.iload_n 2, 1) := by decide +kernel
theorem dX3_readMove_120 : decode cX3_readMove 120 = .ok (.bipush 103, 2) := by decide +kernel
theorem dX3_readMove_122 : decode cX3_readMove 122 = .ok (.if_icmp .ne 7, 3) := by decide +kernel
theorem dX3_readMove_125 : decode cX3_readMove 125 = .ok (.iconst 0, 1) := by decide +kernel
theorem dX3_readMove_126 : decode cX3_readMove 126 = .ok (.goto 4, 3) := by decide +kernel
theorem dX3_readMove_129 : decode cX3_readMove 129 = .ok (.iconst 2, 1) := by decide +kernel
theorem dX3_readMove_130 : decode cX3_readMove 130 = .ok (.iload_n 3, 1) := by decide +kernel
theorem dX3_readMove_131 : decode cX3_readMove 131 = .ok (.iconst 0, 1) := by decide +kernel
theorem dX3_readMove_132 : decode cX3_readMove 132 = .ok (.iconst 0, 1) := by decide +kernel
theorem dX3_readMove_133 : decode cX3_readMove 133 = .ok (.invokestatic 45, 3) := by decide +kernel
theorem dX3_readMove_136 : decode cX3_readMove 136 = .ok (.ireturn, 1) := by decide +kernel
theorem dX4_isWhole_0 : decode cX4_isWhole 0 = .ok (.aload_n 0, 1) := by decide +kernel
theorem dX4_isWhole_1 : decode cX4_isWhole 1 = .ok (.aload_n 0, 1) := by decide +kernel
theorem dX4_isWhole_2 : decode cX4_isWhole 2 = .ok (.getfield 11, 3) := by decide +kernel
theorem dX4_isWhole_5 : decode cX4_isWhole 5 = .ok (.iconst 0, 1) := by decide +kernel
theorem dX4_isWhole_6 : decode cX4_isWhole 6 = .ok (.iaload, 1) := by decide +kernel
theorem dX4_isWhole_7 : decode cX4_isWhole 7 = .ok (.putfield 117, 3) := by decide +kernel
theorem dX4_isWhole_10 : decode cX4_isWhole 10 = .ok (.aload_n 0, 1) := by decide +kernel
theorem dX4_isWhole_11 : decode cX4_isWhole 11 = .ok (.aload_n 0, 1) := by decide +kernel
theorem dX4_isWhole_12 : decode cX4_isWhole 12 = .ok (.getfield 11, 3) := by decide +kernel
theorem dX4_isWhole_15 : decode cX4_isWhole 15 = .ok (.iconst 1, 1) := by decide +kernel
theorem dX4_isWhole_16 : decode cX4_isWhole 16 = .ok (.iaload, 1) := by decide +kernel
theorem dX4_isWhole_17 : decode cX4_isWhole 17 = .ok (.putfield 120, 3) := by decide +kernel
theorem dX4_isWhole_20 : decode cX4_isWhole 20 = .ok (.aload_n 0, 1) := by decide +kernel
theorem dX4_isWhole_21 : decode cX4_isWhole 21 = .ok (.aload_n 0, 1) := by decide +kernel
theorem dX4_isWhole_22 : decode cX4_isWhole 22 = .ok (.getfield 117, 3) := by decide +kernel
theorem dX4_isWhole_25 : decode cX4_isWhole 25 = .ok (.aload_n 0, 1) := by decide +kernel
theorem dX4_isWhole_26 : decode cX4_isWhole 26 = .ok (.getfield 120, 3) := by decide +kernel
theorem dX4_isWhole_29 : decode cX4_isWhole 29 = .ok (.imul, 1) := by decide +kernel
theorem dX4_isWhole_30 : decode cX4_isWhole 30 = .ok (.putfield 123, 3) := by decide +kernel
theorem dX4_isWhole_33 : decode cX4_isWhole 33 = .ok (.aload_n 0, 1) := by decide +kernel
theorem dX4_isWhole_34 : decode cX4_isWhole 34 = .ok (.iconst 1, 1) := by decide +kernel
theorem dX4_isWhole_35 : decode cX4_isWhole 35 = .ok (.aload_n 0, 1) := by decide +kernel
theorem dX4_isWhole_36 : decode cX4_isWhole 36 = .ok (.getfield 123, 3) := by decide +kernel
theorem dX4_isWhole_39 : decode cX4_isWhole 39 = .ok (.ishl, 1) := by decide +kernel
theorem dX4_isWhole_40 : decode cX4_isWhole 40 = .ok (.iconst 1, 1) := by decide +kernel
theorem dX4_isWhole_41 : decode cX4_isWhole 41 = .ok (.isub, 1) := by decide +kernel
theorem dX4_isWhole_42 : decode cX4_isWhole 42 = .ok (.putfield 126, 3) := by decide +kernel
theorem dX4_isWhole_45 : decode cX4_isWhole 45 = .ok (.aload_n 0, 1) := by decide +kernel
theorem dX4_isWhole_46 : decode cX4_isWhole 46 = .ok (.getfield 76, 3) := by decide +kernel
theorem dX4_isWhole_49 : decode cX4_isWhole 49 = .ok (.ifCond .ne 37, 3) := by decide +kernel
theorem dX4_isWhole_52 : decode cX4_isWhole 52 = .ok (.aload_n 0, 1) := by decide +kernel
theorem dX4_isWhole_53 : decode cX4_isWhole 53 = .ok (.getfield 65, 3) := by decide +kernel
theorem dX4_isWhole_56 : decode cX4_isWhole 56 = .ok (.aload_n 0, 1) := by decide +kernel
theorem dX4_isWhole_57 : decode cX4_isWhole 57 = .ok (.getfield 69, 3) := by decide +kernel
theorem dX4_isWhole_60 : decode cX4_isWhole 60 = .ok (.ior, 1) := by decide +kernel
theorem dX4_isWhole_61 : decode cX4_isWhole 61 = .ok (.aload_n 0, 1) := by decide +kernel
theorem dX4_isWhole_62 : decode cX4_isWhole 62 = .ok (.getfield 126, 3) := by decide +kernel
theorem dX4_isWhole_65 : decode cX4_isWhole 65 = .ok (.iconst (-1), 1) := by decide +kernel
theorem dX4_isWhole_66 : decode cX4_isWhole 66 = .ok (.ixor, 1) := by decide +kernel
theorem dX4_isWhole_67 : decode cX4_isWhole 67 = .ok (.iand, 1) := by decide +kernel
theorem dX4_isWhole_68 : decode cX4_isWhole 68 = .ok (.ifCond .ne 18, 3) := by decide +kernel
theorem dX4_isWhole_71 : decode cX4_isWhole 71 = .ok (.aload_n 0, 1) := by decide +kernel
theorem dX4_isWhole_72 : decode cX4_isWhole 72 = .ok (.getfield 11, 3) := by decide +kernel
theorem dX4_isWhole_75 : decode cX4_isWhole 75 = .ok (.iconst 4, 1) := by decide +kernel
theorem dX4_isWhole_76 : decode cX4_isWhole 76 = .ok (.iaload, 1) := by decide +kernel
theorem dX4_isWhole_77 : decode cX4_isWhole 77 = .ok (.aload_n 0, 1) := by decide +kernel
theorem dX4_isWhole_78 : decode cX4_isWhole 78 = .ok (.getfield 11, 3) := by decide +kernel
theorem dX4_isWhole_81 : decode cX4_isWhole 81 = .ok (.iconst 5, 1) := by decide +kernel
theorem dX4_isWhole_82 : decode cX4_isWhole 82 = .ok (.iaload, 1) := by decide +kernel
theorem dX4_isWhole_83 : decode cX4_isWhole 83 = .ok (.if_icmp .le 5, 3) := by decide +kernel
theorem dX4_isWhole_86 : decode cX4_isWhole 86 = .ok (.iconst 0, 1) := by decide +kernel
theorem dX4_isWhole_87 : decode cX4_isWhole 87 = .ok (.ireturn, 1) := by decide +kernel
theorem dX4_isWhole_88 : decode cX4_isWhole 88 = .ok (.aload_n 0, 1) := by decide +kernel
theorem dX4_isWhole_89 : decode cX4_isWhole 89 = .ok (.invokevirtual 129, 3) := by decide +kernel
theorem dX4_isWhole_92 : decode cX4_isWhole 92 = .ok (.aload_n 0, 1) := by decide +kernel
theorem dX4_isWhole_93 : decode cX4_isWhole 93 = .ok (.aload_n 0, 1) := by decide +kernel
theorem dX4_isWhole_94 : decode cX4_isWhole 94 = .ok (.getfield 65, 3) := by decide +kernel
theorem dX4_isWhole_97 : decode cX4_isWhole 97 = .ok (.invokevirtual 132, 3) := by decide +kernel
theorem dX4_isWhole_100 : decode cX4_isWhole 100 = .ok (.ifCond .ne 7, 3) := by decide +kernel
theorem dX4_isWhole_103 : decode cX4_isWhole 103 = .ok (.iconst 1, 1) := by decide +kernel
theorem dX4_isWhole_104 : decode cX4_isWhole 104 = .ok (.goto 4, 3) := by decide +kernel
theorem dX4_isWhole_107 : decode cX4_isWhole 107 = .ok (.iconst 0, 1) := by decide +kernel
theorem dX4_isWhole_108 : decode cX4_isWhole 108 = .ok (.ireturn, 1) := by decide +kernel
theorem dX4_mayCome_0 : decode cX4_mayCome 0 = .ok (.iload_n 1, 1) := by decide +kernel
theorem dX4_mayCome_1 : decode cX4_mayCome 1 = .ok (.bipush 115, 2) := by decide +kernel
theorem dX4_mayCome_3 : decode cX4_mayCome 3 = .ok (.if_icmp .ne 10, 3) := by decide +kernel
theorem dX4_mayCome_6 : decode cX4_mayCome 6 = .ok (.aload_n 0, 1) := by decide +kernel
theorem dX4_mayCome_7 : decode cX4_mayCome 7 = .ok (.getfield 72, 3) := by decide +kernel
theorem dX4_mayCome_10 : decode cX4_mayCome 10 = .ok (.ifCond .eq 33, 3) := by decide +kernel
theorem dX4_mayCome_13 : decode cX4_mayCome 13 = .ok (.iload_n 1, 1) := by decide +kernel
theorem dX4_mayCome_14 : decode cX4_mayCome 14 = .ok (.bipush 116, 2) := by decide +kernel
theorem dX4_mayCome_16 : decode cX4_mayCome 16 = .ok (.if_icmp .ne 12, 3) := by decide +kernel
theorem dX4_mayCome_19 : decode cX4_mayCome 19 = .ok (.aload_n 0, 1) := by decide +kernel
theorem dX4_mayCome_20 : decode cX4_mayCome 20 = .ok (.getfield 79, 3) := by decide +kernel
theorem dX4_mayCome_23 : decode cX4_mayCome 23 = .ok (.bipush 12, 2) := by decide +kernel
theorem dX4_mayCome_25 : decode cX4_mayCome 25 = .ok (.if_icmp .lt 18, 3) := by decide +kernel
theorem dX4_mayCome_28 : decode cX4_mayCome 28 = .ok (.iload_n 1, 1) := by decide +kernel
theorem dX4_mayCome_29 : decode cX4_mayCome 29 = .ok (.bipush 98, 2) := by decide +kernel
theorem dX4_mayCome_31 : decode cX4_mayCome 31 = .ok (.if_icmp .ne 16, 3) := by decide +kernel
theorem dX4_mayCome_34 : decode cX4_mayCome 34 = .ok (.aload_n 0, 1) := by decide +kernel
theorem dX4_mayCome_35 : decode cX4_mayCome 35 = .ok (.getfield 82, 3) := by decide +kernel
theorem dX4_mayCome_38 : decode cX4_mayCome 38 = .ok (.bipush 8, 2) := by decide +kernel
theorem dX4_mayCome_40 : decode cX4_mayCome 40 = .ok (.if_icmp .ge 7, 3) := by decide +kernel
theorem dX4_mayCome_43 : decode cX4_mayCome 43 = .ok (.iconst 1, 1) := by decide +kernel
theorem dX4_mayCome_44 : decode cX4_mayCome 44 = .ok (.goto 4, 3) := by decide +kernel
theorem dX4_mayCome_47 : decode cX4_mayCome 47 = .ok (.iconst 0, 1) := by decide +kernel
theorem dX4_mayCome_48 : decode cX4_mayCome 48 = .ok (.ireturn, 1) := by decide +kernel
theorem dX4_readSpot_0 : decode cX4_readSpot 0 = .ok (.iconst 0, 1) := by decide +kernel
theorem dX4_readSpot_1 : decode cX4_readSpot 1 = .ok (.istore_n 3, 1) := by decide +kernel
theorem dX4_readSpot_2 : decode cX4_readSpot 2 = .ok (.aload_n 1, 1) := by decide +kernel
theorem dX4_readSpot_3 : decode cX4_readSpot 3 = .ok (.invokevirtual 39, 3) := by decide +kernel
theorem dX4_readSpot_6 : decode cX4_readSpot 6 = .ok (.bipush 99, 2) := by decide +kernel
theorem dX4_readSpot_8 : decode cX4_readSpot 8 = .ok (.if_icmp .ne 23, 3) := by decide +kernel
theorem dX4_readSpot_11 : decode cX4_readSpot 11 = .ok (.aload_n 1, 1) := by decide +kernel
theorem dX4_readSpot_12 : decode cX4_readSpot 12 = .ok (.invokevirtual 43, 3) := by decide +kernel
theorem dX4_readSpot_15 : decode cX4_readSpot 15 = .ok (.aload_n 1, 1) := by decide +kernel
theorem dX4_readSpot_16 : decode cX4_readSpot 16 = .ok (.iconst 2, 1) := by decide +kernel
theorem dX4_readSpot_17 : decode cX4_readSpot 17 = .ok (.iconst 0, 1) := by decide +kernel
theorem dX4_readSpot_18 : decode cX4_readSpot 18 = .ok (.bipush 29, 2) := by decide +kernel
theorem dX4_readSpot_20 : decode cX4_readSpot 20 = .ok (.invokevirtual 113, 3) := by decide +kernel
theorem dX4_readSpot_23 : decode cX4_readSpot 23 = .ok (.istore_n 3, 1) := by decide +kernel
theorem dX4_readSpot_24 : decode cX4_readSpot 24 = .ok (.iload_n 3, 1) := by decide +kernel
theorem dX4_readSpot_25 : decode cX4_readSpot 25 = .ok (.iconst (-1), 1) := by decide +kernel
theorem dX4_readSpot_26 : decode cX4_readSpot 26 = .ok (.if_icmp .ne 5, 3) := by decide +kernel
theorem dX4_readSpot_29 : decode cX4_readSpot 29 = .ok (.iconst 0, 1) := by decide +kernel
theorem dX4_readSpot_30 : decode cX4_readSpot 30 = .ok (.ireturn, 1) := by decide +kernel
theorem dX4_readSpot_31 : decode cX4_readSpot 31 = .ok (.iconst 1, 1) := by decide +kernel
theorem dX4_readSpot_32 : decode cX4_readSpot 32 = .ok (.iload_n 3, 1) := by decide +kernel
theorem dX4_readSpot_33 : decode cX4_readSpot 33 = .ok (.ishl, 1) := by decide +kernel
theorem dX4_readSpot_34 : decode cX4_readSpot 34 = .ok (.istore 4, 2) := by decide +kernel
theorem dX4_readSpot_36 : decode cX4_readSpot 36 = .ok (.aload_n 0, 1) := by decide +kernel
theorem dX4_readSpot_37 : decode cX4_readSpot 37 = .ok (.dup, 1) := by decide +kernel
theorem dX4_readSpot_38 : decode cX4_readSpot 38 = .ok (.getfield 76, 3) := by decide +kernel
theorem dX4_readSpot_41 : decode cX4_readSpot 41 = .ok (.aload_n 0, 1) := by decide +kernel
theorem dX4_readSpot_42 : decode cX4_readSpot 42 = .ok (.getfield 65, 3) := by decide +kernel
theorem dX4_readSpot_45 : decode cX4_readSpot 45 = .ok (.aload_n 0, 1) := by decide +kernel
theorem dX4_readSpot_46 : decode cX4_readSpot 46 = .ok (.getfield 69, 3) := by decide +kernel
theorem dX4_readSpot_49 : decode cX4_readSpot 49 = .ok (.ior, 1) := by decide +kernel
theorem dX4_readSpot_50 : decode cX4_readSpot 50 = .ok (.iload 4, 2) := by decide +kernel
theorem dX4_readSpot_52 : decode cX4_readSpot 52 = .ok (.iand, 1) := by decide +kernel
theorem dX4_readSpot_53 : decode cX4_readSpot 53 = .ok (.ifCond .eq 7, 3) := by decide +kernel
theorem dX4_readSpot_56 : decode cX4_readSpot 56 = .ok (.iconst 1, 1) := by decide +kernel
theorem dX4_readSpot_57 : decode cX4_readSpot 57 = .ok (.goto 4, 3) := by decide +kernel
theorem dX4_readSpot_60 : decode cX4_readSpot 60 = .ok (.iconst 0, 1) := by decide +kernel
theorem dX4_readSpot_61 : decode cX4_readSpot 61 = .ok (.ior, 1) := by decide +kernel
theorem dX4_readSpot_62 : decode cX4_readSpot 62 = .ok (.putfield 76, 3) := by decide +kernel
theorem dX4_readSpot_65 : decode cX4_readSpot 65 = .ok (.iload_n 2, 1) := by decide +kernel
theorem dX4_readSpot_66 : decode cX4_readSpot 66 = .ok (.ifCond .eq 27, 3) := by decide +kernel
theorem dX4_readSpot_69 : decode cX4_readSpot 69 = .ok (.aload_n 0, 1) := by decide +kernel
theorem dX4_readSpot_70 : decode cX4_readSpot 70 = .ok (.dup, 1) := by decide +kernel
theorem dX4_readSpot_71 : decode cX4_readSpot 71 = .ok (.getfield 65, 3) := by decide +kernel
theorem dX4_readSpot_74 : decode cX4_readSpot 74 = .ok (.iload 4, 2) := by decide +kernel
theorem dX4_readSpot_76 : decode cX4_readSpot 76 = .ok (.ior, 1) := by decide +kernel
theorem dX4_readSpot_77 : decode cX4_readSpot 77 = .ok (.putfield 65, 3) := by decide +kernel
theorem dX4_readSpot_80 : decode cX4_readSpot 80 = .ok (.aload_n 0, 1) := by decide +kernel
theorem dX4_readSpot_81 : decode cX4_readSpot 81 = .ok (.dup, 1) := by decide +kernel
theorem dX4_readSpot_82 : decode cX4_readSpot 82 = .ok (.getfield 79, 3) := by decide +kernel
theorem dX4_readSpot_85 : decode cX4_readSpot 85 = .ok (.iconst 1, 1) := by decide +kernel
theorem dX4_readSpot_86 : decode cX4_readSpot 86 = .ok (.iadd, 1) := by decide +kernel
theorem dX4_readSpot_87 : decode cX4_readSpot 87 = .ok (.putfield 79, 3) := by decide +kernel
theorem dX4_readSpot_90 : decode cX4_readSpot 90 = .ok (.goto 24, 3) := by decide +kernel
theorem dX4_readSpot_93 : decode cX4_readSpot 93 = .ok (.aload_n 0, 1) := by decide +kernel
theorem dX4_readSpot_94 : decode cX4_readSpot 94 = .ok (.dup, 1) := by decide +kernel
theorem dX4_readSpot_95 : decode cX4_readSpot 95 = .ok (.getfield 69, 3) := by decide +kernel
theorem dX4_readSpot_98 : decode cX4_readSpot 98 = .ok (.iload 4, 2) := by decide +kernel
theorem dX4_readSpot_100 : decode cX4_readSpot 100 = .ok (.ior, 1) := by decide +kernel
theorem dX4_readSpot_101 : decode cX4_readSpot 101 = .ok (.putfield 69, 3) := by decide +kernel
theorem dX4_readSpot_104 : decode cX4_readSpot 104 = .ok (.aload_n 0, 1) := by decide +kernel
theorem dX4_readSpot_105 : decode cX4_readSpot 105 = .ok (.dup, 1) := by decide +kernel
theorem dX4_readSpot_106 : decode cX4_readSpot 106 = .ok (.getfield 82, 3) := by decide +kernel
theorem dX4_readSpot_109 : decode cX4_readSpot 109 = .ok (.iconst 1, 1) := by decide +kernel
theorem dX4_readSpot_110 : decode cX4_readSpot 110 = .ok (.iadd, 1) := by decide +kernel
theorem dX4_readSpot_111 : decode cX4_readSpot 111 = .ok (.putfield 82, 3) := by decide +kernel
theorem dX4_readSpot_114 : decode cX4_readSpot 114 = .ok (.iconst 1, 1) := by decide +kernel
theorem dX4_readSpot_115 : decode cX4_readSpot 115 = .ok (.ireturn, 1) := by decide +kernel
theorem wl_1_45 : (.fieldLink RX10 19 "LawnAhead$Tape" "wrongAt" "I" : Cond) ∈ sg_tbl := tb_1 _ (List.mem_of_getElem? (i := 45) (by decide +kernel)) (by decide +kernel)
theorem wl_1_44 : (.fieldLink RX10 22 "LawnAhead$Tape" "at" "I" : Cond) ∈ sg_tbl := tb_1 _ (List.mem_of_getElem? (i := 44) (by decide +kernel)) (by decide +kernel)
theorem wl_3_63 : (.methodLink RX10 25 Lib.Math.min.name : Cond) ∈ sg_tbl := tb_3 _ (List.mem_of_getElem? (i := 63) (by decide +kernel)) (by decide +kernel)
theorem wl_3_171 : (.methodLink RX10 31 yX10_sign : Cond) ∈ sg_tbl := tb_3 _ (List.mem_of_getElem? (i := 171) (by decide +kernel)) (by decide +kernel)
theorem wl_3_218 : (.methodLink RX10 39 yX10_step : Cond) ∈ sg_tbl := tb_3 _ (List.mem_of_getElem? (i := 218) (by decide +kernel)) (by decide +kernel)
theorem wl_3_172 : (.methodLink RX10 35 yX10_wrong : Cond) ∈ sg_tbl := tb_3 _ (List.mem_of_getElem? (i := 172) (by decide +kernel)) (by decide +kernel)
theorem wl_4_23 : (.methodLink RX3 31 yX10_sign : Cond) ∈ sg_tbl := tb_4 _ (List.mem_of_getElem? (i := 23) (by decide +kernel)) (by decide +kernel)
theorem wl_4_25 : (.methodLink RX3 35 yX10_step : Cond) ∈ sg_tbl := tb_4 _ (List.mem_of_getElem? (i := 25) (by decide +kernel)) (by decide +kernel)
theorem wl_4_24 : (.methodLink RX3 42 yX10_wrong : Cond) ∈ sg_tbl := tb_4 _ (List.mem_of_getElem? (i := 24) (by decide +kernel)) (by decide +kernel)
theorem wl_4_26 : (.methodLink RX3 45 yX3_packed : Cond) ∈ sg_tbl := tb_4 _ (List.mem_of_getElem? (i := 26) (by decide +kernel)) (by decide +kernel)
theorem wl_4_29 : (.methodLink RX3 49 yX10_number : Cond) ∈ sg_tbl := tb_4 _ (List.mem_of_getElem? (i := 29) (by decide +kernel)) (by decide +kernel)
theorem wl_4_30 : (.methodLink RX3 53 yX3_readCut : Cond) ∈ sg_tbl := tb_4 _ (List.mem_of_getElem? (i := 30) (by decide +kernel)) (by decide +kernel)
theorem wl_1_100 : (.fieldLink RX3 20 "LawnAhead$Game" "leaves" "I" : Cond) ∈ sg_tbl := tb_1 _ (List.mem_of_getElem? (i := 100) (by decide +kernel)) (by decide +kernel)
theorem wl_4_18 : (.methodLink RX3 15 yX10_rewind : Cond) ∈ sg_tbl := tb_4 _ (List.mem_of_getElem? (i := 18) (by decide +kernel)) (by decide +kernel)
theorem wl_1_97 : (.fieldLink RX3 24 "LawnAhead$Game" "count" "I" : Cond) ∈ sg_tbl := tb_1 _ (List.mem_of_getElem? (i := 97) (by decide +kernel)) (by decide +kernel)
theorem wl_4_33 : (.methodLink RX3 38 yX10_ended : Cond) ∈ sg_tbl := tb_4 _ (List.mem_of_getElem? (i := 33) (by decide +kernel)) (by decide +kernel)
theorem wl_4_19 : (.methodLink RX3 27 yX3_readMove : Cond) ∈ sg_tbl := tb_4 _ (List.mem_of_getElem? (i := 19) (by decide +kernel)) (by decide +kernel)
theorem wl_1_94 : (.fieldLink RX3 11 "LawnAhead$Game" "moves" "[I" : Cond) ∈ sg_tbl := tb_1 _ (List.mem_of_getElem? (i := 94) (by decide +kernel)) (by decide +kernel)
theorem wl_1_237 : (.fieldLink RX4 82 "LawnAhead$Ground" "bedCount" "I" : Cond) ∈ sg_tbl := tb_1 _ (List.mem_of_getElem? (i := 237) (by decide +kernel)) (by decide +kernel)
theorem wl_1_236 : (.fieldLink RX4 79 "LawnAhead$Ground" "tuftCount" "I" : Cond) ∈ sg_tbl := tb_1 _ (List.mem_of_getElem? (i := 236) (by decide +kernel)) (by decide +kernel)
theorem wl_1_234 : (.fieldLink RX4 72 "LawnAhead$Ground" "ruled" "Z" : Cond) ∈ sg_tbl := tb_1 _ (List.mem_of_getElem? (i := 234) (by decide +kernel)) (by decide +kernel)
theorem wl_3_47 : (.methodLink RX4 39 yX10_sign : Cond) ∈ sg_tbl := tb_3 _ (List.mem_of_getElem? (i := 47) (by decide +kernel)) (by decide +kernel)
theorem wl_1_235 : (.fieldLink RX4 76 "LawnAhead$Ground" "doubled" "Z" : Cond) ∈ sg_tbl := tb_1 _ (List.mem_of_getElem? (i := 235) (by decide +kernel)) (by decide +kernel)
theorem wl_1_227 : (.fieldLink RX4 65 "LawnAhead$Ground" "tufts" "I" : Cond) ∈ sg_tbl := tb_1 _ (List.mem_of_getElem? (i := 227) (by decide +kernel)) (by decide +kernel)
theorem wl_1_230 : (.fieldLink RX4 69 "LawnAhead$Ground" "beds" "I" : Cond) ∈ sg_tbl := tb_1 _ (List.mem_of_getElem? (i := 230) (by decide +kernel)) (by decide +kernel)
theorem wl_3_59 : (.methodLink RX4 43 yX10_step : Cond) ∈ sg_tbl := tb_3 _ (List.mem_of_getElem? (i := 59) (by decide +kernel)) (by decide +kernel)
theorem wl_3_159 : (.methodLink RX4 113 yX10_number : Cond) ∈ sg_tbl := tb_3 _ (List.mem_of_getElem? (i := 159) (by decide +kernel)) (by decide +kernel)
theorem wl_3_177 : (.methodLink RX4 129 yX4_layOut : Cond) ∈ sg_tbl := tb_3 _ (List.mem_of_getElem? (i := 177) (by decide +kernel)) (by decide +kernel)
theorem wl_3_33 : (.code yX10_rewind cX10_rewind 1 none : Cond) ∈ sg_tbl := tb_3 _ (List.mem_of_getElem? (i := 33) (by decide +kernel)) (by decide +kernel)
theorem wl_3_31 : (.instanceMethod yX10_rewind : Cond) ∈ sg_tbl := tb_3 _ (List.mem_of_getElem? (i := 31) (by decide +kernel)) (by decide +kernel)
theorem wl_3_32 : (.selects RX10 yX10_rewind yX10_rewind : Cond) ∈ sg_tbl := tb_3 _ (List.mem_of_getElem? (i := 32) (by decide +kernel)) (by decide +kernel)
theorem wl_3_50 : (.code yX10_sign cX10_sign 1 (some .int) : Cond) ∈ sg_tbl := tb_3 _ (List.mem_of_getElem? (i := 50) (by decide +kernel)) (by decide +kernel)
theorem wl_3_48 : (.instanceMethod yX10_sign : Cond) ∈ sg_tbl := tb_3 _ (List.mem_of_getElem? (i := 48) (by decide +kernel)) (by decide +kernel)
theorem wl_3_49 : (.selects RX10 yX10_sign yX10_sign : Cond) ∈ sg_tbl := tb_3 _ (List.mem_of_getElem? (i := 49) (by decide +kernel)) (by decide +kernel)
theorem wl_3_62 : (.code yX10_step cX10_step 1 none : Cond) ∈ sg_tbl := tb_3 _ (List.mem_of_getElem? (i := 62) (by decide +kernel)) (by decide +kernel)
theorem wl_3_60 : (.instanceMethod yX10_step : Cond) ∈ sg_tbl := tb_3 _ (List.mem_of_getElem? (i := 60) (by decide +kernel)) (by decide +kernel)
theorem wl_3_61 : (.selects RX10 yX10_step yX10_step : Cond) ∈ sg_tbl := tb_3 _ (List.mem_of_getElem? (i := 61) (by decide +kernel)) (by decide +kernel)
theorem wl_3_58 : (.code yX10_wrong cX10_wrong 1 (some .boolean) : Cond) ∈ sg_tbl := tb_3 _ (List.mem_of_getElem? (i := 58) (by decide +kernel)) (by decide +kernel)
theorem wl_3_56 : (.instanceMethod yX10_wrong : Cond) ∈ sg_tbl := tb_3 _ (List.mem_of_getElem? (i := 56) (by decide +kernel)) (by decide +kernel)
theorem wl_3_57 : (.selects RX10 yX10_wrong yX10_wrong : Cond) ∈ sg_tbl := tb_3 _ (List.mem_of_getElem? (i := 57) (by decide +kernel)) (by decide +kernel)
theorem wl_3_204 : (.code yX10_wrongAsWhole cX10_wrongAsWhole 1 (some .boolean) : Cond) ∈ sg_tbl := tb_3 _ (List.mem_of_getElem? (i := 204) (by decide +kernel)) (by decide +kernel)
theorem wl_3_202 : (.instanceMethod yX10_wrongAsWhole : Cond) ∈ sg_tbl := tb_3 _ (List.mem_of_getElem? (i := 202) (by decide +kernel)) (by decide +kernel)
theorem wl_3_203 : (.selects RX10 yX10_wrongAsWhole yX10_wrongAsWhole : Cond) ∈ sg_tbl := tb_3 _ (List.mem_of_getElem? (i := 203) (by decide +kernel)) (by decide +kernel)
theorem wl_3_217 : (.code yX10_demand cX10_demand 2 (some .boolean) : Cond) ∈ sg_tbl := tb_3 _ (List.mem_of_getElem? (i := 217) (by decide +kernel)) (by decide +kernel)
theorem wl_3_215 : (.instanceMethod yX10_demand : Cond) ∈ sg_tbl := tb_3 _ (List.mem_of_getElem? (i := 215) (by decide +kernel)) (by decide +kernel)
theorem wl_3_216 : (.selects RX10 yX10_demand yX10_demand : Cond) ∈ sg_tbl := tb_3 _ (List.mem_of_getElem? (i := 216) (by decide +kernel)) (by decide +kernel)
theorem wl_3_170 : (.code yX10_ended cX10_ended 1 (some .boolean) : Cond) ∈ sg_tbl := tb_3 _ (List.mem_of_getElem? (i := 170) (by decide +kernel)) (by decide +kernel)
theorem wl_3_168 : (.instanceMethod yX10_ended : Cond) ∈ sg_tbl := tb_3 _ (List.mem_of_getElem? (i := 168) (by decide +kernel)) (by decide +kernel)
theorem wl_3_169 : (.selects RX10 yX10_ended yX10_ended : Cond) ∈ sg_tbl := tb_3 _ (List.mem_of_getElem? (i := 169) (by decide +kernel)) (by decide +kernel)
theorem wl_3_162 : (.code yX10_number cX10_number 6 (some .int) : Cond) ∈ sg_tbl := tb_3 _ (List.mem_of_getElem? (i := 162) (by decide +kernel)) (by decide +kernel)
theorem wl_3_160 : (.instanceMethod yX10_number : Cond) ∈ sg_tbl := tb_3 _ (List.mem_of_getElem? (i := 160) (by decide +kernel)) (by decide +kernel)
theorem wl_3_161 : (.selects RX10 yX10_number yX10_number : Cond) ∈ sg_tbl := tb_3 _ (List.mem_of_getElem? (i := 161) (by decide +kernel)) (by decide +kernel)
theorem wl_4_32 : (.code yX3_readCut cX3_readCut 4 (some .int) : Cond) ∈ sg_tbl := tb_4 _ (List.mem_of_getElem? (i := 32) (by decide +kernel)) (by decide +kernel)
theorem wl_4_31 : (.static yX3_readCut : Cond) ∈ sg_tbl := tb_4 _ (List.mem_of_getElem? (i := 31) (by decide +kernel)) (by decide +kernel)
theorem wl_4_22 : (.code yX3_readMove cX3_readMove 4 (some .int) : Cond) ∈ sg_tbl := tb_4 _ (List.mem_of_getElem? (i := 22) (by decide +kernel)) (by decide +kernel)
theorem wl_4_21 : (.instanceMethod yX3_readMove : Cond) ∈ sg_tbl := tb_4 _ (List.mem_of_getElem? (i := 21) (by decide +kernel)) (by decide +kernel)
theorem wl_0_17 : (.selects RX3 yX3_readMove yX3_readMove : Cond) ∈ sg_tbl := tb_0 _ (List.mem_of_getElem? (i := 17) (by decide +kernel)) (by decide +kernel)
theorem wl_4_17 : (.code yX3_read cX3_read 4 (some .boolean) : Cond) ∈ sg_tbl := tb_4 _ (List.mem_of_getElem? (i := 17) (by decide +kernel)) (by decide +kernel)
theorem wl_4_15 : (.instanceMethod yX3_read : Cond) ∈ sg_tbl := tb_4 _ (List.mem_of_getElem? (i := 15) (by decide +kernel)) (by decide +kernel)
theorem wl_4_16 : (.selects RX3 yX3_read yX3_read : Cond) ∈ sg_tbl := tb_4 _ (List.mem_of_getElem? (i := 16) (by decide +kernel)) (by decide +kernel)
theorem wl_3_54 : (.code yX4_mayCome cX4_mayCome 2 (some .boolean) : Cond) ∈ sg_tbl := tb_3 _ (List.mem_of_getElem? (i := 54) (by decide +kernel)) (by decide +kernel)
theorem wl_3_53 : (.instanceMethod yX4_mayCome : Cond) ∈ sg_tbl := tb_3 _ (List.mem_of_getElem? (i := 53) (by decide +kernel)) (by decide +kernel)
theorem wl_0_2 : (.selects RX4 yX4_mayCome yX4_mayCome : Cond) ∈ sg_tbl := tb_0 _ (List.mem_of_getElem? (i := 2) (by decide +kernel)) (by decide +kernel)
theorem wl_3_166 : (.code yX4_readSpot cX4_readSpot 5 (some .boolean) : Cond) ∈ sg_tbl := tb_3 _ (List.mem_of_getElem? (i := 166) (by decide +kernel)) (by decide +kernel)
theorem wl_3_165 : (.instanceMethod yX4_readSpot : Cond) ∈ sg_tbl := tb_3 _ (List.mem_of_getElem? (i := 165) (by decide +kernel)) (by decide +kernel)
theorem wl_0_4 : (.selects RX4 yX4_readSpot yX4_readSpot : Cond) ∈ sg_tbl := tb_0 _ (List.mem_of_getElem? (i := 4) (by decide +kernel)) (by decide +kernel)
theorem wl_3_176 : (.code yX4_isWhole cX4_isWhole 1 (some .boolean) : Cond) ∈ sg_tbl := tb_3 _ (List.mem_of_getElem? (i := 176) (by decide +kernel)) (by decide +kernel)
theorem wl_3_175 : (.instanceMethod yX4_isWhole : Cond) ∈ sg_tbl := tb_3 _ (List.mem_of_getElem? (i := 175) (by decide +kernel)) (by decide +kernel)
theorem wl_0_5 : (.selects RX4 yX4_isWhole yX4_isWhole : Cond) ∈ sg_tbl := tb_0 _ (List.mem_of_getElem? (i := 5) (by decide +kernel)) (by decide +kernel)
section
variable {p : Program} {l : Launch} {e : Env} {R : Room} {s : State} {m : MethodId} {args : Array Value} {below : List Frame} {meth : Method} {c : Code} {H : Heap} {locs : List Loc} {cells slots : Nat} {Q : State → Prop} {cc : ByteArray} {nL pc : Nat} {ls : Array Slot} {rest : List Value} {own : String} {D : va_G} {A : Nat → Prop} {tys : List (ClassId × FieldType)} {ad ks : List Nat} {P : sgPm} {H0 : Heap} {index : Nat} {base : Nat} {st0 : List Value} {a : Nat}
theorem gf_X10_0w  (X : CallFix p m c cc nL s args sg_tbl own) (hK : va_K D vwCl tys s) (hG : sgG (KTw P) D vwCl A tys ad ks H) (ha : isK ad ks 10 a) (hl : Cond.fieldLink own index "LawnAhead$Tape" "bytes" "[I" ∈ sg_tbl) (hdg : decode cc pc = .ok (.getfield index, 3)) (kk : ∀ x : Nat, isK ad ks 42 x → fld D H 10 a 0 (.ref x) → W p l e R s m args below meth c H locs cells slots Q (F0 m (pc + 3) ls (.ref x :: rest))) : W p l e R s m args below meth c H locs cells slots Q (F0 m pc ls (.ref a :: rest)) :=
  sg_get X hK hG ha (k := 10) (ci := 10) rfl (C := RX10) (T := TX10) (N := 4) rfl inL_X10 0 (by decide) rfl hl (fun _ h => h) hdg (fun v hv hf => by
    obtain ⟨h1, -⟩ | ⟨x, rfl, hx⟩ := hv
    · cases h1
    · exact kk x hx hf)
theorem gf_X10_1w  (X : CallFix p m c cc nL s args sg_tbl own) (hK : va_K D vwCl tys s) (hG : sgG (KTw P) D vwCl A tys ad ks H) (ha : isK ad ks 10 a) (hl : Cond.fieldLink own index "LawnAhead$Tape" "length" "I" ∈ sg_tbl) (hdg : decode cc pc = .ok (.getfield index, 3)) (kk : ∀ x : Int32, iv 0 240 x → fld D H 10 a 1 (.int x) → W p l e R s m args below meth c H locs cells slots Q (F0 m (pc + 3) ls (.int x :: rest))) : W p l e R s m args below meth c H locs cells slots Q (F0 m pc ls (.ref a :: rest)) :=
  sg_get X hK hG ha (k := 10) (ci := 10) rfl (C := RX10) (T := TX10) (N := 4) rfl inL_X10 1 (by decide) rfl hl (fun _ h => h) hdg (fun v hv hf => by obtain ⟨x, rfl, hx⟩ := hv; exact kk x hx hf)
theorem gf_X10_2  (X : CallFix p m c cc nL s args sg_tbl own) (hK : va_K D vwCl tys s) (hG : sgG (KT P) D vwCl A tys ad ks H) (ha : isK ad ks 10 a) (hl : Cond.fieldLink own index "LawnAhead$Tape" "at" "I" ∈ sg_tbl) (hdg : decode cc pc = .ok (.getfield index, 3)) (kk : ∀ x : Int32, iv 0 240 x → fld D H 10 a 2 (.int x) → W p l e R s m args below meth c H locs cells slots Q (F0 m (pc + 3) ls (.int x :: rest))) : W p l e R s m args below meth c H locs cells slots Q (F0 m pc ls (.ref a :: rest)) :=
  sg_get X hK hG ha (k := 10) (ci := 10) rfl (C := RX10) (T := TX10) (N := 4) rfl inL_X10 2 (by decide) rfl hl (fun _ h => h) hdg (fun v hv hf => by obtain ⟨x, rfl, hx⟩ := hv; exact kk x hx hf)
theorem gf_X3_2  (X : CallFix p m c cc nL s args sg_tbl own) (hK : va_K D vwCl tys s) (hG : sgG (KT P) D vwCl A tys ad ks H) (ha : isK ad ks 3 a) (hl : Cond.fieldLink own index "LawnAhead$Game" "leaves" "I" ∈ sg_tbl) (hdg : decode cc pc = .ok (.getfield index, 3)) (kk : ∀ x : Int32, iv (-2147483648) 2147483647 x → fld D H 3 a 2 (.int x) → W p l e R s m args below meth c H locs cells slots Q (F0 m (pc + 3) ls (.int x :: rest))) : W p l e R s m args below meth c H locs cells slots Q (F0 m pc ls (.ref a :: rest)) :=
  sg_get X hK hG ha (k := 3) (ci := 3) rfl (C := RX3) (T := TX3) (N := 3) rfl inL_X3 2 (by decide) rfl hl (fun _ h => h) hdg (fun v hv hf => by obtain ⟨x, rfl, hx⟩ := hv; exact kk x hx hf)
theorem gf_X4_11  (X : CallFix p m c cc nL s args sg_tbl own) (hK : va_K D vwCl tys s) (hG : sgG (KT P) D vwCl A tys ad ks H) (ha : isK ad ks 4 a) (hl : Cond.fieldLink own index "LawnAhead$Ground" "ruled" "Z" ∈ sg_tbl) (hdg : decode cc pc = .ok (.getfield index, 3)) (kk : ∀ x : Int32, iv 0 1 x → fld D H 4 a 11 (.int x) → W p l e R s m args below meth c H locs cells slots Q (F0 m (pc + 3) ls (.int x :: rest))) : W p l e R s m args below meth c H locs cells slots Q (F0 m pc ls (.ref a :: rest)) :=
  sg_get X hK hG ha (k := 4) (ci := 4) rfl (C := RX4) (T := TX4) (N := 15) rfl inL_X4 11 (by decide) rfl hl (fun _ h => h) hdg (fun v hv hf => by obtain ⟨x, rfl, hx⟩ := hv; exact kk x hx hf)
theorem gf_X4_12  (X : CallFix p m c cc nL s args sg_tbl own) (hK : va_K D vwCl tys s) (hG : sgG (KT P) D vwCl A tys ad ks H) (ha : isK ad ks 4 a) (hl : Cond.fieldLink own index "LawnAhead$Ground" "doubled" "Z" ∈ sg_tbl) (hdg : decode cc pc = .ok (.getfield index, 3)) (kk : ∀ x : Int32, iv 0 1 x → fld D H 4 a 12 (.int x) → W p l e R s m args below meth c H locs cells slots Q (F0 m (pc + 3) ls (.int x :: rest))) : W p l e R s m args below meth c H locs cells slots Q (F0 m pc ls (.ref a :: rest)) :=
  sg_get X hK hG ha (k := 4) (ci := 4) rfl (C := RX4) (T := TX4) (N := 15) rfl inL_X4 12 (by decide) rfl hl (fun _ h => h) hdg (fun v hv hf => by obtain ⟨x, rfl, hx⟩ := hv; exact kk x hx hf)
theorem gf_X4_13  (X : CallFix p m c cc nL s args sg_tbl own) (hK : va_K D vwCl tys s) (hG : sgG (KT P) D vwCl A tys ad ks H) (ha : isK ad ks 4 a) (hl : Cond.fieldLink own index "LawnAhead$Ground" "tuftCount" "I" ∈ sg_tbl) (hdg : decode cc pc = .ok (.getfield index, 3)) (kk : ∀ x : Int32, iv (-2147483648) 2147483647 x → fld D H 4 a 13 (.int x) → W p l e R s m args below meth c H locs cells slots Q (F0 m (pc + 3) ls (.int x :: rest))) : W p l e R s m args below meth c H locs cells slots Q (F0 m pc ls (.ref a :: rest)) :=
  sg_get X hK hG ha (k := 4) (ci := 4) rfl (C := RX4) (T := TX4) (N := 15) rfl inL_X4 13 (by decide) rfl hl (fun _ h => h) hdg (fun v hv hf => by obtain ⟨x, rfl, hx⟩ := hv; exact kk x hx hf)
theorem gf_X4_14  (X : CallFix p m c cc nL s args sg_tbl own) (hK : va_K D vwCl tys s) (hG : sgG (KT P) D vwCl A tys ad ks H) (ha : isK ad ks 4 a) (hl : Cond.fieldLink own index "LawnAhead$Ground" "bedCount" "I" ∈ sg_tbl) (hdg : decode cc pc = .ok (.getfield index, 3)) (kk : ∀ x : Int32, iv (-2147483648) 2147483647 x → fld D H 4 a 14 (.int x) → W p l e R s m args below meth c H locs cells slots Q (F0 m (pc + 3) ls (.int x :: rest))) : W p l e R s m args below meth c H locs cells slots Q (F0 m pc ls (.ref a :: rest)) :=
  sg_get X hK hG ha (k := 4) (ci := 4) rfl (C := RX4) (T := TX4) (N := 15) rfl inL_X4 14 (by decide) rfl hl (fun _ h => h) hdg (fun v hv hf => by obtain ⟨x, rfl, hx⟩ := hv; exact kk x hx hf)
theorem gf_X4_9  (X : CallFix p m c cc nL s args sg_tbl own) (hK : va_K D vwCl tys s) (hG : sgG (KT P) D vwCl A tys ad ks H) (ha : isK ad ks 4 a) (hl : Cond.fieldLink own index "LawnAhead$Ground" "tufts" "I" ∈ sg_tbl) (hdg : decode cc pc = .ok (.getfield index, 3)) (kk : ∀ x : Int32, iv (-2147483648) 2147483647 x → fld D H 4 a 9 (.int x) → W p l e R s m args below meth c H locs cells slots Q (F0 m (pc + 3) ls (.int x :: rest))) : W p l e R s m args below meth c H locs cells slots Q (F0 m pc ls (.ref a :: rest)) :=
  sg_get X hK hG ha (k := 4) (ci := 4) rfl (C := RX4) (T := TX4) (N := 15) rfl inL_X4 9 (by decide) rfl hl (fun _ h => h) hdg (fun v hv hf => by obtain ⟨x, rfl, hx⟩ := hv; exact kk x hx hf)
theorem gg_X10_0  (X : CallFix p m c cc nL s args sg_tbl own) (hK : va_K D vwCl tys s) (hG : sgG (KT P) D vwCl A tys ad ks H) (ha : isK ad ks 10 a) (hl : Cond.fieldLink own index "LawnAhead$Tape" "bytes" "[I" ∈ sg_tbl) {v : Value} (hf : fld D H 10 a 0 v) (hdg : decode cc pc = .ok (.getfield index, 3)) (kk : W p l e R s m args below meth c H locs cells slots Q (F0 m (pc + 3) ls (v :: rest))) : W p l e R s m args below meth c H locs cells slots Q (F0 m pc ls (.ref a :: rest)) :=
  sg_getf X hK hG ha (k := 10) (ci := 10) rfl (C := RX10) (T := TX10) (N := 4) rfl inL_X10 0 (by decide) (show 0 < 4 by decide) hl (fun _ h => h) hf hdg kk
theorem gg_X10_1w  (X : CallFix p m c cc nL s args sg_tbl own) (hK : va_K D vwCl tys s) (hG : sgG (KTw P) D vwCl A tys ad ks H) (ha : isK ad ks 10 a) (hl : Cond.fieldLink own index "LawnAhead$Tape" "length" "I" ∈ sg_tbl) {v : Value} (hf : fld D H 10 a 1 v) (hdg : decode cc pc = .ok (.getfield index, 3)) (kk : W p l e R s m args below meth c H locs cells slots Q (F0 m (pc + 3) ls (v :: rest))) : W p l e R s m args below meth c H locs cells slots Q (F0 m pc ls (.ref a :: rest)) :=
  sg_getf X hK hG ha (k := 10) (ci := 10) rfl (C := RX10) (T := TX10) (N := 4) rfl inL_X10 1 (by decide) (show 1 < 4 by decide) hl (fun _ h => h) hf hdg kk
theorem gg_X10_2  (X : CallFix p m c cc nL s args sg_tbl own) (hK : va_K D vwCl tys s) (hG : sgG (KT P) D vwCl A tys ad ks H) (ha : isK ad ks 10 a) (hl : Cond.fieldLink own index "LawnAhead$Tape" "at" "I" ∈ sg_tbl) {v : Value} (hf : fld D H 10 a 2 v) (hdg : decode cc pc = .ok (.getfield index, 3)) (kk : W p l e R s m args below meth c H locs cells slots Q (F0 m (pc + 3) ls (v :: rest))) : W p l e R s m args below meth c H locs cells slots Q (F0 m pc ls (.ref a :: rest)) :=
  sg_getf X hK hG ha (k := 10) (ci := 10) rfl (C := RX10) (T := TX10) (N := 4) rfl inL_X10 2 (by decide) (show 2 < 4 by decide) hl (fun _ h => h) hf hdg kk
theorem gg_X10_2w  (X : CallFix p m c cc nL s args sg_tbl own) (hK : va_K D vwCl tys s) (hG : sgG (KTw P) D vwCl A tys ad ks H) (ha : isK ad ks 10 a) (hl : Cond.fieldLink own index "LawnAhead$Tape" "at" "I" ∈ sg_tbl) {v : Value} (hf : fld D H 10 a 2 v) (hdg : decode cc pc = .ok (.getfield index, 3)) (kk : W p l e R s m args below meth c H locs cells slots Q (F0 m (pc + 3) ls (v :: rest))) : W p l e R s m args below meth c H locs cells slots Q (F0 m pc ls (.ref a :: rest)) :=
  sg_getf X hK hG ha (k := 10) (ci := 10) rfl (C := RX10) (T := TX10) (N := 4) rfl inL_X10 2 (by decide) (show 2 < 4 by decide) hl (fun _ h => h) hf hdg kk
theorem gg_X4_10  (X : CallFix p m c cc nL s args sg_tbl own) (hK : va_K D vwCl tys s) (hG : sgG (KT P) D vwCl A tys ad ks H) (ha : isK ad ks 4 a) (hl : Cond.fieldLink own index "LawnAhead$Ground" "beds" "I" ∈ sg_tbl) {v : Value} (hf : fld D H 4 a 10 v) (hdg : decode cc pc = .ok (.getfield index, 3)) (kk : W p l e R s m args below meth c H locs cells slots Q (F0 m (pc + 3) ls (v :: rest))) : W p l e R s m args below meth c H locs cells slots Q (F0 m pc ls (.ref a :: rest)) :=
  sg_getf X hK hG ha (k := 4) (ci := 4) rfl (C := RX4) (T := TX4) (N := 15) rfl inL_X4 10 (by decide) (show 10 < 15 by decide) hl (fun _ h => h) hf hdg kk
theorem gg_X4_6  (X : CallFix p m c cc nL s args sg_tbl own) (hK : va_K D vwCl tys s) (hG : sgG (KT P) D vwCl A tys ad ks H) (ha : isK ad ks 4 a) (hl : Cond.fieldLink own index "LawnAhead$Ground" "all" "I" ∈ sg_tbl) {v : Value} (hf : fld D H 4 a 6 v) (hdg : decode cc pc = .ok (.getfield index, 3)) (kk : W p l e R s m args below meth c H locs cells slots Q (F0 m (pc + 3) ls (v :: rest))) : W p l e R s m args below meth c H locs cells slots Q (F0 m pc ls (.ref a :: rest)) :=
  sg_getf X hK hG ha (k := 4) (ci := 4) rfl (C := RX4) (T := TX4) (N := 15) rfl inL_X4 6 (by decide) (show 6 < 15 by decide) hl (fun _ h => h) hf hdg kk
theorem gg_X4_8  (X : CallFix p m c cc nL s args sg_tbl own) (hK : va_K D vwCl tys s) (hG : sgG (KT P) D vwCl A tys ad ks H) (ha : isK ad ks 4 a) (hl : Cond.fieldLink own index "LawnAhead$Ground" "height" "I" ∈ sg_tbl) {v : Value} (hf : fld D H 4 a 8 v) (hdg : decode cc pc = .ok (.getfield index, 3)) (kk : W p l e R s m args below meth c H locs cells slots Q (F0 m (pc + 3) ls (v :: rest))) : W p l e R s m args below meth c H locs cells slots Q (F0 m pc ls (.ref a :: rest)) :=
  sg_getf X hK hG ha (k := 4) (ci := 4) rfl (C := RX4) (T := TX4) (N := 15) rfl inL_X4 8 (by decide) (show 8 < 15 by decide) hl (fun _ h => h) hf hdg kk
theorem gg_X4_9  (X : CallFix p m c cc nL s args sg_tbl own) (hK : va_K D vwCl tys s) (hG : sgG (KT P) D vwCl A tys ad ks H) (ha : isK ad ks 4 a) (hl : Cond.fieldLink own index "LawnAhead$Ground" "tufts" "I" ∈ sg_tbl) {v : Value} (hf : fld D H 4 a 9 v) (hdg : decode cc pc = .ok (.getfield index, 3)) (kk : W p l e R s m args below meth c H locs cells slots Q (F0 m (pc + 3) ls (v :: rest))) : W p l e R s m args below meth c H locs cells slots Q (F0 m pc ls (.ref a :: rest)) :=
  sg_getf X hK hG ha (k := 4) (ci := 4) rfl (C := RX4) (T := TX4) (N := 15) rfl inL_X4 9 (by decide) (show 9 < 15 by decide) hl (fun _ h => h) hf hdg kk
theorem pf_X10_2  {x : Int32} (X : CallFix p m c cc nL s args sg_tbl own) (hK : va_K D vwCl tys s) (hG : sgG (KT P) D vwCl A tys ad ks H) (hS : va_S A H0 H locs) (ha : isK ad ks 10 a) (hl : Cond.fieldLink own index "LawnAhead$Tape" "at" "I" ∈ sg_tbl) (hv : okV ad ks (.inl (0, 240)) (.int x)) (hdg : decode cc pc = .ok (.putfield index, 3)) (kk : ∀ (H1 : Heap) (locs1 : List Loc), sgG (KT P) D vwCl A tys ad ks H1 → va_S A H0 H1 locs1 → fld D H1 10 a 2 (.int x) → sgFr (KT P) D vwCl ad ks H H1 (fun a' j' => a' = a ∧ j' = 2) → W p l e R s m args below meth c H1 locs1 cells slots Q (F0 m (pc + 3) ls rest)) : W p l e R s m args below meth c H locs cells slots Q (F0 m pc ls (.int x :: .ref a :: rest)) :=
  sg_put X hK hG hS ha (k := 10) (ci := 10) rfl (C := RX10) (T := TX10) (N := 4) rfl inL_X10 tyX10 tyX10_ok nmX10 2 (by decide) rfl hl (fun _ h => h) rfl (ty := .int) rfl rfl rfl hv hdg kk
theorem pf_X10_2c  {x : Int32} (X : CallFix p m c cc nL s args sg_tbl own) (hK : va_K D vwCl tys s) (hG : sgG (KTw P) D vwCl A tys ad ks H) (hS : va_S A H0 H locs) (ha : isK ad ks 10 a) (hl : Cond.fieldLink own index "LawnAhead$Tape" "at" "I" ∈ sg_tbl) (hv : okV ad ks (.inl (0, 240)) (.int x)) (hdg : decode cc pc = .ok (.putfield index, 3)) (kk : ∀ (H1 : Heap) (locs1 : List Loc), sgG (KT P) D vwCl A tys ad ks H1 → va_S A H0 H1 locs1 → True → True → W p l e R s m args below meth c H1 locs1 cells slots Q (F0 m (pc + 3) ls rest)) : W p l e R s m args below meth c H locs cells slots Q (F0 m pc ls (.int x :: .ref a :: rest)) :=
  sg_put1 (kt' := KT P) X hK hG hS ha (k := 10) (by decide) (ci := 10) (fts := [.inr (.inl (false, 42)), .inl (0, 240), .inl (0, 241), .inl ((-2147483648), 2147483647)]) (fts' := [.inr (.inl (false, 42)), .inl (0, 240), .inl (0, 240), .inl ((-2147483648), 2147483647)]) rfl rfl (C := RX10) (T := TX10) (N := 4) rfl inL_X10 tyX10 tyX10_ok nmX10 2 (by decide) rfl rfl (fun i hi => by match i, hi with
    | 0, hi => rfl
    | 1, hi => rfl
    | 2, hi => exact absurd rfl hi
    | 3, hi => rfl
    | i + 4, hi => rfl) (fun i hi => by match i, hi with
    | 0, hi => rfl
    | 1, hi => rfl
    | 2, hi => rfl
    | 3, hi => rfl
    | 4, hi => rfl
    | 5, hi => rfl
    | 6, hi => rfl
    | 7, hi => rfl
    | 8, hi => rfl
    | 9, hi => rfl
    | 10, hi => exact absurd rfl hi
    | 11, hi => rfl
    | 12, hi => rfl
    | 13, hi => rfl
    | 14, hi => rfl
    | 15, hi => rfl
    | 16, hi => rfl
    | 17, hi => rfl
    | 18, hi => rfl
    | 19, hi => rfl
    | 20, hi => rfl
    | 21, hi => rfl
    | 22, hi => rfl
    | 23, hi => rfl
    | 24, hi => rfl
    | 25, hi => rfl
    | 26, hi => rfl
    | 27, hi => rfl
    | 28, hi => rfl
    | 29, hi => rfl
    | 30, hi => rfl
    | 31, hi => rfl
    | 32, hi => rfl
    | 33, hi => rfl
    | 34, hi => rfl
    | 35, hi => rfl
    | 36, hi => rfl
    | 37, hi => rfl
    | 38, hi => rfl
    | 39, hi => rfl
    | 40, hi => rfl
    | 41, hi => rfl
    | 42, hi => rfl
    | 43, hi => rfl
    | 44, hi => rfl
    | i + 45, hi => rfl) hl (fun _ h => h) rfl (ty := .int) rfl rfl rfl hv hdg (fun H1 locs1 h1 h2 => kk H1 locs1 h1 h2 trivial trivial)
theorem pf_X10_2w  {x : Int32} (X : CallFix p m c cc nL s args sg_tbl own) (hK : va_K D vwCl tys s) (hG : sgG (KTw P) D vwCl A tys ad ks H) (hS : va_S A H0 H locs) (ha : isK ad ks 10 a) (hl : Cond.fieldLink own index "LawnAhead$Tape" "at" "I" ∈ sg_tbl) (hv : okV ad ks (.inl (0, 241)) (.int x)) (hdg : decode cc pc = .ok (.putfield index, 3)) (kk : ∀ (H1 : Heap) (locs1 : List Loc), sgG (KTw P) D vwCl A tys ad ks H1 → va_S A H0 H1 locs1 → fld D H1 10 a 2 (.int x) → sgFr (KTw P) D vwCl ad ks H H1 (fun a' j' => a' = a ∧ j' = 2) → W p l e R s m args below meth c H1 locs1 cells slots Q (F0 m (pc + 3) ls rest)) : W p l e R s m args below meth c H locs cells slots Q (F0 m pc ls (.int x :: .ref a :: rest)) :=
  sg_put X hK hG hS ha (k := 10) (ci := 10) rfl (C := RX10) (T := TX10) (N := 4) rfl inL_X10 tyX10 tyX10_ok nmX10 2 (by decide) rfl hl (fun _ h => h) rfl (ty := .int) rfl rfl rfl hv hdg kk
theorem pf_X10_3  {x : Int32} (X : CallFix p m c cc nL s args sg_tbl own) (hK : va_K D vwCl tys s) (hG : sgG (KT P) D vwCl A tys ad ks H) (hS : va_S A H0 H locs) (ha : isK ad ks 10 a) (hl : Cond.fieldLink own index "LawnAhead$Tape" "wrongAt" "I" ∈ sg_tbl) (hv : okV ad ks (.inl ((-2147483648), 2147483647)) (.int x)) (hdg : decode cc pc = .ok (.putfield index, 3)) (kk : ∀ (H1 : Heap) (locs1 : List Loc), sgG (KT P) D vwCl A tys ad ks H1 → va_S A H0 H1 locs1 → fld D H1 10 a 3 (.int x) → sgFr (KT P) D vwCl ad ks H H1 (fun a' j' => a' = a ∧ j' = 3) → W p l e R s m args below meth c H1 locs1 cells slots Q (F0 m (pc + 3) ls rest)) : W p l e R s m args below meth c H locs cells slots Q (F0 m pc ls (.int x :: .ref a :: rest)) :=
  sg_put X hK hG hS ha (k := 10) (ci := 10) rfl (C := RX10) (T := TX10) (N := 4) rfl inL_X10 tyX10 tyX10_ok nmX10 3 (by decide) rfl hl (fun _ h => h) rfl (ty := .int) rfl rfl rfl hv hdg kk
theorem pf_X3_1  {x : Int32} (X : CallFix p m c cc nL s args sg_tbl own) (hK : va_K D vwCl tys s) (hG : sgG (KT P) D vwCl A tys ad ks H) (hS : va_S A H0 H locs) (ha : isK ad ks 3 a) (hl : Cond.fieldLink own index "LawnAhead$Game" "count" "I" ∈ sg_tbl) (hv : okV ad ks (.inl (0, 16)) (.int x)) (hdg : decode cc pc = .ok (.putfield index, 3)) (kk : ∀ (H1 : Heap) (locs1 : List Loc), sgG (KT P) D vwCl A tys ad ks H1 → va_S A H0 H1 locs1 → fld D H1 3 a 1 (.int x) → sgFr (KT P) D vwCl ad ks H H1 (fun a' j' => a' = a ∧ j' = 1) → W p l e R s m args below meth c H1 locs1 cells slots Q (F0 m (pc + 3) ls rest)) : W p l e R s m args below meth c H locs cells slots Q (F0 m pc ls (.int x :: .ref a :: rest)) :=
  sg_put X hK hG hS ha (k := 3) (ci := 3) rfl (C := RX3) (T := TX3) (N := 3) rfl inL_X3 tyX3 tyX3_ok nmX3 1 (by decide) rfl hl (fun _ h => h) rfl (ty := .int) rfl rfl rfl hv hdg kk
theorem pf_X3_2  {x : Int32} (X : CallFix p m c cc nL s args sg_tbl own) (hK : va_K D vwCl tys s) (hG : sgG (KT P) D vwCl A tys ad ks H) (hS : va_S A H0 H locs) (ha : isK ad ks 3 a) (hl : Cond.fieldLink own index "LawnAhead$Game" "leaves" "I" ∈ sg_tbl) (hv : okV ad ks (.inl ((-2147483648), 2147483647)) (.int x)) (hdg : decode cc pc = .ok (.putfield index, 3)) (kk : ∀ (H1 : Heap) (locs1 : List Loc), sgG (KT P) D vwCl A tys ad ks H1 → va_S A H0 H1 locs1 → fld D H1 3 a 2 (.int x) → sgFr (KT P) D vwCl ad ks H H1 (fun a' j' => a' = a ∧ j' = 2) → W p l e R s m args below meth c H1 locs1 cells slots Q (F0 m (pc + 3) ls rest)) : W p l e R s m args below meth c H locs cells slots Q (F0 m pc ls (.int x :: .ref a :: rest)) :=
  sg_put X hK hG hS ha (k := 3) (ci := 3) rfl (C := RX3) (T := TX3) (N := 3) rfl inL_X3 tyX3 tyX3_ok nmX3 2 (by decide) rfl hl (fun _ h => h) rfl (ty := .int) rfl rfl rfl hv hdg kk
theorem pf_X4_10  {x : Int32} (X : CallFix p m c cc nL s args sg_tbl own) (hK : va_K D vwCl tys s) (hG : sgG (KT P) D vwCl A tys ad ks H) (hS : va_S A H0 H locs) (ha : isK ad ks 4 a) (hl : Cond.fieldLink own index "LawnAhead$Ground" "beds" "I" ∈ sg_tbl) (hv : okV ad ks (.inl ((-2147483648), 2147483647)) (.int x)) (hdg : decode cc pc = .ok (.putfield index, 3)) (kk : ∀ (H1 : Heap) (locs1 : List Loc), sgG (KT P) D vwCl A tys ad ks H1 → va_S A H0 H1 locs1 → fld D H1 4 a 10 (.int x) → sgFr (KT P) D vwCl ad ks H H1 (fun a' j' => a' = a ∧ j' = 10) → W p l e R s m args below meth c H1 locs1 cells slots Q (F0 m (pc + 3) ls rest)) : W p l e R s m args below meth c H locs cells slots Q (F0 m pc ls (.int x :: .ref a :: rest)) :=
  sg_put X hK hG hS ha (k := 4) (ci := 4) rfl (C := RX4) (T := TX4) (N := 15) rfl inL_X4 tyX4 tyX4_ok nmX4 10 (by decide) rfl hl (fun _ h => h) rfl (ty := .int) rfl rfl rfl hv hdg kk
theorem pf_X4_12  {x : Int32} (X : CallFix p m c cc nL s args sg_tbl own) (hK : va_K D vwCl tys s) (hG : sgG (KT P) D vwCl A tys ad ks H) (hS : va_S A H0 H locs) (ha : isK ad ks 4 a) (hl : Cond.fieldLink own index "LawnAhead$Ground" "doubled" "Z" ∈ sg_tbl) (hv : okV ad ks (.inl (0, 1)) (.int x)) (hdg : decode cc pc = .ok (.putfield index, 3)) (kk : ∀ (H1 : Heap) (locs1 : List Loc), sgG (KT P) D vwCl A tys ad ks H1 → va_S A H0 H1 locs1 → fld D H1 4 a 12 (.int x) → sgFr (KT P) D vwCl ad ks H H1 (fun a' j' => a' = a ∧ j' = 12) → W p l e R s m args below meth c H1 locs1 cells slots Q (F0 m (pc + 3) ls rest)) : W p l e R s m args below meth c H locs cells slots Q (F0 m pc ls (.int x :: .ref a :: rest)) :=
  sg_put X hK hG hS ha (k := 4) (ci := 4) rfl (C := RX4) (T := TX4) (N := 15) rfl inL_X4 tyX4 tyX4_ok nmX4 12 (by decide) rfl hl (fun _ h => h) rfl (ty := .boolean) rfl (by obtain ⟨y, h1, h2⟩ := hv; cases h1; exact sg_zn h2) (by obtain ⟨y, h1, h2⟩ := hv; cases h1; rcases iv_01 h2 with rfl | rfl <;> rfl) hv hdg kk
theorem pf_X4_13  {x : Int32} (X : CallFix p m c cc nL s args sg_tbl own) (hK : va_K D vwCl tys s) (hG : sgG (KT P) D vwCl A tys ad ks H) (hS : va_S A H0 H locs) (ha : isK ad ks 4 a) (hl : Cond.fieldLink own index "LawnAhead$Ground" "tuftCount" "I" ∈ sg_tbl) (hv : okV ad ks (.inl ((-2147483648), 2147483647)) (.int x)) (hdg : decode cc pc = .ok (.putfield index, 3)) (kk : ∀ (H1 : Heap) (locs1 : List Loc), sgG (KT P) D vwCl A tys ad ks H1 → va_S A H0 H1 locs1 → fld D H1 4 a 13 (.int x) → sgFr (KT P) D vwCl ad ks H H1 (fun a' j' => a' = a ∧ j' = 13) → W p l e R s m args below meth c H1 locs1 cells slots Q (F0 m (pc + 3) ls rest)) : W p l e R s m args below meth c H locs cells slots Q (F0 m pc ls (.int x :: .ref a :: rest)) :=
  sg_put X hK hG hS ha (k := 4) (ci := 4) rfl (C := RX4) (T := TX4) (N := 15) rfl inL_X4 tyX4 tyX4_ok nmX4 13 (by decide) rfl hl (fun _ h => h) rfl (ty := .int) rfl rfl rfl hv hdg kk
theorem pf_X4_14  {x : Int32} (X : CallFix p m c cc nL s args sg_tbl own) (hK : va_K D vwCl tys s) (hG : sgG (KT P) D vwCl A tys ad ks H) (hS : va_S A H0 H locs) (ha : isK ad ks 4 a) (hl : Cond.fieldLink own index "LawnAhead$Ground" "bedCount" "I" ∈ sg_tbl) (hv : okV ad ks (.inl ((-2147483648), 2147483647)) (.int x)) (hdg : decode cc pc = .ok (.putfield index, 3)) (kk : ∀ (H1 : Heap) (locs1 : List Loc), sgG (KT P) D vwCl A tys ad ks H1 → va_S A H0 H1 locs1 → fld D H1 4 a 14 (.int x) → sgFr (KT P) D vwCl ad ks H H1 (fun a' j' => a' = a ∧ j' = 14) → W p l e R s m args below meth c H1 locs1 cells slots Q (F0 m (pc + 3) ls rest)) : W p l e R s m args below meth c H locs cells slots Q (F0 m pc ls (.int x :: .ref a :: rest)) :=
  sg_put X hK hG hS ha (k := 4) (ci := 4) rfl (C := RX4) (T := TX4) (N := 15) rfl inL_X4 tyX4 tyX4_ok nmX4 14 (by decide) rfl hl (fun _ h => h) rfl (ty := .int) rfl rfl rfl hv hdg kk
theorem pf_X4_5  {x : Int32} (X : CallFix p m c cc nL s args sg_tbl own) (hK : va_K D vwCl tys s) (hG : sgG (KT P) D vwCl A tys ad ks H) (hS : va_S A H0 H locs) (ha : isK ad ks 4 a) (hl : Cond.fieldLink own index "LawnAhead$Ground" "cells" "I" ∈ sg_tbl) (hv : okV ad ks (.inl (0, 30)) (.int x)) (hdg : decode cc pc = .ok (.putfield index, 3)) (kk : ∀ (H1 : Heap) (locs1 : List Loc), sgG (KT P) D vwCl A tys ad ks H1 → va_S A H0 H1 locs1 → fld D H1 4 a 5 (.int x) → sgFr (KT P) D vwCl ad ks H H1 (fun a' j' => a' = a ∧ j' = 5) → W p l e R s m args below meth c H1 locs1 cells slots Q (F0 m (pc + 3) ls rest)) : W p l e R s m args below meth c H locs cells slots Q (F0 m pc ls (.int x :: .ref a :: rest)) :=
  sg_put X hK hG hS ha (k := 4) (ci := 4) rfl (C := RX4) (T := TX4) (N := 15) rfl inL_X4 tyX4 tyX4_ok nmX4 5 (by decide) rfl hl (fun _ h => h) rfl (ty := .int) rfl rfl rfl hv hdg kk
theorem pf_X4_6  {x : Int32} (X : CallFix p m c cc nL s args sg_tbl own) (hK : va_K D vwCl tys s) (hG : sgG (KT P) D vwCl A tys ad ks H) (hS : va_S A H0 H locs) (ha : isK ad ks 4 a) (hl : Cond.fieldLink own index "LawnAhead$Ground" "all" "I" ∈ sg_tbl) (hv : okV ad ks (.inl ((-2147483648), 2147483647)) (.int x)) (hdg : decode cc pc = .ok (.putfield index, 3)) (kk : ∀ (H1 : Heap) (locs1 : List Loc), sgG (KT P) D vwCl A tys ad ks H1 → va_S A H0 H1 locs1 → fld D H1 4 a 6 (.int x) → sgFr (KT P) D vwCl ad ks H H1 (fun a' j' => a' = a ∧ j' = 6) → W p l e R s m args below meth c H1 locs1 cells slots Q (F0 m (pc + 3) ls rest)) : W p l e R s m args below meth c H locs cells slots Q (F0 m pc ls (.int x :: .ref a :: rest)) :=
  sg_put X hK hG hS ha (k := 4) (ci := 4) rfl (C := RX4) (T := TX4) (N := 15) rfl inL_X4 tyX4 tyX4_ok nmX4 6 (by decide) rfl hl (fun _ h => h) rfl (ty := .int) rfl rfl rfl hv hdg kk
theorem pf_X4_7  {x : Int32} (X : CallFix p m c cc nL s args sg_tbl own) (hK : va_K D vwCl tys s) (hG : sgG (KT P) D vwCl A tys ad ks H) (hS : va_S A H0 H locs) (ha : isK ad ks 4 a) (hl : Cond.fieldLink own index "LawnAhead$Ground" "width" "I" ∈ sg_tbl) (hv : okV ad ks (.inl ((-2147483648), 2147483647)) (.int x)) (hdg : decode cc pc = .ok (.putfield index, 3)) (kk : ∀ (H1 : Heap) (locs1 : List Loc), sgG (KT P) D vwCl A tys ad ks H1 → va_S A H0 H1 locs1 → fld D H1 4 a 7 (.int x) → sgFr (KT P) D vwCl ad ks H H1 (fun a' j' => a' = a ∧ j' = 7) → W p l e R s m args below meth c H1 locs1 cells slots Q (F0 m (pc + 3) ls rest)) : W p l e R s m args below meth c H locs cells slots Q (F0 m pc ls (.int x :: .ref a :: rest)) :=
  sg_put X hK hG hS ha (k := 4) (ci := 4) rfl (C := RX4) (T := TX4) (N := 15) rfl inL_X4 tyX4 tyX4_ok nmX4 7 (by decide) rfl hl (fun _ h => h) rfl (ty := .int) rfl rfl rfl hv hdg kk
theorem pf_X4_8  {x : Int32} (X : CallFix p m c cc nL s args sg_tbl own) (hK : va_K D vwCl tys s) (hG : sgG (KT P) D vwCl A tys ad ks H) (hS : va_S A H0 H locs) (ha : isK ad ks 4 a) (hl : Cond.fieldLink own index "LawnAhead$Ground" "height" "I" ∈ sg_tbl) (hv : okV ad ks (.inl ((-2147483648), 2147483647)) (.int x)) (hdg : decode cc pc = .ok (.putfield index, 3)) (kk : ∀ (H1 : Heap) (locs1 : List Loc), sgG (KT P) D vwCl A tys ad ks H1 → va_S A H0 H1 locs1 → fld D H1 4 a 8 (.int x) → sgFr (KT P) D vwCl ad ks H H1 (fun a' j' => a' = a ∧ j' = 8) → W p l e R s m args below meth c H1 locs1 cells slots Q (F0 m (pc + 3) ls rest)) : W p l e R s m args below meth c H locs cells slots Q (F0 m pc ls (.int x :: .ref a :: rest)) :=
  sg_put X hK hG hS ha (k := 4) (ci := 4) rfl (C := RX4) (T := TX4) (N := 15) rfl inL_X4 tyX4 tyX4_ok nmX4 8 (by decide) rfl hl (fun _ h => h) rfl (ty := .int) rfl rfl rfl hv hdg kk
theorem pf_X4_9  {x : Int32} (X : CallFix p m c cc nL s args sg_tbl own) (hK : va_K D vwCl tys s) (hG : sgG (KT P) D vwCl A tys ad ks H) (hS : va_S A H0 H locs) (ha : isK ad ks 4 a) (hl : Cond.fieldLink own index "LawnAhead$Ground" "tufts" "I" ∈ sg_tbl) (hv : okV ad ks (.inl ((-2147483648), 2147483647)) (.int x)) (hdg : decode cc pc = .ok (.putfield index, 3)) (kk : ∀ (H1 : Heap) (locs1 : List Loc), sgG (KT P) D vwCl A tys ad ks H1 → va_S A H0 H1 locs1 → fld D H1 4 a 9 (.int x) → sgFr (KT P) D vwCl ad ks H H1 (fun a' j' => a' = a ∧ j' = 9) → W p l e R s m args below meth c H1 locs1 cells slots Q (F0 m (pc + 3) ls rest)) : W p l e R s m args below meth c H locs cells slots Q (F0 m pc ls (.int x :: .ref a :: rest)) :=
  sg_put X hK hG hS ha (k := 4) (ci := 4) rfl (C := RX4) (T := TX4) (N := 15) rfl inL_X4 tyX4 tyX4_ok nmX4 9 (by decide) rfl hl (fun _ h => h) rfl (ty := .int) rfl rfl rfl hv hdg kk
theorem pk_X10_2 (hG : sgG (KT P) D vwCl A tys ad ks H) (ha : isK ad ks 10 a) : ∃ x : Int32, iv 0 240 x ∧ fld D H 10 a 2 (.int x) := by
  obtain ⟨v, hv, hf⟩ := sg_peek hG ha (k := 10) (ci := 10) rfl (r := (RX10, TX10, 4)) rfl 2 (show 2 < 4 by decide) rfl
  obtain ⟨x, rfl, hx⟩ := hv
  exact ⟨x, hx, hf⟩
theorem al_42  {i : Int32} (X : CallFix p m c cc nL s args sg_tbl own) (hK : va_K D vwCl tys s) (hG : sgG (KT P) D vwCl A tys ad ks H) (ha : isK ad ks 42 a) (hin : vp_in i 240) (hdg : decode cc pc = .ok (.iaload, 1)) (kk : ∀ x : Int32, iv (-2147483648) 2147483647 x → W p l e R s m args below meth c H locs cells slots Q (F0 m (pc + 1) ls (.int x :: rest))) : W p l e R s m args below meth c H locs cells slots Q (F0 m pc ls (.int i :: .ref a :: rest)) :=
  sg_iald X hK hG ha (k := 42) rfl hin hdg (fun x hx => by obtain ⟨y, h1, h2⟩ := hx; cases h1; exact kk _ h2)
theorem al_42w  {i : Int32} (X : CallFix p m c cc nL s args sg_tbl own) (hK : va_K D vwCl tys s) (hG : sgG (KTw P) D vwCl A tys ad ks H) (ha : isK ad ks 42 a) (hin : vp_in i 240) (hdg : decode cc pc = .ok (.iaload, 1)) (kk : ∀ x : Int32, iv (-2147483648) 2147483647 x → W p l e R s m args below meth c H locs cells slots Q (F0 m (pc + 1) ls (.int x :: rest))) : W p l e R s m args below meth c H locs cells slots Q (F0 m pc ls (.int i :: .ref a :: rest)) :=
  sg_iald X hK hG ha (k := 42) rfl hin hdg (fun x hx => by obtain ⟨y, h1, h2⟩ := hx; cases h1; exact kk _ h2)
theorem as_20  {i : Int32} {x : Int32} (X : CallFix p m c cc nL s args sg_tbl own) (hK : va_K D vwCl tys s) (hG : sgG (KT P) D vwCl A tys ad ks H) (hS : va_S A H0 H locs) (ha : isK ad ks 20 a) (hin : vp_in i 16) (hv : okV ad ks (.inl ((-2147483648), 2147483647)) (.int x)) (hdg : decode cc pc = .ok (.iastore, 1)) (kk : ∀ (H1 : Heap) (locs1 : List Loc), sgG (KT P) D vwCl A tys ad ks H1 → va_S A H0 H1 locs1 → sgFr (KT P) D vwCl ad ks H H1 (fun _ _ => False) → W p l e R s m args below meth c H1 locs1 cells slots Q (F0 m (pc + 1) ls rest)) : W p l e R s m args below meth c H locs cells slots Q (F0 m pc ls (.int x :: .int i :: .ref a :: rest)) :=
  sg_iast X hK hG hS ha (k := 20) rfl hin hv hdg kk
set_option maxHeartbeats 8000000 in
set_option maxRecDepth 100000 in
theorem m_X10_rewind (l : Launch) {D : va_G} {base : Nat} {tys : List (ClassId × FieldType)} {ad ks : List Nat} {P : sgPm} (a0 : Nat) (h0 : isK ad ks 10 a0) : sgMv l (KT P) D vwCl base tys ad ks yX10_rewind cX10_rewind 1 none ({ frames := 0, cells := 0, slots := 0, locals := 0 }) [.ref a0] := by
  refine sg_ofW (by decide +kernel) (Nat.le_of_ble_eq_true rfl) (fun p e s m below meth c X hr hlk hb hK hC hG ls hl => ?_)
  have hS : va_S (fun q : Nat => base ≤ q) s.heap s.heap [] := va_S.rf
  have hl : lv_has ls 1 [(0, .ref a0)] := hl
  refine lv_aload_n X.1 X.2.1 dX10_rewind_0 rfl (lv_at hl 0 rfl) ?_
  refine lv_iconst (v := (-1)) X.1 X.2.1 dX10_rewind_1 (by decide +kernel) ?_
  refine pf_X10_3 X hK hG hS h0 wl_1_45 ⟨_, rfl, (iv_of (iv_c (-1) (a := (-1)) (b := (-1)) (by decide +kernel)) (a' := (-2147483648)) (b' := 2147483647) (by decide +kernel))⟩ dX10_rewind_2 (fun H locs hG hS ku1 ru1 => ?_)
  refine lv_aload_n X.1 X.2.1 dX10_rewind_5 rfl (lv_at hl 0 rfl) ?_
  refine lv_iconst (v := 0) X.1 X.2.1 dX10_rewind_6 (by decide +kernel) ?_
  refine pf_X10_2 X hK hG hS h0 wl_1_44 ⟨_, rfl, (iv_of (iv_c 0 (a := 0) (b := 0) (by decide +kernel)) (a' := 0) (b' := 240) (by decide +kernel))⟩ dX10_rewind_7 (fun H locs hG hS ku2 ru2 => ?_)
  have B3_10 : ∀ (N : Nat) (H : Heap) (locs : List Loc) (ls : Array Slot) (v3_0_2 : Int32), sgG (KT P) D vwCl (fun q : Nat => base ≤ q) tys ad ks H → va_S (fun q : Nat => base ≤ q) s.heap H locs → lv_has ls 1 [(0, .ref a0)] → iv 0 240 v3_0_2 → fld D H 10 a0 2 (.int v3_0_2) → (241 - v3_0_2.toInt).toNat ≤ N → W p l e (headSpec (Cond.code yX10_rewind cX10_rewind 1 none :: sg_tbl) ({ frames := 0, cells := 0, slots := 0, locals := 0 })).room s m #[.ref a0] below meth c H locs 0 0 (MQ below (va_Qv (fun (_ : Unit) => True) (fun _ => sgB (KT P) D vwCl base tys ad ks) (fun q : Nat => base ≤ q)) #[.ref a0] s 0 0 (fun q : Nat => base ≤ q)) (F0 m 10 ls []) := by
    intro N; induction N with
    | zero =>
      intro H locs ls v3_0_2 hG hS hl hv3_0_2 hkv3_0_2 hN
      exact absurd hN (by have := iv_up hv3_0_2; omega)
    | succ N ih3 =>
      intro H locs ls v3_0_2 hG hS hl hv3_0_2 hkv3_0_2 hN3
      refine lv_aload_n X.1 X.2.1 dX10_rewind_10 rfl (lv_at hl 0 rfl) ?_
      refine gg_X10_2 X hK hG h0 wl_1_44 (P := P) hkv3_0_2 dX10_rewind_11 ?_
      refine lv_aload_n X.1 X.2.1 dX10_rewind_14 rfl (lv_at hl 0 rfl) ?_
      refine gf_X10_1 X hK hG h0 wl_1_43 dX10_rewind_15 (fun f4 hf4 kf4 => ?_)
      refine lv_icmp_ge (tgt := 48) X.1 X.2.1 dX10_rewind_18 (by decide) (fun c5 => ?_) (fun c5 => ?_)
      · exact sg_vret X hr hlk hb hK hC hG hS dX10_rewind_48
      · refine lv_aload_n X.1 X.2.1 dX10_rewind_21 rfl (lv_at hl 0 rfl) ?_
        refine gf_X10_0 X hK hG h0 wl_1_41 dX10_rewind_22 (fun q6 hq6 kq6 => ?_)
        refine lv_aload_n X.1 X.2.1 dX10_rewind_25 rfl (lv_at hl 0 rfl) ?_
        refine gg_X10_2 X hK hG h0 wl_1_44 (P := P) hkv3_0_2 dX10_rewind_26 ?_
        refine al_42 X hK hG hq6 (iv_vpin (iv_lt (b' := 239) (iv_gt_of c5) hv3_0_2 hf4 (by decide +kernel)) (by decide +kernel)) dX10_rewind_29 (fun f7 hf7 => ?_)
        refine lv_bipush (v := 32) X.1 X.2.1 dX10_rewind_30 (by decide +kernel) ?_
        refine lv_icmp_ne (tgt := 48) X.1 X.2.1 dX10_rewind_32 (by decide) (fun c8 => ?_) (fun c8 => ?_)
        · exact sg_vret X hr hlk hb hK hC hG hS dX10_rewind_48
        · refine lv_aload_n X.1 X.2.1 dX10_rewind_35 rfl (lv_at hl 0 rfl) ?_
          refine lv_dup X.1 X.2.1 dX10_rewind_36 rfl ?_
          refine gg_X10_2 X hK hG h0 wl_1_44 (P := P) hkv3_0_2 dX10_rewind_37 ?_
          refine lv_iconst (v := 1) X.1 X.2.1 dX10_rewind_40 (by decide +kernel) ?_
          refine lv_iadd X.1 X.2.1 dX10_rewind_41 ?_
          refine lv_topi (fun f9 ef9 => ?_)
          refine pf_X10_2 X hK hG hS h0 wl_1_44 ⟨_, rfl, (iv_of (iv_add (a' := 1) (b' := 240) ef9 (iv_lt (b' := 239) (iv_gt_of c5) hv3_0_2 hf4 (by decide +kernel)) (iv_c 1 (a := 1) (b := 1) (by decide +kernel)) (by decide +kernel)) (a' := 0) (b' := 240) (by decide +kernel))⟩ dX10_rewind_42 (fun H locs hG hS ku10 ru10 => ?_)
          refine lv_goto (tgt := 10) X.1 X.2.1 dX10_rewind_45 (by decide) ?_
          exact ih3 H _ _ f9 hG hS (lv_sub hl [0] rfl) (iv_of (iv_add (a' := 1) (b' := 240) ef9 (iv_lt (b' := 239) (iv_gt_of c5) hv3_0_2 hf4 (by decide +kernel)) (iv_c 1 (a := 1) (b := 1) (by decide +kernel)) (by decide +kernel)) (a' := 0) (b' := 240) (by decide +kernel)) ku10 (iv_stepU ef9 (iv_lt (b' := 239) (iv_gt_of c5) hv3_0_2 hf4 (by decide +kernel)) (by decide +kernel) hN3)
  exact B3_10 _ H _ _ 0 hG hS (lv_sub hl [0] rfl) (iv_of (iv_c 0 (a := 0) (b := 0) (by decide +kernel)) (a' := 0) (b' := 240) (by decide +kernel)) ku2 (Nat.le_refl _)

theorem ca_X10_rewind  (X : CallFix p m c cc nL s args sg_tbl own) (hK : va_K D vwCl tys s) (hG : sgG (KT P) D vwCl (fun q : Nat => base ≤ q) tys ad ks H) (hC : sgC base s) (hS : va_S (fun q : Nat => base ≤ q) s.heap H locs) (hb : base ≤ s.heap.size) (a0 : Nat) (h0 : isK ad ks 10 a0) (hl : Cond.methodLink own index yX10_rewind ∈ sg_tbl) (hsize : ls.size = nL) (hst : st0 = [].reverse ++ .ref a0 :: rest) (hW : (rest.map fun v => v.category).sum ≤ 8) (hR : 1 ≤ R.frames ∧ 20 ≤ R.locals) (hf : cells ≤ R.cells ∧ slots ≤ R.slots) (hdg : decode cc pc = .ok (.invokevirtual index, 3)) (kk : ∀ (H1 : Heap) (locs1 : List Loc), sgG (KT P) D vwCl (fun q : Nat => base ≤ q) tys ad ks H1 → va_S (fun q : Nat => base ≤ q) s.heap H1 locs1 → W p l e R s m args below meth c H1 locs1 cells slots Q (F0 m (pc + 3) ls rest)) : W p l e R s m args below meth c H locs cells slots Q (F0 m pc ls st0) :=
  sg_callVv X hK hG hC hS hb (m_X10_rewind l a0 h0) h0 (k := 10) (ci := 10) rfl (C := RX10) (T := TX10) (N := 4) rfl wl_3_33 wl_1_2 wl_3_31 wl_3_32 (n := 0) (by decide +kernel) rfl rfl rfl hl hsize hst hW hR hf hdg kk

set_option maxHeartbeats 8000000 in
set_option maxRecDepth 100000 in
theorem m_X10_sign (l : Launch) {D : va_G} {base : Nat} {tys : List (ClassId × FieldType)} {ad ks : List Nat} {P : sgPm} {Hx : Heap} (a0 : Nat) (h0 : isK ad ks 10 a0) : sgPi l (KT P) D vwCl base tys ad ks Hx yX10_sign cX10_sign 1 (some .int) ({ frames := 0, cells := 0, slots := 0, locals := 0 }) [.ref a0] (fun r : Int32 => True) := by
  refine sg_ofP (Pq := fun Hx => va_Qi (fun r (_ : Unit) => (fun r : Int32 => True) r) (fun _ t => t.heap = Hx) (fun _ : Nat => False)) (by decide +kernel) (Nat.le_of_ble_eq_true rfl) (fun p e s m below meth c X hr hlk hb hK hC hG ls hl => ?_)
  have hS : va_S (fun _ : Nat => False) s.heap s.heap [] := va_S.rf
  have hl : lv_has ls 1 [(0, .ref a0)] := hl
  refine lv_aload_n X.1 X.2.1 dX10_sign_0 rfl (lv_at hl 0 rfl) ?_
  refine gf_X10_2 X hK hG h0 wl_1_44 dX10_sign_1 (fun f1 hf1 kf1 => ?_)
  refine lv_aload_n X.1 X.2.1 dX10_sign_4 rfl (lv_at hl 0 rfl) ?_
  refine gf_X10_1 X hK hG h0 wl_1_43 dX10_sign_5 (fun f2 hf2 kf2 => ?_)
  refine lv_icmp_ge (tgt := 23) X.1 X.2.1 dX10_sign_8 (by decide) (fun c3 => ?_) (fun c3 => ?_)
  · refine lv_iconst (v := 0) X.1 X.2.1 dX10_sign_23 (by decide +kernel) ?_
    exact sg_iretP X hr hlk hS trivial dX10_sign_24
  · refine lv_aload_n X.1 X.2.1 dX10_sign_11 rfl (lv_at hl 0 rfl) ?_
    refine gf_X10_0 X hK hG h0 wl_1_41 dX10_sign_12 (fun q4 hq4 kq4 => ?_)
    refine lv_aload_n X.1 X.2.1 dX10_sign_15 rfl (lv_at hl 0 rfl) ?_
    refine gg_X10_2 X hK hG h0 wl_1_44 (P := P) kf1 dX10_sign_16 ?_
    refine al_42 X hK hG hq4 (iv_vpin (iv_lt (b' := 239) (iv_gt_of c3) hf1 hf2 (by decide +kernel)) (by decide +kernel)) dX10_sign_19 (fun f5 hf5 => ?_)
    refine lv_goto (tgt := 24) X.1 X.2.1 dX10_sign_20 (by decide) ?_
    exact sg_iretP X hr hlk hS trivial dX10_sign_24

theorem ca_X10_sign  (X : CallFix p m c cc nL s args sg_tbl own) (hK : va_K D vwCl tys s) (hG : sgG (KT P) D vwCl (fun q : Nat => base ≤ q) tys ad ks H) (hC : sgC base s) (hA : ∀ q : Nat, A q → base ≤ q) (hS : va_S A s.heap H locs) (hb : base ≤ s.heap.size) (a0 : Nat) (h0 : isK ad ks 10 a0) (hl : Cond.methodLink own index yX10_sign ∈ sg_tbl) (hsize : ls.size = nL) (hst : st0 = [].reverse ++ .ref a0 :: rest) (hW : (rest.map fun v => v.category).sum ≤ 8) (hR : 1 ≤ R.frames ∧ 20 ≤ R.locals) (hf : cells ≤ R.cells ∧ slots ≤ R.slots) (hdg : decode cc pc = .ok (.invokevirtual index, 3)) (kk : ∀ (r : Int32) (locs1 : List Loc), (fun r : Int32 => True) r → va_S A s.heap H locs1 → W p l e R s m args below meth c H locs1 cells slots Q (F0 m (pc + 3) ls (.int r :: rest))) : W p l e R s m args below meth c H locs cells slots Q (F0 m pc ls st0) :=
  sg_callPVi X hK hG hC hA hS hb (m_X10_sign l a0 h0) h0 (k := 10) (ci := 10) rfl (C := RX10) (T := TX10) (N := 4) rfl wl_3_50 wl_1_2 wl_3_48 wl_3_49 (n := 0) (by decide +kernel) rfl rfl rfl hl hsize hst hW hR hf hdg kk

set_option maxHeartbeats 8000000 in
set_option maxRecDepth 100000 in
theorem m_X10_step (l : Launch) {D : va_G} {base : Nat} {tys : List (ClassId × FieldType)} {ad ks : List Nat} {P : sgPm} (a0 : Nat) (h0 : isK ad ks 10 a0) : sgMv l (KT P) D vwCl base tys ad ks yX10_step cX10_step 1 none ({ frames := 1, cells := 0, slots := 0, locals := 14 }) [.ref a0] := by
  refine sg_ofW (by decide +kernel) (Nat.le_of_ble_eq_true rfl) (fun p e s m below meth c X hr hlk hb hK hC hG ls hl => ?_)
  obtain ⟨gp0_2, hgp0_2, kgp0_2⟩ := pk_X10_2 hG h0
  have hG := sg_wide hG
  have hS : va_S (fun q : Nat => base ≤ q) s.heap s.heap [] := va_S.rf
  have hl : lv_has ls 1 [(0, .ref a0)] := hl
  refine lv_aload_n X.1 X.2.1 dX10_step_0 rfl (lv_at hl 0 rfl) ?_
  refine lv_dup X.1 X.2.1 dX10_step_1 rfl ?_
  refine gg_X10_2w X hK hG h0 wl_1_44 (P := P) kgp0_2 dX10_step_2 ?_
  refine lv_iconst (v := 1) X.1 X.2.1 dX10_step_5 (by decide +kernel) ?_
  refine lv_iadd X.1 X.2.1 dX10_step_6 ?_
  refine lv_topi (fun f1 ef1 => ?_)
  refine pf_X10_2w X hK hG hS h0 wl_1_44 ⟨_, rfl, (iv_of (iv_add (a' := 1) (b' := 241) ef1 hgp0_2 (iv_c 1 (a := 1) (b := 1) (by decide +kernel)) (by decide +kernel)) (a' := 0) (b' := 241) (by decide +kernel))⟩ dX10_step_7 (fun H locs hG hS ku2 ru2 => ?_)
  have B3_10 : ∀ (N : Nat) (H : Heap) (locs : List Loc) (ls : Array Slot) (v3_0_2 : Int32), sgG (KTw P) D vwCl (fun q : Nat => base ≤ q) tys ad ks H → va_S (fun q : Nat => base ≤ q) s.heap H locs → lv_has ls 1 [(0, .ref a0)] → iv 0 241 v3_0_2 → fld D H 10 a0 2 (.int v3_0_2) → (242 - v3_0_2.toInt).toNat ≤ N → W p l e (headSpec (Cond.code yX10_step cX10_step 1 none :: sg_tbl) ({ frames := 1, cells := 0, slots := 0, locals := 14 })).room s m #[.ref a0] below meth c H locs 0 0 (MQ below (va_Qv (fun (_ : Unit) => True) (fun _ => sgB (KT P) D vwCl base tys ad ks) (fun q : Nat => base ≤ q)) #[.ref a0] s 0 0 (fun q : Nat => base ≤ q)) (F0 m 10 ls []) := by
    intro N; induction N with
    | zero =>
      intro H locs ls v3_0_2 hG hS hl hv3_0_2 hkv3_0_2 hN
      exact absurd hN (by have := iv_up hv3_0_2; omega)
    | succ N ih3 =>
      intro H locs ls v3_0_2 hG hS hl hv3_0_2 hkv3_0_2 hN3
      refine lv_aload_n X.1 X.2.1 dX10_step_10 rfl (lv_at hl 0 rfl) ?_
      refine gg_X10_2w X hK hG h0 wl_1_44 (P := P) hkv3_0_2 dX10_step_11 ?_
      refine lv_aload_n X.1 X.2.1 dX10_step_14 rfl (lv_at hl 0 rfl) ?_
      refine gf_X10_1w X hK hG h0 wl_1_43 dX10_step_15 (fun f4 hf4 kf4 => ?_)
      have B6_48 : ∀ (locs : List Loc) (ls : Array Slot), va_S (fun q : Nat => base ≤ q) s.heap H locs → lv_has ls 1 [(0, .ref a0)] → W p l e (headSpec (Cond.code yX10_step cX10_step 1 none :: sg_tbl) ({ frames := 1, cells := 0, slots := 0, locals := 14 })).room s m #[.ref a0] below meth c H locs 0 0 (MQ below (va_Qv (fun (_ : Unit) => True) (fun _ => sgB (KT P) D vwCl base tys ad ks) (fun q : Nat => base ≤ q)) #[.ref a0] s 0 0 (fun q : Nat => base ≤ q)) (F0 m 48 ls []) := by
        intro locs ls hS hl
        refine lv_aload_n X.1 X.2.1 dX10_step_48 rfl (lv_at hl 0 rfl) ?_
        refine lv_aload_n X.1 X.2.1 dX10_step_49 rfl (lv_at hl 0 rfl) ?_
        refine gg_X10_2w X hK hG h0 wl_1_44 (P := P) hkv3_0_2 dX10_step_50 ?_
        refine lv_aload_n X.1 X.2.1 dX10_step_53 rfl (lv_at hl 0 rfl) ?_
        refine gg_X10_1w X hK hG h0 wl_1_43 (P := P) kf4 dX10_step_54 ?_
        refine va_mmin X.1 X.2.1 (X.2.2.1.trans hl.1.symm) X.2.2.2.1 (X.2.2.2.2 _ wl_3_63) (X.2.2.2.2 _ wl_3_64) (X.2.2.2.2 _ wl_1_15) (X.2.2.2.2 _ wl_3_65) (Nat.le_of_ble_eq_true rfl) (Nat.le_of_ble_eq_true rfl) (Nat.le_of_ble_eq_true rfl) (Nat.le_of_ble_eq_true rfl) dX10_step_57 ?_
        refine lv_topi (fun f7 ef7 => ?_)
        refine pf_X10_2c X hK hG hS h0 wl_1_44 ⟨_, rfl, (iv_min (a' := 0) (b' := 240) ef7 hv3_0_2 hf4 (by decide +kernel))⟩ dX10_step_60 (fun H locs hG hS ku8 ru8 => ?_)
        exact sg_vret X hr hlk hb hK hC hG hS dX10_step_63
      refine lv_icmp_ge (tgt := 48) X.1 X.2.1 dX10_step_18 (by decide) (fun c5 => ?_) (fun c5 => ?_)
      · exact B6_48 _ _ hS (lv_sub hl [0] rfl)
      · refine lv_aload_n X.1 X.2.1 dX10_step_21 rfl (lv_at hl 0 rfl) ?_
        refine gf_X10_0w X hK hG h0 wl_1_41 dX10_step_22 (fun q9 hq9 kq9 => ?_)
        refine lv_aload_n X.1 X.2.1 dX10_step_25 rfl (lv_at hl 0 rfl) ?_
        refine gg_X10_2w X hK hG h0 wl_1_44 (P := P) hkv3_0_2 dX10_step_26 ?_
        refine al_42w X hK hG hq9 (iv_vpin (iv_lt (b' := 239) (iv_gt_of c5) hv3_0_2 hf4 (by decide +kernel)) (by decide +kernel)) dX10_step_29 (fun f10 hf10 => ?_)
        refine lv_bipush (v := 32) X.1 X.2.1 dX10_step_30 (by decide +kernel) ?_
        refine lv_icmp_ne (tgt := 48) X.1 X.2.1 dX10_step_32 (by decide) (fun c11 => ?_) (fun c11 => ?_)
        · exact B6_48 _ _ hS (lv_sub hl [0] rfl)
        · refine lv_aload_n X.1 X.2.1 dX10_step_35 rfl (lv_at hl 0 rfl) ?_
          refine lv_dup X.1 X.2.1 dX10_step_36 rfl ?_
          refine gg_X10_2w X hK hG h0 wl_1_44 (P := P) hkv3_0_2 dX10_step_37 ?_
          refine lv_iconst (v := 1) X.1 X.2.1 dX10_step_40 (by decide +kernel) ?_
          refine lv_iadd X.1 X.2.1 dX10_step_41 ?_
          refine lv_topi (fun f12 ef12 => ?_)
          refine pf_X10_2w X hK hG hS h0 wl_1_44 ⟨_, rfl, (iv_of (iv_add (a' := 1) (b' := 240) ef12 (iv_lt (b' := 239) (iv_gt_of c5) hv3_0_2 hf4 (by decide +kernel)) (iv_c 1 (a := 1) (b := 1) (by decide +kernel)) (by decide +kernel)) (a' := 0) (b' := 241) (by decide +kernel))⟩ dX10_step_42 (fun H locs hG hS ku13 ru13 => ?_)
          refine lv_goto (tgt := 10) X.1 X.2.1 dX10_step_45 (by decide) ?_
          exact ih3 H _ _ f12 hG hS (lv_sub hl [0] rfl) (iv_of (iv_add (a' := 1) (b' := 240) ef12 (iv_lt (b' := 239) (iv_gt_of c5) hv3_0_2 hf4 (by decide +kernel)) (iv_c 1 (a := 1) (b := 1) (by decide +kernel)) (by decide +kernel)) (a' := 0) (b' := 241) (by decide +kernel)) ku13 (iv_stepU ef12 (iv_lt (b' := 239) (iv_gt_of c5) hv3_0_2 hf4 (by decide +kernel)) (by decide +kernel) hN3)
  exact B3_10 _ H _ _ f1 hG hS (lv_sub hl [0] rfl) (iv_of (iv_add (a' := 1) (b' := 241) ef1 hgp0_2 (iv_c 1 (a := 1) (b := 1) (by decide +kernel)) (by decide +kernel)) (a' := 0) (b' := 241) (by decide +kernel)) ku2 (Nat.le_refl _)

theorem ca_X10_step  (X : CallFix p m c cc nL s args sg_tbl own) (hK : va_K D vwCl tys s) (hG : sgG (KT P) D vwCl (fun q : Nat => base ≤ q) tys ad ks H) (hC : sgC base s) (hS : va_S (fun q : Nat => base ≤ q) s.heap H locs) (hb : base ≤ s.heap.size) (a0 : Nat) (h0 : isK ad ks 10 a0) (hl : Cond.methodLink own index yX10_step ∈ sg_tbl) (hsize : ls.size = nL) (hst : st0 = [].reverse ++ .ref a0 :: rest) (hW : (rest.map fun v => v.category).sum ≤ 8) (hR : 2 ≤ R.frames ∧ 34 ≤ R.locals) (hf : cells ≤ R.cells ∧ slots ≤ R.slots) (hdg : decode cc pc = .ok (.invokevirtual index, 3)) (kk : ∀ (H1 : Heap) (locs1 : List Loc), sgG (KT P) D vwCl (fun q : Nat => base ≤ q) tys ad ks H1 → va_S (fun q : Nat => base ≤ q) s.heap H1 locs1 → W p l e R s m args below meth c H1 locs1 cells slots Q (F0 m (pc + 3) ls rest)) : W p l e R s m args below meth c H locs cells slots Q (F0 m pc ls st0) :=
  sg_callVv X hK hG hC hS hb (m_X10_step l a0 h0) h0 (k := 10) (ci := 10) rfl (C := RX10) (T := TX10) (N := 4) rfl wl_3_62 wl_1_2 wl_3_60 wl_3_61 (n := 0) (by decide +kernel) rfl rfl rfl hl hsize hst hW hR hf hdg kk

set_option maxHeartbeats 8000000 in
set_option maxRecDepth 100000 in
theorem m_X10_wrong (l : Launch) {D : va_G} {base : Nat} {tys : List (ClassId × FieldType)} {ad ks : List Nat} {P : sgPm} (a0 : Nat) (h0 : isK ad ks 10 a0) : sgMi l (KT P) D vwCl base tys ad ks yX10_wrong cX10_wrong 1 (some .boolean) ({ frames := 0, cells := 0, slots := 0, locals := 0 }) [.ref a0] (fun r : Int32 => iv 0 1 r) := by
  refine sg_ofW (by decide +kernel) (Nat.le_of_ble_eq_true rfl) (fun p e s m below meth c X hr hlk hb hK hC hG ls hl => ?_)
  have hS : va_S (fun q : Nat => base ≤ q) s.heap s.heap [] := va_S.rf
  have hl : lv_has ls 1 [(0, .ref a0)] := hl
  refine lv_aload_n X.1 X.2.1 dX10_wrong_0 rfl (lv_at hl 0 rfl) ?_
  refine lv_aload_n X.1 X.2.1 dX10_wrong_1 rfl (lv_at hl 0 rfl) ?_
  refine gf_X10_2 X hK hG h0 wl_1_44 dX10_wrong_2 (fun f1 hf1 kf1 => ?_)
  refine pf_X10_3 X hK hG hS h0 wl_1_45 ⟨_, rfl, (iv_of hf1 (a' := (-2147483648)) (b' := 2147483647) (by decide +kernel))⟩ dX10_wrong_5 (fun H locs hG hS ku2 ru2 => ?_)
  refine lv_iconst (v := 0) X.1 X.2.1 dX10_wrong_8 (by decide +kernel) ?_
  exact sg_zret X hr (sg_zn (iv_of (iv_c 0 (a := 0) (b := 0) (by decide +kernel)) (a' := 0) (b' := 1) (by decide +kernel))) hlk hb hK hC hG hS (iv_of (iv_c 0 (a := 0) (b := 0) (by decide +kernel)) (a' := 0) (b' := 1) (by decide +kernel)) dX10_wrong_9

theorem ca_X10_wrong  (X : CallFix p m c cc nL s args sg_tbl own) (hK : va_K D vwCl tys s) (hG : sgG (KT P) D vwCl (fun q : Nat => base ≤ q) tys ad ks H) (hC : sgC base s) (hS : va_S (fun q : Nat => base ≤ q) s.heap H locs) (hb : base ≤ s.heap.size) (a0 : Nat) (h0 : isK ad ks 10 a0) (hl : Cond.methodLink own index yX10_wrong ∈ sg_tbl) (hsize : ls.size = nL) (hst : st0 = [].reverse ++ .ref a0 :: rest) (hW : (rest.map fun v => v.category).sum ≤ 8) (hR : 1 ≤ R.frames ∧ 20 ≤ R.locals) (hf : cells ≤ R.cells ∧ slots ≤ R.slots) (hdg : decode cc pc = .ok (.invokevirtual index, 3)) (kk : ∀ (r : Int32) (H1 : Heap) (locs1 : List Loc), (fun r : Int32 => iv 0 1 r) r → sgG (KT P) D vwCl (fun q : Nat => base ≤ q) tys ad ks H1 → va_S (fun q : Nat => base ≤ q) s.heap H1 locs1 → W p l e R s m args below meth c H1 locs1 cells slots Q (F0 m (pc + 3) ls (.int r :: rest))) : W p l e R s m args below meth c H locs cells slots Q (F0 m pc ls st0) :=
  sg_callVi X hK hG hC hS hb (m_X10_wrong l a0 h0) h0 (k := 10) (ci := 10) rfl (C := RX10) (T := TX10) (N := 4) rfl wl_3_58 wl_1_2 wl_3_56 wl_3_57 (n := 0) (by decide +kernel) rfl rfl rfl hl hsize hst hW hR hf hdg kk

set_option maxHeartbeats 8000000 in
set_option maxRecDepth 100000 in
theorem m_X10_wrongAsWhole (l : Launch) {D : va_G} {base : Nat} {tys : List (ClassId × FieldType)} {ad ks : List Nat} {P : sgPm} (a0 : Nat) (h0 : isK ad ks 10 a0) : sgMi l (KT P) D vwCl base tys ad ks yX10_wrongAsWhole cX10_wrongAsWhole 1 (some .boolean) ({ frames := 0, cells := 0, slots := 0, locals := 0 }) [.ref a0] (fun r : Int32 => iv 0 1 r) := by
  refine sg_ofW (by decide +kernel) (Nat.le_of_ble_eq_true rfl) (fun p e s m below meth c X hr hlk hb hK hC hG ls hl => ?_)
  have hS : va_S (fun q : Nat => base ≤ q) s.heap s.heap [] := va_S.rf
  have hl : lv_has ls 1 [(0, .ref a0)] := hl
  refine lv_aload_n X.1 X.2.1 dX10_wrongAsWhole_0 rfl (lv_at hl 0 rfl) ?_
  refine lv_aload_n X.1 X.2.1 dX10_wrongAsWhole_1 rfl (lv_at hl 0 rfl) ?_
  refine gf_X10_1 X hK hG h0 wl_1_43 dX10_wrongAsWhole_2 (fun f1 hf1 kf1 => ?_)
  refine pf_X10_3 X hK hG hS h0 wl_1_45 ⟨_, rfl, (iv_of hf1 (a' := (-2147483648)) (b' := 2147483647) (by decide +kernel))⟩ dX10_wrongAsWhole_5 (fun H locs hG hS ku2 ru2 => ?_)
  refine lv_iconst (v := 0) X.1 X.2.1 dX10_wrongAsWhole_8 (by decide +kernel) ?_
  exact sg_zret X hr (sg_zn (iv_of (iv_c 0 (a := 0) (b := 0) (by decide +kernel)) (a' := 0) (b' := 1) (by decide +kernel))) hlk hb hK hC hG hS (iv_of (iv_c 0 (a := 0) (b := 0) (by decide +kernel)) (a' := 0) (b' := 1) (by decide +kernel)) dX10_wrongAsWhole_9

theorem ca_X10_wrongAsWhole  (X : CallFix p m c cc nL s args sg_tbl own) (hK : va_K D vwCl tys s) (hG : sgG (KT P) D vwCl (fun q : Nat => base ≤ q) tys ad ks H) (hC : sgC base s) (hS : va_S (fun q : Nat => base ≤ q) s.heap H locs) (hb : base ≤ s.heap.size) (a0 : Nat) (h0 : isK ad ks 10 a0) (hl : Cond.methodLink own index yX10_wrongAsWhole ∈ sg_tbl) (hsize : ls.size = nL) (hst : st0 = [].reverse ++ .ref a0 :: rest) (hW : (rest.map fun v => v.category).sum ≤ 8) (hR : 1 ≤ R.frames ∧ 20 ≤ R.locals) (hf : cells ≤ R.cells ∧ slots ≤ R.slots) (hdg : decode cc pc = .ok (.invokevirtual index, 3)) (kk : ∀ (r : Int32) (H1 : Heap) (locs1 : List Loc), (fun r : Int32 => iv 0 1 r) r → sgG (KT P) D vwCl (fun q : Nat => base ≤ q) tys ad ks H1 → va_S (fun q : Nat => base ≤ q) s.heap H1 locs1 → W p l e R s m args below meth c H1 locs1 cells slots Q (F0 m (pc + 3) ls (.int r :: rest))) : W p l e R s m args below meth c H locs cells slots Q (F0 m pc ls st0) :=
  sg_callVi X hK hG hC hS hb (m_X10_wrongAsWhole l a0 h0) h0 (k := 10) (ci := 10) rfl (C := RX10) (T := TX10) (N := 4) rfl wl_3_204 wl_1_2 wl_3_202 wl_3_203 (n := 0) (by decide +kernel) rfl rfl rfl hl hsize hst hW hR hf hdg kk

set_option maxHeartbeats 8000000 in
set_option maxRecDepth 100000 in
theorem m_X10_demand (l : Launch) {D : va_G} {base : Nat} {tys : List (ClassId × FieldType)} {ad ks : List Nat} {P : sgPm} (a0 : Nat) (h0 : isK ad ks 10 a0) (x1 : Int32) : sgMi l (KT P) D vwCl base tys ad ks yX10_demand cX10_demand 2 (some .boolean) ({ frames := 2, cells := 0, slots := 0, locals := 34 }) [.ref a0, .int x1] (fun r : Int32 => iv 0 1 r) := by
  refine sg_ofW (by decide +kernel) (Nat.le_of_ble_eq_true rfl) (fun p e s m below meth c X hr hlk hb hK hC hG ls hl => ?_)
  have hS : va_S (fun q : Nat => base ≤ q) s.heap s.heap [] := va_S.rf
  have hl : lv_has ls 2 [(0, .ref a0), (1, .int x1)] := hl
  refine lv_aload_n X.1 X.2.1 dX10_demand_0 rfl (lv_at hl 0 rfl) ?_
  refine ca_X10_sign X hK hG hC (fun _ h => h) hS hb a0 h0 wl_3_171 hl.1 (rest := []) rfl (Nat.le_of_ble_eq_true rfl) ⟨Nat.le_of_ble_eq_true rfl, Nat.le_of_ble_eq_true rfl⟩ ⟨Nat.le_of_ble_eq_true rfl, Nat.le_of_ble_eq_true rfl⟩ dX10_demand_1 (fun f1 locs hf1 hS => ?_)
  refine lv_iload_n X.1 X.2.1 dX10_demand_4 rfl (lv_at hl 1 rfl) ?_
  refine lv_icmp_eq (tgt := 13) X.1 X.2.1 dX10_demand_5 (by decide) (fun c2 => ?_) (fun c2 => ?_)
  · refine lv_aload_n X.1 X.2.1 dX10_demand_13 rfl (lv_at hl 0 rfl) ?_
    refine ca_X10_step X hK hG hC hS hb a0 h0 wl_3_218 hl.1 (rest := []) rfl (Nat.le_of_ble_eq_true rfl) ⟨Nat.le_of_ble_eq_true rfl, Nat.le_of_ble_eq_true rfl⟩ ⟨Nat.le_of_ble_eq_true rfl, Nat.le_of_ble_eq_true rfl⟩ dX10_demand_14 (fun H locs hG hS => ?_)
    refine lv_iconst (v := 1) X.1 X.2.1 dX10_demand_17 (by decide +kernel) ?_
    exact sg_zret X hr (sg_zn (iv_of (iv_c 1 (a := 1) (b := 1) (by decide +kernel)) (a' := 0) (b' := 1) (by decide +kernel))) hlk hb hK hC hG hS (iv_of (iv_c 1 (a := 1) (b := 1) (by decide +kernel)) (a' := 0) (b' := 1) (by decide +kernel)) dX10_demand_18
  · refine lv_aload_n X.1 X.2.1 dX10_demand_8 rfl (lv_at hl 0 rfl) ?_
    refine ca_X10_wrong X hK hG hC hS hb a0 h0 wl_3_172 hl.1 (rest := []) rfl (Nat.le_of_ble_eq_true rfl) ⟨Nat.le_of_ble_eq_true rfl, Nat.le_of_ble_eq_true rfl⟩ ⟨Nat.le_of_ble_eq_true rfl, Nat.le_of_ble_eq_true rfl⟩ dX10_demand_9 (fun f4 H locs hf4 hG hS => ?_)
    exact sg_zret X hr (sg_zn hf4) hlk hb hK hC hG hS hf4 dX10_demand_12

theorem ca_X10_demand  (X : CallFix p m c cc nL s args sg_tbl own) (hK : va_K D vwCl tys s) (hG : sgG (KT P) D vwCl (fun q : Nat => base ≤ q) tys ad ks H) (hC : sgC base s) (hS : va_S (fun q : Nat => base ≤ q) s.heap H locs) (hb : base ≤ s.heap.size) (a0 : Nat) (h0 : isK ad ks 10 a0) (x1 : Int32) (hl : Cond.methodLink own index yX10_demand ∈ sg_tbl) (hsize : ls.size = nL) (hst : st0 = [.int x1].reverse ++ .ref a0 :: rest) (hW : (rest.map fun v => v.category).sum ≤ 8) (hR : 3 ≤ R.frames ∧ 55 ≤ R.locals) (hf : cells ≤ R.cells ∧ slots ≤ R.slots) (hdg : decode cc pc = .ok (.invokevirtual index, 3)) (kk : ∀ (r : Int32) (H1 : Heap) (locs1 : List Loc), (fun r : Int32 => iv 0 1 r) r → sgG (KT P) D vwCl (fun q : Nat => base ≤ q) tys ad ks H1 → va_S (fun q : Nat => base ≤ q) s.heap H1 locs1 → W p l e R s m args below meth c H1 locs1 cells slots Q (F0 m (pc + 3) ls (.int r :: rest))) : W p l e R s m args below meth c H locs cells slots Q (F0 m pc ls st0) :=
  sg_callVi X hK hG hC hS hb (m_X10_demand l a0 h0 x1) h0 (k := 10) (ci := 10) rfl (C := RX10) (T := TX10) (N := 4) rfl wl_3_217 wl_1_2 wl_3_215 wl_3_216 (n := 1) (by decide +kernel) rfl rfl rfl hl hsize hst hW hR hf hdg kk

set_option maxHeartbeats 8000000 in
set_option maxRecDepth 100000 in
theorem m_X10_ended (l : Launch) {D : va_G} {base : Nat} {tys : List (ClassId × FieldType)} {ad ks : List Nat} {P : sgPm} (a0 : Nat) (h0 : isK ad ks 10 a0) : sgMi l (KT P) D vwCl base tys ad ks yX10_ended cX10_ended 1 (some .boolean) ({ frames := 1, cells := 0, slots := 0, locals := 20 }) [.ref a0] (fun r : Int32 => iv 0 1 r) := by
  refine sg_ofW (by decide +kernel) (Nat.le_of_ble_eq_true rfl) (fun p e s m below meth c X hr hlk hb hK hC hG ls hl => ?_)
  have hS : va_S (fun q : Nat => base ≤ q) s.heap s.heap [] := va_S.rf
  have hl : lv_has ls 1 [(0, .ref a0)] := hl
  refine lv_aload_n X.1 X.2.1 dX10_ended_0 rfl (lv_at hl 0 rfl) ?_
  refine ca_X10_sign X hK hG hC (fun _ h => h) hS hb a0 h0 wl_3_171 hl.1 (rest := []) rfl (Nat.le_of_ble_eq_true rfl) ⟨Nat.le_of_ble_eq_true rfl, Nat.le_of_ble_eq_true rfl⟩ ⟨Nat.le_of_ble_eq_true rfl, Nat.le_of_ble_eq_true rfl⟩ dX10_ended_1 (fun f1 locs hf1 hS => ?_)
  have B3_14 : ∀ (H : Heap) (locs : List Loc) (ls : Array Slot), sgG (KT P) D vwCl (fun q : Nat => base ≤ q) tys ad ks H → va_S (fun q : Nat => base ≤ q) s.heap H locs → lv_has ls 1 [] → W p l e (headSpec (Cond.code yX10_ended cX10_ended 1 (some .boolean) :: sg_tbl) ({ frames := 1, cells := 0, slots := 0, locals := 20 })).room s m #[.ref a0] below meth c H locs 0 0 (MQ below (va_Qi (fun r (_ : Unit) => (fun r : Int32 => iv 0 1 r) r) (fun _ => sgB (KT P) D vwCl base tys ad ks) (fun q : Nat => base ≤ q)) #[.ref a0] s 0 0 (fun q : Nat => base ≤ q)) (F0 m 14 ls []) := by
    intro H locs ls hG hS hl
    refine lv_iconst (v := 1) X.1 X.2.1 dX10_ended_14 (by decide +kernel) ?_
    refine lv_goto (tgt := 19) X.1 X.2.1 dX10_ended_15 (by decide) ?_
    exact sg_zret X hr (sg_zn (iv_of (iv_c 1 (a := 1) (b := 1) (by decide +kernel)) (a' := 0) (b' := 1) (by decide +kernel))) hlk hb hK hC hG hS (iv_of (iv_c 1 (a := 1) (b := 1) (by decide +kernel)) (a' := 0) (b' := 1) (by decide +kernel)) dX10_ended_19
  refine lv_if_eq (tgt := 14) X.1 X.2.1 dX10_ended_4 (by decide) (fun c2 => ?_) (fun c2 => ?_)
  · exact B3_14 s.heap _ _ hG hS (lv_sub hl [] rfl)
  · refine lv_aload_n X.1 X.2.1 dX10_ended_7 rfl (lv_at hl 0 rfl) ?_
    refine ca_X10_wrong X hK hG hC hS hb a0 h0 wl_3_172 hl.1 (rest := []) rfl (Nat.le_of_ble_eq_true rfl) ⟨Nat.le_of_ble_eq_true rfl, Nat.le_of_ble_eq_true rfl⟩ ⟨Nat.le_of_ble_eq_true rfl, Nat.le_of_ble_eq_true rfl⟩ dX10_ended_8 (fun f4 H locs hf4 hG hS => ?_)
    refine lv_if_eq (tgt := 18) X.1 X.2.1 dX10_ended_11 (by decide) (fun c5 => ?_) (fun c5 => ?_)
    · refine lv_iconst (v := 0) X.1 X.2.1 dX10_ended_18 (by decide +kernel) ?_
      exact sg_zret X hr (sg_zn (iv_of (iv_c 0 (a := 0) (b := 0) (by decide +kernel)) (a' := 0) (b' := 1) (by decide +kernel))) hlk hb hK hC hG hS (iv_of (iv_c 0 (a := 0) (b := 0) (by decide +kernel)) (a' := 0) (b' := 1) (by decide +kernel)) dX10_ended_19
    · exact B3_14 H _ _ hG hS (lv_sub hl [] rfl)

theorem ca_X10_ended  (X : CallFix p m c cc nL s args sg_tbl own) (hK : va_K D vwCl tys s) (hG : sgG (KT P) D vwCl (fun q : Nat => base ≤ q) tys ad ks H) (hC : sgC base s) (hS : va_S (fun q : Nat => base ≤ q) s.heap H locs) (hb : base ≤ s.heap.size) (a0 : Nat) (h0 : isK ad ks 10 a0) (hl : Cond.methodLink own index yX10_ended ∈ sg_tbl) (hsize : ls.size = nL) (hst : st0 = [].reverse ++ .ref a0 :: rest) (hW : (rest.map fun v => v.category).sum ≤ 8) (hR : 2 ≤ R.frames ∧ 40 ≤ R.locals) (hf : cells ≤ R.cells ∧ slots ≤ R.slots) (hdg : decode cc pc = .ok (.invokevirtual index, 3)) (kk : ∀ (r : Int32) (H1 : Heap) (locs1 : List Loc), (fun r : Int32 => iv 0 1 r) r → sgG (KT P) D vwCl (fun q : Nat => base ≤ q) tys ad ks H1 → va_S (fun q : Nat => base ≤ q) s.heap H1 locs1 → W p l e R s m args below meth c H1 locs1 cells slots Q (F0 m (pc + 3) ls (.int r :: rest))) : W p l e R s m args below meth c H locs cells slots Q (F0 m pc ls st0) :=
  sg_callVi X hK hG hC hS hb (m_X10_ended l a0 h0) h0 (k := 10) (ci := 10) rfl (C := RX10) (T := TX10) (N := 4) rfl wl_3_170 wl_1_2 wl_3_168 wl_3_169 (n := 0) (by decide +kernel) rfl rfl rfl hl hsize hst hW hR hf hdg kk

set_option maxHeartbeats 8000000 in
set_option maxRecDepth 100000 in
theorem m_X10_number (l : Launch) {D : va_G} {base : Nat} {tys : List (ClassId × FieldType)} {ad ks : List Nat} {P : sgPm} (a0 : Nat) (h0 : isK ad ks 10 a0) (x1 : Int32) (x2 : Int32) (x3 : Int32) : sgMi l (KT P) D vwCl base tys ad ks yX10_number cX10_number 6 (some .int) ({ frames := 0, cells := 0, slots := 0, locals := 0 }) [.ref a0, .int x1, .int x2, .int x3] (fun r : Int32 => True) := by
  refine sg_ofW (by decide +kernel) (Nat.le_of_ble_eq_true rfl) (fun p e s m below meth c X hr hlk hb hK hC hG ls hl => ?_)
  have hS : va_S (fun q : Nat => base ≤ q) s.heap s.heap [] := va_S.rf
  have hl : lv_has ls 6 [(0, .ref a0), (1, .int x1), (2, .int x2), (3, .int x3)] := hl
  refine lv_iconst (v := 0) X.1 X.2.1 dX10_number_0 (by decide +kernel) ?_
  refine lv_istore (lv' := [(4, .int 0), (0, .ref a0), (1, .int x1), (2, .int x2), (3, .int x3)]) X.1 X.2.1 dX10_number_1 hl (by decide) rfl (fun ls hl => ?_)
  refine lv_iconst (v := 0) X.1 X.2.1 dX10_number_3 (by decide +kernel) ?_
  refine lv_istore (lv' := [(5, .int 0), (4, .int 0), (0, .ref a0), (1, .int x1), (2, .int x2), (3, .int x3)]) X.1 X.2.1 dX10_number_4 hl (by decide) rfl (fun ls hl => ?_)
  have B1_6 : ∀ (N : Nat) (H : Heap) (locs : List Loc) (ls : Array Slot) (z1_4 : Int32) (z1_5 : Int32) (v1_0_2 : Int32), sgG (KT P) D vwCl (fun q : Nat => base ≤ q) tys ad ks H → va_S (fun q : Nat => base ≤ q) s.heap H locs → lv_has ls 6 [(0, .ref a0), (1, .int x1), (2, .int x2), (3, .int x3), (4, .int z1_4), (5, .int z1_5)] → iv 0 240 v1_0_2 → fld D H 10 a0 2 (.int v1_0_2) → (241 - v1_0_2.toInt).toNat ≤ N → W p l e (headSpec (Cond.code yX10_number cX10_number 6 (some .int) :: sg_tbl) ({ frames := 0, cells := 0, slots := 0, locals := 0 })).room s m #[.ref a0, .int x1, .int x2, .int x3] below meth c H locs 0 0 (MQ below (va_Qi (fun r (_ : Unit) => (fun r : Int32 => True) r) (fun _ => sgB (KT P) D vwCl base tys ad ks) (fun q : Nat => base ≤ q)) #[.ref a0, .int x1, .int x2, .int x3] s 0 0 (fun q : Nat => base ≤ q)) (F0 m 6 ls []) := by
    intro N; induction N with
    | zero =>
      intro H locs ls z1_4 z1_5 v1_0_2 hG hS hl hv1_0_2 hkv1_0_2 hN
      exact absurd hN (by have := iv_up hv1_0_2; omega)
    | succ N ih1 =>
      intro H locs ls z1_4 z1_5 v1_0_2 hG hS hl hv1_0_2 hkv1_0_2 hN1
      refine lv_aload_n X.1 X.2.1 dX10_number_6 rfl (lv_at hl 0 rfl) ?_
      refine gg_X10_2 X hK hG h0 wl_1_44 (P := P) hkv1_0_2 dX10_number_7 ?_
      refine lv_aload_n X.1 X.2.1 dX10_number_10 rfl (lv_at hl 0 rfl) ?_
      refine gf_X10_1 X hK hG h0 wl_1_43 dX10_number_11 (fun f2 hf2 kf2 => ?_)
      have B4_97 : ∀ (locs : List Loc) (ls : Array Slot), va_S (fun q : Nat => base ≤ q) s.heap H locs → lv_has ls 6 [(0, .ref a0), (2, .int x2), (3, .int x3), (4, .int z1_4), (5, .int z1_5)] → W p l e (headSpec (Cond.code yX10_number cX10_number 6 (some .int) :: sg_tbl) ({ frames := 0, cells := 0, slots := 0, locals := 0 })).room s m #[.ref a0, .int x1, .int x2, .int x3] below meth c H locs 0 0 (MQ below (va_Qi (fun r (_ : Unit) => (fun r : Int32 => True) r) (fun _ => sgB (KT P) D vwCl base tys ad ks) (fun q : Nat => base ≤ q)) #[.ref a0, .int x1, .int x2, .int x3] s 0 0 (fun q : Nat => base ≤ q)) (F0 m 97 ls []) := by
        intro locs ls hS hl
        refine lv_iload X.1 X.2.1 dX10_number_97 (lv_at hl 4 rfl) ?_
        have B6_114 : ∀ (locs : List Loc) (ls : Array Slot), va_S (fun q : Nat => base ≤ q) s.heap H locs → lv_has ls 6 [(0, .ref a0), (5, .int z1_5)] → W p l e (headSpec (Cond.code yX10_number cX10_number 6 (some .int) :: sg_tbl) ({ frames := 0, cells := 0, slots := 0, locals := 0 })).room s m #[.ref a0, .int x1, .int x2, .int x3] below meth c H locs 0 0 (MQ below (va_Qi (fun r (_ : Unit) => (fun r : Int32 => True) r) (fun _ => sgB (KT P) D vwCl base tys ad ks) (fun q : Nat => base ≤ q)) #[.ref a0, .int x1, .int x2, .int x3] s 0 0 (fun q : Nat => base ≤ q)) (F0 m 114 ls []) := by
          intro locs ls hS hl
          refine lv_aload_n X.1 X.2.1 dX10_number_114 rfl (lv_at hl 0 rfl) ?_
          refine lv_iload X.1 X.2.1 dX10_number_115 (lv_at hl 1 rfl) ?_
          have B8_133 : ∀ (locs : List Loc) (ls : Array Slot) (w8_0 : Int32), va_S (fun q : Nat => base ≤ q) s.heap H locs → lv_has ls 6 [] → iv (-1) 240 w8_0 → W p l e (headSpec (Cond.code yX10_number cX10_number 6 (some .int) :: sg_tbl) ({ frames := 0, cells := 0, slots := 0, locals := 0 })).room s m #[.ref a0, .int x1, .int x2, .int x3] below meth c H locs 0 0 (MQ below (va_Qi (fun r (_ : Unit) => (fun r : Int32 => True) r) (fun _ => sgB (KT P) D vwCl base tys ad ks) (fun q : Nat => base ≤ q)) #[.ref a0, .int x1, .int x2, .int x3] s 0 0 (fun q : Nat => base ≤ q)) (F0 m 133 ls [.int w8_0, .ref a0]) := by
            intro locs ls w8_0 hS hl hw8_0
            refine pf_X10_3 X hK hG hS h0 wl_1_45 ⟨_, rfl, (iv_of hw8_0 (a' := (-2147483648)) (b' := 2147483647) (by decide +kernel))⟩ dX10_number_133 (fun H locs hG hS ku9 ru9 => ?_)
            refine lv_iconst (v := (-1)) X.1 X.2.1 dX10_number_136 (by decide +kernel) ?_
            exact sg_iret X hr hlk hb hK hC hG hS trivial dX10_number_137
          refine lv_if_ne (tgt := 127) X.1 X.2.1 dX10_number_117 (by decide) (fun c7 => ?_) (fun c7 => ?_)
          · refine lv_aload_n X.1 X.2.1 dX10_number_127 rfl (lv_at hl 0 rfl) ?_
            refine gg_X10_2 X hK hG h0 wl_1_44 (P := P) hkv1_0_2 dX10_number_128 ?_
            refine lv_iconst (v := 1) X.1 X.2.1 dX10_number_131 (by decide +kernel) ?_
            refine lv_isub X.1 X.2.1 dX10_number_132 ?_
            refine lv_topi (fun f10 ef10 => ?_)
            exact B8_133 _ _ f10 hS (lv_sub hl [] rfl) (iv_of (iv_sub (a' := (-1)) (b' := 239) ef10 hv1_0_2 (iv_c 1 (a := 1) (b := 1) (by decide +kernel)) (by decide +kernel)) (a' := (-1)) (b' := 240) (by decide +kernel))
          · refine lv_aload_n X.1 X.2.1 dX10_number_120 rfl (lv_at hl 0 rfl) ?_
            refine gg_X10_2 X hK hG h0 wl_1_44 (P := P) hkv1_0_2 dX10_number_121 ?_
            refine lv_goto (tgt := 133) X.1 X.2.1 dX10_number_124 (by decide) ?_
            exact B8_133 _ _ v1_0_2 hS (lv_sub hl [] rfl) (iv_of hv1_0_2 (a' := (-1)) (b' := 240) (by decide +kernel))
        refine lv_if_eq (tgt := 114) X.1 X.2.1 dX10_number_99 (by decide) (fun c5 => ?_) (fun c5 => ?_)
        · exact B6_114 _ _ hS (lv_sub hl [0, 4] rfl)
        · refine lv_iload X.1 X.2.1 dX10_number_102 (lv_at hl 3 rfl) ?_
          refine lv_iload_n X.1 X.2.1 dX10_number_104 rfl (lv_at hl 1 rfl) ?_
          refine lv_icmp_lt (tgt := 114) X.1 X.2.1 dX10_number_105 (by decide) (fun c11 => ?_) (fun c11 => ?_)
          · exact B6_114 _ _ hS (lv_sub hl [0, 4] rfl)
          · refine lv_iload X.1 X.2.1 dX10_number_108 (lv_at hl 3 rfl) ?_
            refine lv_iload_n X.1 X.2.1 dX10_number_110 rfl (lv_at hl 2 rfl) ?_
            refine lv_icmp_le (tgt := 138) X.1 X.2.1 dX10_number_111 (by decide) (fun c12 => ?_) (fun c12 => ?_)
            · have B13_138 : ∀ (N : Nat) (H : Heap) (locs : List Loc) (ls : Array Slot) (v13_0_2 : Int32), sgG (KT P) D vwCl (fun q : Nat => base ≤ q) tys ad ks H → va_S (fun q : Nat => base ≤ q) s.heap H locs → lv_has ls 6 [(0, .ref a0), (4, .int z1_4)] → iv 0 240 v13_0_2 → fld D H 10 a0 2 (.int v13_0_2) → (241 - v13_0_2.toInt).toNat ≤ N → W p l e (headSpec (Cond.code yX10_number cX10_number 6 (some .int) :: sg_tbl) ({ frames := 0, cells := 0, slots := 0, locals := 0 })).room s m #[.ref a0, .int x1, .int x2, .int x3] below meth c H locs 0 0 (MQ below (va_Qi (fun r (_ : Unit) => (fun r : Int32 => True) r) (fun _ => sgB (KT P) D vwCl base tys ad ks) (fun q : Nat => base ≤ q)) #[.ref a0, .int x1, .int x2, .int x3] s 0 0 (fun q : Nat => base ≤ q)) (F0 m 138 ls []) := by
                intro N; induction N with
                | zero =>
                  intro H locs ls v13_0_2 hG hS hl hv13_0_2 hkv13_0_2 hN
                  exact absurd hN (by have := iv_up hv13_0_2; omega)
                | succ N ih13 =>
                  intro H locs ls v13_0_2 hG hS hl hv13_0_2 hkv13_0_2 hN13
                  refine lv_aload_n X.1 X.2.1 dX10_number_138 rfl (lv_at hl 0 rfl) ?_
                  refine gg_X10_2 X hK hG h0 wl_1_44 (P := P) hkv13_0_2 dX10_number_139 ?_
                  refine lv_aload_n X.1 X.2.1 dX10_number_142 rfl (lv_at hl 0 rfl) ?_
                  refine gf_X10_1 X hK hG h0 wl_1_43 dX10_number_143 (fun f14 hf14 kf14 => ?_)
                  refine lv_icmp_ge (tgt := 176) X.1 X.2.1 dX10_number_146 (by decide) (fun c15 => ?_) (fun c15 => ?_)
                  · refine lv_iload X.1 X.2.1 dX10_number_176 (lv_at hl 1 rfl) ?_
                    exact sg_iret X hr hlk hb hK hC hG hS trivial dX10_number_178
                  · refine lv_aload_n X.1 X.2.1 dX10_number_149 rfl (lv_at hl 0 rfl) ?_
                    refine gf_X10_0 X hK hG h0 wl_1_41 dX10_number_150 (fun q16 hq16 kq16 => ?_)
                    refine lv_aload_n X.1 X.2.1 dX10_number_153 rfl (lv_at hl 0 rfl) ?_
                    refine gg_X10_2 X hK hG h0 wl_1_44 (P := P) hkv13_0_2 dX10_number_154 ?_
                    refine al_42 X hK hG hq16 (iv_vpin (iv_lt (b' := 239) (iv_gt_of c15) hv13_0_2 hf14 (by decide +kernel)) (by decide +kernel)) dX10_number_157 (fun f17 hf17 => ?_)
                    refine lv_bipush (v := 32) X.1 X.2.1 dX10_number_158 (by decide +kernel) ?_
                    refine lv_icmp_ne (tgt := 176) X.1 X.2.1 dX10_number_160 (by decide) (fun c18 => ?_) (fun c18 => ?_)
                    · refine lv_iload X.1 X.2.1 dX10_number_176 (lv_at hl 1 rfl) ?_
                      exact sg_iret X hr hlk hb hK hC hG hS trivial dX10_number_178
                    · refine lv_aload_n X.1 X.2.1 dX10_number_163 rfl (lv_at hl 0 rfl) ?_
                      refine lv_dup X.1 X.2.1 dX10_number_164 rfl ?_
                      refine gg_X10_2 X hK hG h0 wl_1_44 (P := P) hkv13_0_2 dX10_number_165 ?_
                      refine lv_iconst (v := 1) X.1 X.2.1 dX10_number_168 (by decide +kernel) ?_
                      refine lv_iadd X.1 X.2.1 dX10_number_169 ?_
                      refine lv_topi (fun f19 ef19 => ?_)
                      refine pf_X10_2 X hK hG hS h0 wl_1_44 ⟨_, rfl, (iv_of (iv_add (a' := 1) (b' := 240) ef19 (iv_lt (b' := 239) (iv_gt_of c15) hv13_0_2 hf14 (by decide +kernel)) (iv_c 1 (a := 1) (b := 1) (by decide +kernel)) (by decide +kernel)) (a' := 0) (b' := 240) (by decide +kernel))⟩ dX10_number_170 (fun H locs hG hS ku20 ru20 => ?_)
                      refine lv_goto (tgt := 138) X.1 X.2.1 dX10_number_173 (by decide) ?_
                      exact ih13 H _ _ f19 hG hS (lv_sub hl [0, 1] rfl) (iv_of (iv_add (a' := 1) (b' := 240) ef19 (iv_lt (b' := 239) (iv_gt_of c15) hv13_0_2 hf14 (by decide +kernel)) (iv_c 1 (a := 1) (b := 1) (by decide +kernel)) (by decide +kernel)) (a' := 0) (b' := 240) (by decide +kernel)) ku20 (iv_stepU ef19 (iv_lt (b' := 239) (iv_gt_of c15) hv13_0_2 hf14 (by decide +kernel)) (by decide +kernel) hN13)
              exact B13_138 _ H _ _ v1_0_2 hG hS (lv_sub hl [0, 3] rfl) hv1_0_2 hkv1_0_2 (Nat.le_refl _)
            · exact B6_114 _ _ hS (lv_sub hl [0, 4] rfl)
      refine lv_icmp_ge (tgt := 97) X.1 X.2.1 dX10_number_14 (by decide) (fun c3 => ?_) (fun c3 => ?_)
      · exact B4_97 _ _ hS (lv_sub hl [0, 2, 3, 4, 5] rfl)
      · refine lv_aload_n X.1 X.2.1 dX10_number_17 rfl (lv_at hl 0 rfl) ?_
        refine gf_X10_0 X hK hG h0 wl_1_41 dX10_number_18 (fun q21 hq21 kq21 => ?_)
        refine lv_aload_n X.1 X.2.1 dX10_number_21 rfl (lv_at hl 0 rfl) ?_
        refine gg_X10_2 X hK hG h0 wl_1_44 (P := P) hkv1_0_2 dX10_number_22 ?_
        refine al_42 X hK hG hq21 (iv_vpin (iv_lt (b' := 239) (iv_gt_of c3) hv1_0_2 hf2 (by decide +kernel)) (by decide +kernel)) dX10_number_25 (fun f22 hf22 => ?_)
        refine lv_bipush (v := 48) X.1 X.2.1 dX10_number_26 (by decide +kernel) ?_
        refine lv_icmp_lt (tgt := 97) X.1 X.2.1 dX10_number_28 (by decide) (fun c23 => ?_) (fun c23 => ?_)
        · exact B4_97 _ _ hS (lv_sub hl [0, 2, 3, 4, 5] rfl)
        · refine lv_aload_n X.1 X.2.1 dX10_number_31 rfl (lv_at hl 0 rfl) ?_
          refine gg_X10_0 X hK hG h0 wl_1_41 (P := P) kq21 dX10_number_32 ?_
          refine lv_aload_n X.1 X.2.1 dX10_number_35 rfl (lv_at hl 0 rfl) ?_
          refine gg_X10_2 X hK hG h0 wl_1_44 (P := P) hkv1_0_2 dX10_number_36 ?_
          refine al_42 X hK hG hq21 (iv_vpin (iv_lt (b' := 239) (iv_gt_of c3) hv1_0_2 hf2 (by decide +kernel)) (by decide +kernel)) dX10_number_39 (fun f24 hf24 => ?_)
          refine lv_bipush (v := 57) X.1 X.2.1 dX10_number_40 (by decide +kernel) ?_
          refine lv_icmp_gt (tgt := 97) X.1 X.2.1 dX10_number_42 (by decide) (fun c25 => ?_) (fun c25 => ?_)
          · exact B4_97 _ _ hS (lv_sub hl [0, 2, 3, 4, 5] rfl)
          · refine lv_iload X.1 X.2.1 dX10_number_45 (lv_at hl 5 rfl) ?_
            refine lv_iload_n X.1 X.2.1 dX10_number_47 rfl (lv_at hl 1 rfl) ?_
            refine lv_icmp_ne (tgt := 61) X.1 X.2.1 dX10_number_48 (by decide) (fun c26 => ?_) (fun c26 => ?_)
            · refine lv_iload X.1 X.2.1 dX10_number_61 (lv_at hl 4 rfl) ?_
              refine lv_bipush (v := 10) X.1 X.2.1 dX10_number_63 (by decide +kernel) ?_
              refine lv_imul X.1 X.2.1 dX10_number_65 ?_
              refine lv_topi (fun f27 ef27 => ?_)
              refine lv_aload_n X.1 X.2.1 dX10_number_66 rfl (lv_at hl 0 rfl) ?_
              refine gg_X10_0 X hK hG h0 wl_1_41 (P := P) kq21 dX10_number_67 ?_
              refine lv_aload_n X.1 X.2.1 dX10_number_70 rfl (lv_at hl 0 rfl) ?_
              refine gg_X10_2 X hK hG h0 wl_1_44 (P := P) hkv1_0_2 dX10_number_71 ?_
              refine al_42 X hK hG hq21 (iv_vpin (iv_lt (b' := 239) (iv_gt_of c3) hv1_0_2 hf2 (by decide +kernel)) (by decide +kernel)) dX10_number_74 (fun f28 hf28 => ?_)
              refine lv_iadd X.1 X.2.1 dX10_number_75 ?_
              refine lv_topi (fun f29 ef29 => ?_)
              refine lv_bipush (v := 48) X.1 X.2.1 dX10_number_76 (by decide +kernel) ?_
              refine lv_isub X.1 X.2.1 dX10_number_78 ?_
              refine lv_topi (fun f30 ef30 => ?_)
              refine lv_istore (lv' := [(4, .int f30), (0, .ref a0), (1, .int x1), (2, .int x2), (3, .int x3), (5, .int z1_5)]) X.1 X.2.1 dX10_number_79 hl (by decide) rfl (fun ls hl => ?_)
              obtain ⟨y31, ey31⟩ : ∃ y : Int32, y = z1_5 + Int32.ofInt 1 := ⟨_, rfl⟩
              refine lv_iinc (v := y31) (lv' := [(5, .int y31), (4, .int f30), (0, .ref a0), (1, .int x1), (2, .int x2), (3, .int x3)]) X.1 X.2.1 dX10_number_81 hl (k := 5) rfl ey31.symm (by decide) rfl (fun ls hl => ?_)
              refine lv_aload_n X.1 X.2.1 dX10_number_84 rfl (lv_at hl 2 rfl) ?_
              refine lv_dup X.1 X.2.1 dX10_number_85 rfl ?_
              refine gg_X10_2 X hK hG h0 wl_1_44 (P := P) hkv1_0_2 dX10_number_86 ?_
              refine lv_iconst (v := 1) X.1 X.2.1 dX10_number_89 (by decide +kernel) ?_
              refine lv_iadd X.1 X.2.1 dX10_number_90 ?_
              refine lv_topi (fun f32 ef32 => ?_)
              refine pf_X10_2 X hK hG hS h0 wl_1_44 ⟨_, rfl, (iv_of (iv_add (a' := 1) (b' := 240) ef32 (iv_lt (b' := 239) (iv_gt_of c3) hv1_0_2 hf2 (by decide +kernel)) (iv_c 1 (a := 1) (b := 1) (by decide +kernel)) (by decide +kernel)) (a' := 0) (b' := 240) (by decide +kernel))⟩ dX10_number_91 (fun H locs hG hS ku33 ru33 => ?_)
              refine lv_goto (tgt := 6) X.1 X.2.1 dX10_number_94 (by decide) ?_
              exact ih1 H _ _ f30 y31 f32 hG hS (lv_sub hl [2, 3, 4, 5, 1, 0] rfl) (iv_of (iv_add (a' := 1) (b' := 240) ef32 (iv_lt (b' := 239) (iv_gt_of c3) hv1_0_2 hf2 (by decide +kernel)) (iv_c 1 (a := 1) (b := 1) (by decide +kernel)) (by decide +kernel)) (a' := 0) (b' := 240) (by decide +kernel)) ku33 (iv_stepU ef32 (iv_lt (b' := 239) (iv_gt_of c3) hv1_0_2 hf2 (by decide +kernel)) (by decide +kernel) hN1)
            · refine lv_aload_n X.1 X.2.1 dX10_number_51 rfl (lv_at hl 0 rfl) ?_
              refine lv_aload_n X.1 X.2.1 dX10_number_52 rfl (lv_at hl 0 rfl) ?_
              refine gg_X10_2 X hK hG h0 wl_1_44 (P := P) hkv1_0_2 dX10_number_53 ?_
              refine pf_X10_3 X hK hG hS h0 wl_1_45 ⟨_, rfl, (iv_of (iv_lt (b' := 239) (iv_gt_of c3) hv1_0_2 hf2 (by decide +kernel)) (a' := (-2147483648)) (b' := 2147483647) (by decide +kernel))⟩ dX10_number_56 (fun H locs hG hS ku34 ru34 => ?_)
              refine lv_iconst (v := (-1)) X.1 X.2.1 dX10_number_59 (by decide +kernel) ?_
              exact sg_iret X hr hlk hb hK hC hG hS trivial dX10_number_60
  obtain ⟨g35, hg35, kg35⟩ := pk_X10_2 hG h0
  exact B1_6 _ s.heap _ _ 0 0 g35 hG hS (lv_sub hl [2, 3, 4, 5, 1, 0] rfl) hg35 kg35 (Nat.le_refl _)

theorem ca_X10_number  (X : CallFix p m c cc nL s args sg_tbl own) (hK : va_K D vwCl tys s) (hG : sgG (KT P) D vwCl (fun q : Nat => base ≤ q) tys ad ks H) (hC : sgC base s) (hS : va_S (fun q : Nat => base ≤ q) s.heap H locs) (hb : base ≤ s.heap.size) (a0 : Nat) (h0 : isK ad ks 10 a0) (x1 : Int32) (x2 : Int32) (x3 : Int32) (hl : Cond.methodLink own index yX10_number ∈ sg_tbl) (hsize : ls.size = nL) (hst : st0 = [.int x1, .int x2, .int x3].reverse ++ .ref a0 :: rest) (hW : (rest.map fun v => v.category).sum ≤ 8) (hR : 1 ≤ R.frames ∧ 25 ≤ R.locals) (hf : cells ≤ R.cells ∧ slots ≤ R.slots) (hdg : decode cc pc = .ok (.invokevirtual index, 3)) (kk : ∀ (r : Int32) (H1 : Heap) (locs1 : List Loc), (fun r : Int32 => True) r → sgG (KT P) D vwCl (fun q : Nat => base ≤ q) tys ad ks H1 → va_S (fun q : Nat => base ≤ q) s.heap H1 locs1 → W p l e R s m args below meth c H1 locs1 cells slots Q (F0 m (pc + 3) ls (.int r :: rest))) : W p l e R s m args below meth c H locs cells slots Q (F0 m pc ls st0) :=
  sg_callVi X hK hG hC hS hb (m_X10_number l a0 h0 x1 x2 x3) h0 (k := 10) (ci := 10) rfl (C := RX10) (T := TX10) (N := 4) rfl wl_3_162 wl_1_2 wl_3_160 wl_3_161 (n := 3) (by decide +kernel) rfl rfl rfl hl hsize hst hW hR hf hdg kk

set_option maxHeartbeats 8000000 in
set_option maxRecDepth 100000 in
theorem m_X3_readCut (l : Launch) {D : va_G} {base : Nat} {tys : List (ClassId × FieldType)} {ad ks : List Nat} {P : sgPm} (a0 : Nat) (h0 : isK ad ks 10 a0) (x1 : Int32) : sgMi l (KT P) D vwCl base tys ad ks yX3_readCut cX3_readCut 4 (some .int) ({ frames := 2, cells := 0, slots := 0, locals := 34 }) [.ref a0, .int x1] (fun r : Int32 => True) := by
  refine sg_ofW (by decide +kernel) (Nat.le_of_ble_eq_true rfl) (fun p e s m below meth c X hr hlk hb hK hC hG ls hl => ?_)
  have hS : va_S (fun q : Nat => base ≤ q) s.heap s.heap [] := va_S.rf
  have hl : lv_has ls 4 [(0, .ref a0), (1, .int x1)] := hl
  refine lv_aload_n X.1 X.2.1 dX3_readCut_0 rfl (lv_at hl 0 rfl) ?_
  refine ca_X10_sign X hK hG hC (fun _ h => h) hS hb a0 h0 wl_4_23 hl.1 (rest := []) rfl (Nat.le_of_ble_eq_true rfl) ⟨Nat.le_of_ble_eq_true rfl, Nat.le_of_ble_eq_true rfl⟩ ⟨Nat.le_of_ble_eq_true rfl, Nat.le_of_ble_eq_true rfl⟩ dX3_readCut_1 (fun f1 locs hf1 hS => ?_)
  refine lv_istore_n (lv' := [(2, .int f1), (0, .ref a0), (1, .int x1)]) X.1 X.2.1 dX3_readCut_4 rfl hl (by decide) rfl (fun ls hl => ?_)
  refine lv_iload_n X.1 X.2.1 dX3_readCut_5 rfl (lv_at hl 0 rfl) ?_
  refine lv_bipush (v := 114) X.1 X.2.1 dX3_readCut_6 (by decide +kernel) ?_
  have B3_24 : ∀ (locs : List Loc) (ls : Array Slot), va_S (fun q : Nat => base ≤ q) s.heap s.heap locs → lv_has ls 4 [(0, .ref a0), (1, .int x1), (2, .int f1)] → W p l e (headSpec (Cond.code yX3_readCut cX3_readCut 4 (some .int) :: sg_tbl) ({ frames := 2, cells := 0, slots := 0, locals := 34 })).room s m #[.ref a0, .int x1] below meth c s.heap locs 0 0 (MQ below (va_Qi (fun r (_ : Unit) => (fun r : Int32 => True) r) (fun _ => sgB (KT P) D vwCl base tys ad ks) (fun q : Nat => base ≤ q)) #[.ref a0, .int x1] s 0 0 (fun q : Nat => base ≤ q)) (F0 m 24 ls []) := by
    intro locs ls hS hl
    refine lv_aload_n X.1 X.2.1 dX3_readCut_24 rfl (lv_at hl 0 rfl) ?_
    refine ca_X10_step X hK hG hC hS hb a0 h0 wl_4_25 hl.1 (rest := []) rfl (Nat.le_of_ble_eq_true rfl) ⟨Nat.le_of_ble_eq_true rfl, Nat.le_of_ble_eq_true rfl⟩ ⟨Nat.le_of_ble_eq_true rfl, Nat.le_of_ble_eq_true rfl⟩ dX3_readCut_25 (fun H locs hG hS => ?_)
    refine lv_aload_n X.1 X.2.1 dX3_readCut_28 rfl (lv_at hl 0 rfl) ?_
    refine ca_X10_sign X hK hG hC (fun _ h => h) hS hb a0 h0 wl_4_23 hl.1 (rest := []) rfl (Nat.le_of_ble_eq_true rfl) ⟨Nat.le_of_ble_eq_true rfl, Nat.le_of_ble_eq_true rfl⟩ ⟨Nat.le_of_ble_eq_true rfl, Nat.le_of_ble_eq_true rfl⟩ dX3_readCut_29 (fun f5 locs hf5 hS => ?_)
    refine lv_bipush (v := 48) X.1 X.2.1 dX3_readCut_32 (by decide +kernel) ?_
    refine lv_isub X.1 X.2.1 dX3_readCut_34 ?_
    refine lv_topi (fun f6 ef6 => ?_)
    refine lv_istore_n (lv' := [(3, .int f6), (0, .ref a0), (1, .int x1), (2, .int f1)]) X.1 X.2.1 dX3_readCut_35 rfl hl (by decide) rfl (fun ls hl => ?_)
    refine lv_iload_n X.1 X.2.1 dX3_readCut_36 rfl (lv_at hl 0 rfl) ?_
    refine lv_iconst (v := 1) X.1 X.2.1 dX3_readCut_37 (by decide +kernel) ?_
    have B8_46 : ∀ (locs : List Loc) (ls : Array Slot), va_S (fun q : Nat => base ≤ q) s.heap H locs → lv_has ls 4 [(0, .ref a0)] → W p l e (headSpec (Cond.code yX3_readCut cX3_readCut 4 (some .int) :: sg_tbl) ({ frames := 2, cells := 0, slots := 0, locals := 34 })).room s m #[.ref a0, .int x1] below meth c H locs 0 0 (MQ below (va_Qi (fun r (_ : Unit) => (fun r : Int32 => True) r) (fun _ => sgB (KT P) D vwCl base tys ad ks) (fun q : Nat => base ≤ q)) #[.ref a0, .int x1] s 0 0 (fun q : Nat => base ≤ q)) (F0 m 46 ls []) := by
      intro locs ls hS hl
      refine lv_aload_n X.1 X.2.1 dX3_readCut_46 rfl (lv_at hl 0 rfl) ?_
      refine ca_X10_wrong X hK hG hC hS hb a0 h0 wl_4_24 hl.1 (rest := []) rfl (Nat.le_of_ble_eq_true rfl) ⟨Nat.le_of_ble_eq_true rfl, Nat.le_of_ble_eq_true rfl⟩ ⟨Nat.le_of_ble_eq_true rfl, Nat.le_of_ble_eq_true rfl⟩ dX3_readCut_47 (fun f9 H locs hf9 hG hS => ?_)
      refine lv_pop X.1 X.2.1 dX3_readCut_50 rfl ?_
      refine lv_iconst (v := (-1)) X.1 X.2.1 dX3_readCut_51 (by decide +kernel) ?_
      exact sg_iret X hr hlk hb hK hC hG hS trivial dX3_readCut_52
    refine lv_icmp_lt (tgt := 46) X.1 X.2.1 dX3_readCut_38 (by decide) (fun c7 => ?_) (fun c7 => ?_)
    · exact B8_46 _ _ hS (lv_sub hl [1] rfl)
    · refine lv_iload_n X.1 X.2.1 dX3_readCut_41 rfl (lv_at hl 0 rfl) ?_
      refine lv_iconst (v := 5) X.1 X.2.1 dX3_readCut_42 (by decide +kernel) ?_
      refine lv_icmp_le (tgt := 53) X.1 X.2.1 dX3_readCut_43 (by decide) (fun c10 => ?_) (fun c10 => ?_)
      · refine lv_aload_n X.1 X.2.1 dX3_readCut_53 rfl (lv_at hl 1 rfl) ?_
        refine ca_X10_step X hK hG hC hS hb a0 h0 wl_4_25 hl.1 (rest := []) rfl (Nat.le_of_ble_eq_true rfl) ⟨Nat.le_of_ble_eq_true rfl, Nat.le_of_ble_eq_true rfl⟩ ⟨Nat.le_of_ble_eq_true rfl, Nat.le_of_ble_eq_true rfl⟩ dX3_readCut_54 (fun H locs hG hS => ?_)
        refine lv_iconst (v := 1) X.1 X.2.1 dX3_readCut_57 (by decide +kernel) ?_
        refine lv_iload_n X.1 X.2.1 dX3_readCut_58 rfl (lv_at hl 2 rfl) ?_
        refine lv_iload_n X.1 X.2.1 dX3_readCut_59 rfl (lv_at hl 3 rfl) ?_
        refine lv_bipush (v := 100) X.1 X.2.1 dX3_readCut_60 (by decide +kernel) ?_
        have B13_70 : ∀ (locs : List Loc) (ls : Array Slot) (w13_0 : Int32), va_S (fun q : Nat => base ≤ q) s.heap H locs → lv_has ls 4 [(3, .int f6)] → iv 0 1 w13_0 → W p l e (headSpec (Cond.code yX3_readCut cX3_readCut 4 (some .int) :: sg_tbl) ({ frames := 2, cells := 0, slots := 0, locals := 34 })).room s m #[.ref a0, .int x1] below meth c H locs 0 0 (MQ below (va_Qi (fun r (_ : Unit) => (fun r : Int32 => True) r) (fun _ => sgB (KT P) D vwCl base tys ad ks) (fun q : Nat => base ≤ q)) #[.ref a0, .int x1] s 0 0 (fun q : Nat => base ≤ q)) (F0 m 70 ls [.int w13_0, .int x1, .int 1]) := by
          intro locs ls w13_0 hS hl hw13_0
          refine lv_iload_n X.1 X.2.1 dX3_readCut_70 rfl (lv_at hl 0 rfl) ?_
          refine ca_X3_packed X hK hG hC (fun _ h => h) hS hb 1 x1 w13_0 f6 wl_4_26 hl.1 (rest := []) rfl (Nat.le_of_ble_eq_true rfl) ⟨Nat.le_of_ble_eq_true rfl, Nat.le_of_ble_eq_true rfl⟩ ⟨Nat.le_of_ble_eq_true rfl, Nat.le_of_ble_eq_true rfl⟩ dX3_readCut_71 (fun f14 locs hf14 hS => ?_)
          exact sg_iret X hr hlk hb hK hC hG hS trivial dX3_readCut_74
        refine lv_icmp_ne (tgt := 69) X.1 X.2.1 dX3_readCut_62 (by decide) (fun c12 => ?_) (fun c12 => ?_)
        · refine lv_iconst (v := 0) X.1 X.2.1 dX3_readCut_69 (by decide +kernel) ?_
          exact B13_70 _ _ 0 hS (lv_sub hl [0] rfl) (iv_of (iv_c 0 (a := 0) (b := 0) (by decide +kernel)) (a' := 0) (b' := 1) (by decide +kernel))
        · refine lv_iconst (v := 1) X.1 X.2.1 dX3_readCut_65 (by decide +kernel) ?_
          refine lv_goto (tgt := 70) X.1 X.2.1 dX3_readCut_66 (by decide) ?_
          exact B13_70 _ _ 1 hS (lv_sub hl [0] rfl) (iv_of (iv_c 1 (a := 1) (b := 1) (by decide +kernel)) (a' := 0) (b' := 1) (by decide +kernel))
      · exact B8_46 _ _ hS (lv_sub hl [1] rfl)
  refine lv_icmp_eq (tgt := 24) X.1 X.2.1 dX3_readCut_8 (by decide) (fun c2 => ?_) (fun c2 => ?_)
  · exact B3_24 _ _ hS (lv_sub hl [1, 2, 0] rfl)
  · refine lv_iload_n X.1 X.2.1 dX3_readCut_11 rfl (lv_at hl 0 rfl) ?_
    refine lv_bipush (v := 100) X.1 X.2.1 dX3_readCut_12 (by decide +kernel) ?_
    refine lv_icmp_eq (tgt := 24) X.1 X.2.1 dX3_readCut_14 (by decide) (fun c15 => ?_) (fun c15 => ?_)
    · exact B3_24 _ _ hS (lv_sub hl [1, 2, 0] rfl)
    · refine lv_aload_n X.1 X.2.1 dX3_readCut_17 rfl (lv_at hl 1 rfl) ?_
      refine ca_X10_wrong X hK hG hC hS hb a0 h0 wl_4_24 hl.1 (rest := []) rfl (Nat.le_of_ble_eq_true rfl) ⟨Nat.le_of_ble_eq_true rfl, Nat.le_of_ble_eq_true rfl⟩ ⟨Nat.le_of_ble_eq_true rfl, Nat.le_of_ble_eq_true rfl⟩ dX3_readCut_18 (fun f16 H locs hf16 hG hS => ?_)
      refine lv_pop X.1 X.2.1 dX3_readCut_21 rfl ?_
      refine lv_iconst (v := (-1)) X.1 X.2.1 dX3_readCut_22 (by decide +kernel) ?_
      exact sg_iret X hr hlk hb hK hC hG hS trivial dX3_readCut_23

theorem ca_X3_readCut  (X : CallFix p m c cc nL s args sg_tbl own) (hK : va_K D vwCl tys s) (hG : sgG (KT P) D vwCl (fun q : Nat => base ≤ q) tys ad ks H) (hC : sgC base s) (hS : va_S (fun q : Nat => base ≤ q) s.heap H locs) (hb : base ≤ s.heap.size) (a0 : Nat) (h0 : isK ad ks 10 a0) (x1 : Int32) (hl : Cond.methodLink own index yX3_readCut ∈ sg_tbl) (hsize : ls.size = nL) (hst : st0 = [.ref a0, .int x1].reverse ++ rest) (hW : (rest.map fun v => v.category).sum ≤ 8) (hR : 3 ≤ R.frames ∧ 57 ≤ R.locals) (hf : cells ≤ R.cells ∧ slots ≤ R.slots) (hdg : decode cc pc = .ok (.invokestatic index, 3)) (kk : ∀ (r : Int32) (H1 : Heap) (locs1 : List Loc), (fun r : Int32 => True) r → sgG (KT P) D vwCl (fun q : Nat => base ≤ q) tys ad ks H1 → va_S (fun q : Nat => base ≤ q) s.heap H1 locs1 → W p l e R s m args below meth c H1 locs1 cells slots Q (F0 m (pc + 3) ls (.int r :: rest))) : W p l e R s m args below meth c H locs cells slots Q (F0 m pc ls st0) :=
  sg_callSi X hK hG hC hS hb (m_X3_readCut l a0 h0 x1) wl_4_32 wl_1_4 wl_4_31 (n := 2) (by decide +kernel) rfl rfl rfl hl hsize hst hW hR hf hdg kk

set_option maxHeartbeats 8000000 in
set_option maxRecDepth 100000 in
theorem m_X3_readMove (l : Launch) {D : va_G} {base : Nat} {tys : List (ClassId × FieldType)} {ad ks : List Nat} {P : sgPm} (a0 : Nat) (h0 : isK ad ks 3 a0) (a1 : Nat) (h1 : isK ad ks 10 a1) : sgMi l (KT P) D vwCl base tys ad ks yX3_readMove cX3_readMove 4 (some .int) ({ frames := 3, cells := 0, slots := 0, locals := 57 }) [.ref a0, .ref a1] (fun r : Int32 => True) := by
  refine sg_ofW (by decide +kernel) (Nat.le_of_ble_eq_true rfl) (fun p e s m below meth c X hr hlk hb hK hC hG ls hl => ?_)
  have hS : va_S (fun q : Nat => base ≤ q) s.heap s.heap [] := va_S.rf
  have hl : lv_has ls 4 [(0, .ref a0), (1, .ref a1)] := hl
  refine lv_aload_n X.1 X.2.1 dX3_readMove_0 rfl (lv_at hl 1 rfl) ?_
  refine ca_X10_sign X hK hG hC (fun _ h => h) hS hb a1 h1 wl_4_23 hl.1 (rest := []) rfl (Nat.le_of_ble_eq_true rfl) ⟨Nat.le_of_ble_eq_true rfl, Nat.le_of_ble_eq_true rfl⟩ ⟨Nat.le_of_ble_eq_true rfl, Nat.le_of_ble_eq_true rfl⟩ dX3_readMove_1 (fun f1 locs hf1 hS => ?_)
  refine lv_istore_n (lv' := [(2, .int f1), (0, .ref a0), (1, .ref a1)]) X.1 X.2.1 dX3_readMove_4 rfl hl (by decide) rfl (fun ls hl => ?_)
  refine lv_iload_n X.1 X.2.1 dX3_readMove_5 rfl (lv_at hl 0 rfl) ?_
  refine lv_bipush (v := 103) X.1 X.2.1 dX3_readMove_6 (by decide +kernel) ?_
  have B3_36 : ∀ (locs : List Loc) (ls : Array Slot), va_S (fun q : Nat => base ≤ q) s.heap s.heap locs → lv_has ls 4 [(0, .ref a0), (1, .ref a1), (2, .int f1)] → W p l e (headSpec (Cond.code yX3_readMove cX3_readMove 4 (some .int) :: sg_tbl) ({ frames := 3, cells := 0, slots := 0, locals := 57 })).room s m #[.ref a0, .ref a1] below meth c s.heap locs 0 0 (MQ below (va_Qi (fun r (_ : Unit) => (fun r : Int32 => True) r) (fun _ => sgB (KT P) D vwCl base tys ad ks) (fun q : Nat => base ≤ q)) #[.ref a0, .ref a1] s 0 0 (fun q : Nat => base ≤ q)) (F0 m 36 ls []) := by
    intro locs ls hS hl
    refine lv_aload_n X.1 X.2.1 dX3_readMove_36 rfl (lv_at hl 1 rfl) ?_
    refine ca_X10_step X hK hG hC hS hb a1 h1 wl_4_25 hl.1 (rest := []) rfl (Nat.le_of_ble_eq_true rfl) ⟨Nat.le_of_ble_eq_true rfl, Nat.le_of_ble_eq_true rfl⟩ ⟨Nat.le_of_ble_eq_true rfl, Nat.le_of_ble_eq_true rfl⟩ dX3_readMove_37 (fun H locs hG hS => ?_)
    refine lv_iload_n X.1 X.2.1 dX3_readMove_40 rfl (lv_at hl 2 rfl) ?_
    refine lv_bipush (v := 120) X.1 X.2.1 dX3_readMove_41 (by decide +kernel) ?_
    refine lv_icmp_ne (tgt := 54) X.1 X.2.1 dX3_readMove_43 (by decide) (fun c5 => ?_) (fun c5 => ?_)
    · refine lv_iload_n X.1 X.2.1 dX3_readMove_54 rfl (lv_at hl 2 rfl) ?_
      refine lv_bipush (v := 103) X.1 X.2.1 dX3_readMove_55 (by decide +kernel) ?_
      have B7_91 : ∀ (locs : List Loc) (ls : Array Slot), va_S (fun q : Nat => base ≤ q) s.heap H locs → lv_has ls 4 [(1, .ref a1), (2, .int f1)] → W p l e (headSpec (Cond.code yX3_readMove cX3_readMove 4 (some .int) :: sg_tbl) ({ frames := 3, cells := 0, slots := 0, locals := 57 })).room s m #[.ref a0, .ref a1] below meth c H locs 0 0 (MQ below (va_Qi (fun r (_ : Unit) => (fun r : Int32 => True) r) (fun _ => sgB (KT P) D vwCl base tys ad ks) (fun q : Nat => base ≤ q)) #[.ref a0, .ref a1] s 0 0 (fun q : Nat => base ≤ q)) (F0 m 91 ls []) := by
        intro locs ls hS hl
        refine lv_aload_n X.1 X.2.1 dX3_readMove_91 rfl (lv_at hl 0 rfl) ?_
        refine lv_iconst (v := 2) X.1 X.2.1 dX3_readMove_92 (by decide +kernel) ?_
        refine lv_iconst (v := 0) X.1 X.2.1 dX3_readMove_93 (by decide +kernel) ?_
        refine lv_bipush (v := 29) X.1 X.2.1 dX3_readMove_94 (by decide +kernel) ?_
        refine ca_X10_number X hK hG hC hS hb a1 h1 2 0 29 wl_4_29 hl.1 (rest := []) rfl (Nat.le_of_ble_eq_true rfl) ⟨Nat.le_of_ble_eq_true rfl, Nat.le_of_ble_eq_true rfl⟩ ⟨Nat.le_of_ble_eq_true rfl, Nat.le_of_ble_eq_true rfl⟩ dX3_readMove_96 (fun f8 H locs hf8 hG hS => ?_)
        refine lv_istore_n (lv' := [(3, .int f8), (1, .ref a1), (2, .int f1)]) X.1 X.2.1 dX3_readMove_99 rfl hl (by decide) rfl (fun ls hl => ?_)
        refine lv_iload_n X.1 X.2.1 dX3_readMove_100 rfl (lv_at hl 0 rfl) ?_
        refine lv_iconst (v := (-1)) X.1 X.2.1 dX3_readMove_101 (by decide +kernel) ?_
        refine lv_icmp_ne (tgt := 107) X.1 X.2.1 dX3_readMove_102 (by decide) (fun c9 => ?_) (fun c9 => ?_)
        · refine lv_iload_n X.1 X.2.1 dX3_readMove_107 rfl (lv_at hl 2 rfl) ?_
          refine lv_bipush (v := 99) X.1 X.2.1 dX3_readMove_108 (by decide +kernel) ?_
          refine lv_icmp_ne (tgt := 119) X.1 X.2.1 dX3_readMove_110 (by decide) (fun c10 => ?_) (fun c10 => ?_)
          · refine lv_iload_n X.1 X.2.1 dX3_readMove_119 rfl (lv_at hl 2 rfl) ?_
            refine lv_bipush (v := 103) X.1 X.2.1 dX3_readMove_120 (by decide +kernel) ?_
            have B12_130 : ∀ (locs : List Loc) (ls : Array Slot) (w12_0 : Int32), va_S (fun q : Nat => base ≤ q) s.heap H locs → lv_has ls 4 [(3, .int f8)] → iv 0 2 w12_0 → W p l e (headSpec (Cond.code yX3_readMove cX3_readMove 4 (some .int) :: sg_tbl) ({ frames := 3, cells := 0, slots := 0, locals := 57 })).room s m #[.ref a0, .ref a1] below meth c H locs 0 0 (MQ below (va_Qi (fun r (_ : Unit) => (fun r : Int32 => True) r) (fun _ => sgB (KT P) D vwCl base tys ad ks) (fun q : Nat => base ≤ q)) #[.ref a0, .ref a1] s 0 0 (fun q : Nat => base ≤ q)) (F0 m 130 ls [.int w12_0]) := by
              intro locs ls w12_0 hS hl hw12_0
              refine lv_iload_n X.1 X.2.1 dX3_readMove_130 rfl (lv_at hl 0 rfl) ?_
              refine lv_iconst (v := 0) X.1 X.2.1 dX3_readMove_131 (by decide +kernel) ?_
              refine lv_iconst (v := 0) X.1 X.2.1 dX3_readMove_132 (by decide +kernel) ?_
              refine ca_X3_packed X hK hG hC (fun _ h => h) hS hb w12_0 f8 0 0 wl_4_26 hl.1 (rest := []) rfl (Nat.le_of_ble_eq_true rfl) ⟨Nat.le_of_ble_eq_true rfl, Nat.le_of_ble_eq_true rfl⟩ ⟨Nat.le_of_ble_eq_true rfl, Nat.le_of_ble_eq_true rfl⟩ dX3_readMove_133 (fun f13 locs hf13 hS => ?_)
              exact sg_iret X hr hlk hb hK hC hG hS trivial dX3_readMove_136
            refine lv_icmp_ne (tgt := 129) X.1 X.2.1 dX3_readMove_122 (by decide) (fun c11 => ?_) (fun c11 => ?_)
            · refine lv_iconst (v := 2) X.1 X.2.1 dX3_readMove_129 (by decide +kernel) ?_
              exact B12_130 _ _ 2 hS (lv_sub hl [0] rfl) (iv_of (iv_c 2 (a := 2) (b := 2) (by decide +kernel)) (a' := 0) (b' := 2) (by decide +kernel))
            · refine lv_iconst (v := 0) X.1 X.2.1 dX3_readMove_125 (by decide +kernel) ?_
              refine lv_goto (tgt := 130) X.1 X.2.1 dX3_readMove_126 (by decide) ?_
              exact B12_130 _ _ 0 hS (lv_sub hl [0] rfl) (iv_of (iv_c 0 (a := 0) (b := 0) (by decide +kernel)) (a' := 0) (b' := 2) (by decide +kernel))
          · refine lv_aload_n X.1 X.2.1 dX3_readMove_113 rfl (lv_at hl 1 rfl) ?_
            refine lv_iload_n X.1 X.2.1 dX3_readMove_114 rfl (lv_at hl 0 rfl) ?_
            refine ca_X3_readCut X hK hG hC hS hb a1 h1 f8 wl_4_30 hl.1 (rest := []) rfl (Nat.le_of_ble_eq_true rfl) ⟨Nat.le_of_ble_eq_true rfl, Nat.le_of_ble_eq_true rfl⟩ ⟨Nat.le_of_ble_eq_true rfl, Nat.le_of_ble_eq_true rfl⟩ dX3_readMove_115 (fun f14 H locs hf14 hG hS => ?_)
            exact sg_iret X hr hlk hb hK hC hG hS trivial dX3_readMove_118
        · refine lv_iconst (v := (-1)) X.1 X.2.1 dX3_readMove_105 (by decide +kernel) ?_
          exact sg_iret X hr hlk hb hK hC hG hS trivial dX3_readMove_106
      refine lv_icmp_ne (tgt := 91) X.1 X.2.1 dX3_readMove_57 (by decide) (fun c6 => ?_) (fun c6 => ?_)
      · exact B7_91 _ _ hS (lv_sub hl [1, 2] rfl)
      · refine lv_aload_n X.1 X.2.1 dX3_readMove_60 rfl (lv_at hl 1 rfl) ?_
        refine ca_X10_sign X hK hG hC (fun _ h => h) hS hb a1 h1 wl_4_23 hl.1 (rest := []) rfl (Nat.le_of_ble_eq_true rfl) ⟨Nat.le_of_ble_eq_true rfl, Nat.le_of_ble_eq_true rfl⟩ ⟨Nat.le_of_ble_eq_true rfl, Nat.le_of_ble_eq_true rfl⟩ dX3_readMove_61 (fun f15 locs hf15 hS => ?_)
        refine lv_bipush (v := 63) X.1 X.2.1 dX3_readMove_64 (by decide +kernel) ?_
        refine lv_icmp_ne (tgt := 91) X.1 X.2.1 dX3_readMove_66 (by decide) (fun c16 => ?_) (fun c16 => ?_)
        · exact B7_91 _ _ hS (lv_sub hl [1, 2] rfl)
        · refine lv_aload_n X.1 X.2.1 dX3_readMove_69 rfl (lv_at hl 1 rfl) ?_
          refine ca_X10_step X hK hG hC hS hb a1 h1 wl_4_25 hl.1 (rest := []) rfl (Nat.le_of_ble_eq_true rfl) ⟨Nat.le_of_ble_eq_true rfl, Nat.le_of_ble_eq_true rfl⟩ ⟨Nat.le_of_ble_eq_true rfl, Nat.le_of_ble_eq_true rfl⟩ dX3_readMove_70 (fun H locs hG hS => ?_)
          refine lv_aload_n X.1 X.2.1 dX3_readMove_73 rfl (lv_at hl 0 rfl) ?_
          refine lv_dup X.1 X.2.1 dX3_readMove_74 rfl ?_
          refine gf_X3_2 X hK hG h0 wl_1_100 dX3_readMove_75 (fun f18 hf18 kf18 => ?_)
          refine lv_iconst (v := 1) X.1 X.2.1 dX3_readMove_78 (by decide +kernel) ?_
          refine lv_iadd X.1 X.2.1 dX3_readMove_79 ?_
          refine lv_topi (fun f19 ef19 => ?_)
          refine pf_X3_2 X hK hG hS h0 wl_1_100 ⟨_, rfl, (iv_top f19)⟩ dX3_readMove_80 (fun H locs hG hS ku20 ru20 => ?_)
          refine lv_iconst (v := 0) X.1 X.2.1 dX3_readMove_83 (by decide +kernel) ?_
          refine lv_iconst (v := (-1)) X.1 X.2.1 dX3_readMove_84 (by decide +kernel) ?_
          refine lv_iconst (v := 0) X.1 X.2.1 dX3_readMove_85 (by decide +kernel) ?_
          refine lv_iconst (v := 0) X.1 X.2.1 dX3_readMove_86 (by decide +kernel) ?_
          refine ca_X3_packed X hK hG hC (fun _ h => h) hS hb 0 (-1) 0 0 wl_4_26 hl.1 (rest := []) rfl (Nat.le_of_ble_eq_true rfl) ⟨Nat.le_of_ble_eq_true rfl, Nat.le_of_ble_eq_true rfl⟩ ⟨Nat.le_of_ble_eq_true rfl, Nat.le_of_ble_eq_true rfl⟩ dX3_readMove_87 (fun f21 locs hf21 hS => ?_)
          exact sg_iret X hr hlk hb hK hC hG hS trivial dX3_readMove_90
    · refine lv_iconst (v := 3) X.1 X.2.1 dX3_readMove_46 (by decide +kernel) ?_
      refine lv_iconst (v := (-1)) X.1 X.2.1 dX3_readMove_47 (by decide +kernel) ?_
      refine lv_iconst (v := 0) X.1 X.2.1 dX3_readMove_48 (by decide +kernel) ?_
      refine lv_iconst (v := 0) X.1 X.2.1 dX3_readMove_49 (by decide +kernel) ?_
      refine ca_X3_packed X hK hG hC (fun _ h => h) hS hb 3 (-1) 0 0 wl_4_26 hl.1 (rest := []) rfl (Nat.le_of_ble_eq_true rfl) ⟨Nat.le_of_ble_eq_true rfl, Nat.le_of_ble_eq_true rfl⟩ ⟨Nat.le_of_ble_eq_true rfl, Nat.le_of_ble_eq_true rfl⟩ dX3_readMove_50 (fun f22 locs hf22 hS => ?_)
      exact sg_iret X hr hlk hb hK hC hG hS trivial dX3_readMove_53
  refine lv_icmp_eq (tgt := 36) X.1 X.2.1 dX3_readMove_8 (by decide) (fun c2 => ?_) (fun c2 => ?_)
  · exact B3_36 _ _ hS (lv_sub hl [1, 2, 0] rfl)
  · refine lv_iload_n X.1 X.2.1 dX3_readMove_11 rfl (lv_at hl 0 rfl) ?_
    refine lv_bipush (v := 99) X.1 X.2.1 dX3_readMove_12 (by decide +kernel) ?_
    refine lv_icmp_eq (tgt := 36) X.1 X.2.1 dX3_readMove_14 (by decide) (fun c23 => ?_) (fun c23 => ?_)
    · exact B3_36 _ _ hS (lv_sub hl [1, 2, 0] rfl)
    · refine lv_iload_n X.1 X.2.1 dX3_readMove_17 rfl (lv_at hl 0 rfl) ?_
      refine lv_bipush (v := 109) X.1 X.2.1 dX3_readMove_18 (by decide +kernel) ?_
      refine lv_icmp_eq (tgt := 36) X.1 X.2.1 dX3_readMove_20 (by decide) (fun c24 => ?_) (fun c24 => ?_)
      · exact B3_36 _ _ hS (lv_sub hl [1, 2, 0] rfl)
      · refine lv_iload_n X.1 X.2.1 dX3_readMove_23 rfl (lv_at hl 0 rfl) ?_
        refine lv_bipush (v := 120) X.1 X.2.1 dX3_readMove_24 (by decide +kernel) ?_
        refine lv_icmp_eq (tgt := 36) X.1 X.2.1 dX3_readMove_26 (by decide) (fun c25 => ?_) (fun c25 => ?_)
        · exact B3_36 _ _ hS (lv_sub hl [1, 2, 0] rfl)
        · refine lv_aload_n X.1 X.2.1 dX3_readMove_29 rfl (lv_at hl 2 rfl) ?_
          refine ca_X10_wrong X hK hG hC hS hb a1 h1 wl_4_24 hl.1 (rest := []) rfl (Nat.le_of_ble_eq_true rfl) ⟨Nat.le_of_ble_eq_true rfl, Nat.le_of_ble_eq_true rfl⟩ ⟨Nat.le_of_ble_eq_true rfl, Nat.le_of_ble_eq_true rfl⟩ dX3_readMove_30 (fun f26 H locs hf26 hG hS => ?_)
          refine lv_pop X.1 X.2.1 dX3_readMove_33 rfl ?_
          refine lv_iconst (v := (-1)) X.1 X.2.1 dX3_readMove_34 (by decide +kernel) ?_
          exact sg_iret X hr hlk hb hK hC hG hS trivial dX3_readMove_35

theorem ca_X3_readMove  (X : CallFix p m c cc nL s args sg_tbl own) (hK : va_K D vwCl tys s) (hG : sgG (KT P) D vwCl (fun q : Nat => base ≤ q) tys ad ks H) (hC : sgC base s) (hS : va_S (fun q : Nat => base ≤ q) s.heap H locs) (hb : base ≤ s.heap.size) (a0 : Nat) (h0 : isK ad ks 3 a0) (a1 : Nat) (h1 : isK ad ks 10 a1) (hl : Cond.methodLink own index yX3_readMove ∈ sg_tbl) (hsize : ls.size = nL) (hst : st0 = [.ref a1].reverse ++ .ref a0 :: rest) (hW : (rest.map fun v => v.category).sum ≤ 8) (hR : 4 ≤ R.frames ∧ 80 ≤ R.locals) (hf : cells ≤ R.cells ∧ slots ≤ R.slots) (hdg : decode cc pc = .ok (.invokevirtual index, 3)) (kk : ∀ (r : Int32) (H1 : Heap) (locs1 : List Loc), (fun r : Int32 => True) r → sgG (KT P) D vwCl (fun q : Nat => base ≤ q) tys ad ks H1 → va_S (fun q : Nat => base ≤ q) s.heap H1 locs1 → W p l e R s m args below meth c H1 locs1 cells slots Q (F0 m (pc + 3) ls (.int r :: rest))) : W p l e R s m args below meth c H locs cells slots Q (F0 m pc ls st0) :=
  sg_callVi X hK hG hC hS hb (m_X3_readMove l a0 h0 a1 h1) h0 (k := 3) (ci := 3) rfl (C := RX3) (T := TX3) (N := 3) rfl wl_4_22 wl_1_4 wl_4_21 wl_0_17 (n := 1) (by decide +kernel) rfl rfl rfl hl hsize hst hW hR hf hdg kk

set_option maxHeartbeats 8000000 in
set_option maxRecDepth 100000 in
theorem m_X3_read (l : Launch) {D : va_G} {base : Nat} {tys : List (ClassId × FieldType)} {ad ks : List Nat} {P : sgPm} (a0 : Nat) (h0 : isK ad ks 3 a0) (a1 : Nat) (h1 : isK ad ks 10 a1) : sgMi l (KT P) D vwCl base tys ad ks yX3_read cX3_read 4 (some .boolean) ({ frames := 4, cells := 0, slots := 0, locals := 80 }) [.ref a0, .ref a1] (fun r : Int32 => iv 0 1 r) := by
  refine sg_ofW (by decide +kernel) (Nat.le_of_ble_eq_true rfl) (fun p e s m below meth c X hr hlk hb hK hC hG ls hl => ?_)
  have hS : va_S (fun q : Nat => base ≤ q) s.heap s.heap [] := va_S.rf
  have hl : lv_has ls 4 [(0, .ref a0), (1, .ref a1)] := hl
  refine lv_aload_n X.1 X.2.1 dX3_read_0 rfl (lv_at hl 1 rfl) ?_
  refine ca_X10_rewind X hK hG hC hS hb a1 h1 wl_4_18 hl.1 (rest := []) rfl (Nat.le_of_ble_eq_true rfl) ⟨Nat.le_of_ble_eq_true rfl, Nat.le_of_ble_eq_true rfl⟩ ⟨Nat.le_of_ble_eq_true rfl, Nat.le_of_ble_eq_true rfl⟩ dX3_read_1 (fun H locs hG hS => ?_)
  refine lv_aload_n X.1 X.2.1 dX3_read_4 rfl (lv_at hl 0 rfl) ?_
  refine lv_iconst (v := 0) X.1 X.2.1 dX3_read_5 (by decide +kernel) ?_
  refine pf_X3_2 X hK hG hS h0 wl_1_100 ⟨_, rfl, (iv_of (iv_c 0 (a := 0) (b := 0) (by decide +kernel)) (a' := (-2147483648)) (b' := 2147483647) (by decide +kernel))⟩ dX3_read_6 (fun H locs hG hS ku2 ru2 => ?_)
  refine lv_aload_n X.1 X.2.1 dX3_read_9 rfl (lv_at hl 0 rfl) ?_
  refine lv_iconst (v := 0) X.1 X.2.1 dX3_read_10 (by decide +kernel) ?_
  refine pf_X3_1 X hK hG hS h0 wl_1_97 ⟨_, rfl, (iv_of (iv_c 0 (a := 0) (b := 0) (by decide +kernel)) (a' := 0) (b' := 16) (by decide +kernel))⟩ dX3_read_11 (fun H locs hG hS ku3 ru3 => ?_)
  refine lv_iconst (v := 0) X.1 X.2.1 dX3_read_14 (by decide +kernel) ?_
  refine lv_istore_n (lv' := [(2, .int 0), (0, .ref a0), (1, .ref a1)]) X.1 X.2.1 dX3_read_15 rfl hl (by decide) rfl (fun ls hl => ?_)
  have B4_16 : ∀ (N : Nat) (H : Heap) (locs : List Loc) (ls : Array Slot) (z4_2 : Int32), sgG (KT P) D vwCl (fun q : Nat => base ≤ q) tys ad ks H → va_S (fun q : Nat => base ≤ q) s.heap H locs → lv_has ls 4 [(0, .ref a0), (1, .ref a1), (2, .int z4_2)] → iv 0 16 z4_2 → (17 - z4_2.toInt).toNat ≤ N → W p l e (headSpec (Cond.code yX3_read cX3_read 4 (some .boolean) :: sg_tbl) ({ frames := 4, cells := 0, slots := 0, locals := 80 })).room s m #[.ref a0, .ref a1] below meth c H locs 0 0 (MQ below (va_Qi (fun r (_ : Unit) => (fun r : Int32 => iv 0 1 r) r) (fun _ => sgB (KT P) D vwCl base tys ad ks) (fun q : Nat => base ≤ q)) #[.ref a0, .ref a1] s 0 0 (fun q : Nat => base ≤ q)) (F0 m 16 ls []) := by
    intro N; induction N with
    | zero =>
      intro H locs ls z4_2 hG hS hl hz4_2 hN
      exact absurd hN (by have := iv_up hz4_2; omega)
    | succ N ih4 =>
      intro H locs ls z4_2 hG hS hl hz4_2 hN4
      refine lv_iload_n X.1 X.2.1 dX3_read_16 rfl (lv_at hl 2 rfl) ?_
      refine lv_bipush (v := 16) X.1 X.2.1 dX3_read_17 (by decide +kernel) ?_
      have B6_80 : ∀ (H : Heap) (locs : List Loc) (ls : Array Slot), sgG (KT P) D vwCl (fun q : Nat => base ≤ q) tys ad ks H → va_S (fun q : Nat => base ≤ q) s.heap H locs → lv_has ls 4 [(1, .ref a1)] → W p l e (headSpec (Cond.code yX3_read cX3_read 4 (some .boolean) :: sg_tbl) ({ frames := 4, cells := 0, slots := 0, locals := 80 })).room s m #[.ref a0, .ref a1] below meth c H locs 0 0 (MQ below (va_Qi (fun r (_ : Unit) => (fun r : Int32 => iv 0 1 r) r) (fun _ => sgB (KT P) D vwCl base tys ad ks) (fun q : Nat => base ≤ q)) #[.ref a0, .ref a1] s 0 0 (fun q : Nat => base ≤ q)) (F0 m 80 ls []) := by
        intro H locs ls hG hS hl
        refine lv_aload_n X.1 X.2.1 dX3_read_80 rfl (lv_at hl 0 rfl) ?_
        refine ca_X10_ended X hK hG hC hS hb a1 h1 wl_4_33 hl.1 (rest := []) rfl (Nat.le_of_ble_eq_true rfl) ⟨Nat.le_of_ble_eq_true rfl, Nat.le_of_ble_eq_true rfl⟩ ⟨Nat.le_of_ble_eq_true rfl, Nat.le_of_ble_eq_true rfl⟩ dX3_read_81 (fun f7 H locs hf7 hG hS => ?_)
        exact sg_zret X hr (sg_zn hf7) hlk hb hK hC hG hS hf7 dX3_read_84
      refine lv_icmp_ge (tgt := 80) X.1 X.2.1 dX3_read_19 (by decide) (fun c5 => ?_) (fun c5 => ?_)
      · exact B6_80 H _ _ hG hS (lv_sub hl [1] rfl)
      · refine lv_aload_n X.1 X.2.1 dX3_read_22 rfl (lv_at hl 0 rfl) ?_
        refine lv_aload_n X.1 X.2.1 dX3_read_23 rfl (lv_at hl 1 rfl) ?_
        refine ca_X3_readMove X hK hG hC hS hb a0 h0 a1 h1 wl_4_19 hl.1 (rest := []) rfl (Nat.le_of_ble_eq_true rfl) ⟨Nat.le_of_ble_eq_true rfl, Nat.le_of_ble_eq_true rfl⟩ ⟨Nat.le_of_ble_eq_true rfl, Nat.le_of_ble_eq_true rfl⟩ dX3_read_24 (fun f8 H locs hf8 hG hS => ?_)
        refine lv_istore_n (lv' := [(3, .int f8), (0, .ref a0), (1, .ref a1), (2, .int z4_2)]) X.1 X.2.1 dX3_read_27 rfl hl (by decide) rfl (fun ls hl => ?_)
        refine lv_iload_n X.1 X.2.1 dX3_read_28 rfl (lv_at hl 0 rfl) ?_
        refine lv_iconst (v := (-1)) X.1 X.2.1 dX3_read_29 (by decide +kernel) ?_
        refine lv_icmp_ne (tgt := 35) X.1 X.2.1 dX3_read_30 (by decide) (fun c9 => ?_) (fun c9 => ?_)
        · refine lv_aload_n X.1 X.2.1 dX3_read_35 rfl (lv_at hl 1 rfl) ?_
          refine gf_X3_0 X hK hG h0 wl_1_94 dX3_read_36 (fun q10 hq10 kq10 => ?_)
          refine lv_iload_n X.1 X.2.1 dX3_read_39 rfl (lv_at hl 3 rfl) ?_
          refine lv_iload_n X.1 X.2.1 dX3_read_40 rfl (lv_at hl 0 rfl) ?_
          refine as_20 X hK hG hS hq10 (iv_vpin (iv_lt (b' := 15) (iv_gt_of c5) hz4_2 (iv_c 16 (a := 16) (b := 16) (by decide +kernel)) (by decide +kernel)) (by decide +kernel)) ⟨_, rfl, (iv_top f8)⟩ dX3_read_41 (fun H locs hG hS ru11 => ?_)
          refine lv_aload_n X.1 X.2.1 dX3_read_42 rfl (lv_at hl 1 rfl) ?_
          refine lv_iload_n X.1 X.2.1 dX3_read_43 rfl (lv_at hl 3 rfl) ?_
          refine lv_iconst (v := 1) X.1 X.2.1 dX3_read_44 (by decide +kernel) ?_
          refine lv_iadd X.1 X.2.1 dX3_read_45 ?_
          refine lv_topi (fun f12 ef12 => ?_)
          refine pf_X3_1 X hK hG hS h0 wl_1_97 ⟨_, rfl, (iv_of (iv_add (a' := 1) (b' := 16) ef12 (iv_lt (b' := 15) (iv_gt_of c5) hz4_2 (iv_c 16 (a := 16) (b := 16) (by decide +kernel)) (by decide +kernel)) (iv_c 1 (a := 1) (b := 1) (by decide +kernel)) (by decide +kernel)) (a' := 0) (b' := 16) (by decide +kernel))⟩ dX3_read_46 (fun H locs hG hS ku13 ru13 => ?_)
          refine lv_aload_n X.1 X.2.1 dX3_read_49 rfl (lv_at hl 2 rfl) ?_
          refine ca_X10_sign X hK hG hC (fun _ h => h) hS hb a1 h1 wl_4_23 hl.1 (rest := []) rfl (Nat.le_of_ble_eq_true rfl) ⟨Nat.le_of_ble_eq_true rfl, Nat.le_of_ble_eq_true rfl⟩ ⟨Nat.le_of_ble_eq_true rfl, Nat.le_of_ble_eq_true rfl⟩ dX3_read_50 (fun f14 locs hf14 hS => ?_)
          refine lv_bipush (v := 59) X.1 X.2.1 dX3_read_53 (by decide +kernel) ?_
          refine lv_icmp_ne (tgt := 80) X.1 X.2.1 dX3_read_55 (by decide) (fun c15 => ?_) (fun c15 => ?_)
          · exact B6_80 H _ _ hG hS (lv_sub hl [2] rfl)
          · refine lv_aload_n X.1 X.2.1 dX3_read_58 rfl (lv_at hl 1 rfl) ?_
            refine gg_X3_1 X hK hG h0 wl_1_97 (P := P) ku13 dX3_read_59 ?_
            refine lv_bipush (v := 16) X.1 X.2.1 dX3_read_62 (by decide +kernel) ?_
            refine lv_icmp_ne (tgt := 70) X.1 X.2.1 dX3_read_64 (by decide) (fun c16 => ?_) (fun c16 => ?_)
            · refine lv_aload_n X.1 X.2.1 dX3_read_70 rfl (lv_at hl 2 rfl) ?_
              refine ca_X10_step X hK hG hC hS hb a1 h1 wl_4_25 hl.1 (rest := []) rfl (Nat.le_of_ble_eq_true rfl) ⟨Nat.le_of_ble_eq_true rfl, Nat.le_of_ble_eq_true rfl⟩ ⟨Nat.le_of_ble_eq_true rfl, Nat.le_of_ble_eq_true rfl⟩ dX3_read_71 (fun H locs hG hS => ?_)
              obtain ⟨y18, ey18⟩ : ∃ y : Int32, y = z4_2 + Int32.ofInt 1 := ⟨_, rfl⟩
              refine lv_iinc (v := y18) (lv' := [(2, .int y18), (3, .int f8), (0, .ref a0), (1, .ref a1)]) X.1 X.2.1 dX3_read_74 hl (k := 3) rfl ey18.symm (by decide) rfl (fun ls hl => ?_)
              refine lv_goto (tgt := 16) X.1 X.2.1 dX3_read_77 (by decide) ?_
              exact ih4 H _ _ y18 hG hS (lv_sub hl [2, 3, 0] rfl) (iv_of (iv_add (a' := 1) (b' := 16) ey18 (iv_lt (b' := 15) (iv_gt_of c5) hz4_2 (iv_c 16 (a := 16) (b := 16) (by decide +kernel)) (by decide +kernel)) (iv_c _ (a := 1) (b := 1) (by decide +kernel)) (by decide +kernel)) (a' := 0) (b' := 16) (by decide +kernel)) (iv_stepU ey18 (iv_lt (b' := 15) (iv_gt_of c5) hz4_2 (iv_c 16 (a := 16) (b := 16) (by decide +kernel)) (by decide +kernel)) (by decide +kernel) hN4)
            · refine lv_goto (tgt := 80) X.1 X.2.1 dX3_read_67 (by decide) ?_
              exact B6_80 H _ _ hG hS (lv_sub hl [2] rfl)
        · refine lv_iconst (v := 0) X.1 X.2.1 dX3_read_33 (by decide +kernel) ?_
          exact sg_zret X hr (sg_zn (iv_of (iv_c 0 (a := 0) (b := 0) (by decide +kernel)) (a' := 0) (b' := 1) (by decide +kernel))) hlk hb hK hC hG hS (iv_of (iv_c 0 (a := 0) (b := 0) (by decide +kernel)) (a' := 0) (b' := 1) (by decide +kernel)) dX3_read_34
  exact B4_16 _ H _ _ 0 hG hS (lv_sub hl [1, 2, 0] rfl) (iv_of (iv_c 0 (a := 0) (b := 0) (by decide +kernel)) (a' := 0) (b' := 16) (by decide +kernel)) (Nat.le_refl _)

theorem ca_X3_read  (X : CallFix p m c cc nL s args sg_tbl own) (hK : va_K D vwCl tys s) (hG : sgG (KT P) D vwCl (fun q : Nat => base ≤ q) tys ad ks H) (hC : sgC base s) (hS : va_S (fun q : Nat => base ≤ q) s.heap H locs) (hb : base ≤ s.heap.size) (a0 : Nat) (h0 : isK ad ks 3 a0) (a1 : Nat) (h1 : isK ad ks 10 a1) (hl : Cond.methodLink own index yX3_read ∈ sg_tbl) (hsize : ls.size = nL) (hst : st0 = [.ref a1].reverse ++ .ref a0 :: rest) (hW : (rest.map fun v => v.category).sum ≤ 8) (hR : 5 ≤ R.frames ∧ 103 ≤ R.locals) (hf : cells ≤ R.cells ∧ slots ≤ R.slots) (hdg : decode cc pc = .ok (.invokevirtual index, 3)) (kk : ∀ (r : Int32) (H1 : Heap) (locs1 : List Loc), (fun r : Int32 => iv 0 1 r) r → sgG (KT P) D vwCl (fun q : Nat => base ≤ q) tys ad ks H1 → va_S (fun q : Nat => base ≤ q) s.heap H1 locs1 → W p l e R s m args below meth c H1 locs1 cells slots Q (F0 m (pc + 3) ls (.int r :: rest))) : W p l e R s m args below meth c H locs cells slots Q (F0 m pc ls st0) :=
  sg_callVi X hK hG hC hS hb (m_X3_read l a0 h0 a1 h1) h0 (k := 3) (ci := 3) rfl (C := RX3) (T := TX3) (N := 3) rfl wl_4_17 wl_1_4 wl_4_15 wl_4_16 (n := 1) (by decide +kernel) rfl rfl rfl hl hsize hst hW hR hf hdg kk

set_option maxHeartbeats 8000000 in
set_option maxRecDepth 100000 in
theorem m_X4_mayCome (l : Launch) {D : va_G} {base : Nat} {tys : List (ClassId × FieldType)} {ad ks : List Nat} {P : sgPm} {Hx : Heap} (a0 : Nat) (h0 : isK ad ks 4 a0) (x1 : Int32) : sgPi l (KT P) D vwCl base tys ad ks Hx yX4_mayCome cX4_mayCome 2 (some .boolean) ({ frames := 0, cells := 0, slots := 0, locals := 0 }) [.ref a0, .int x1] (fun r : Int32 => iv 0 1 r) := by
  refine sg_ofP (Pq := fun Hx => va_Qi (fun r (_ : Unit) => (fun r : Int32 => iv 0 1 r) r) (fun _ t => t.heap = Hx) (fun _ : Nat => False)) (by decide +kernel) (Nat.le_of_ble_eq_true rfl) (fun p e s m below meth c X hr hlk hb hK hC hG ls hl => ?_)
  have hS : va_S (fun _ : Nat => False) s.heap s.heap [] := va_S.rf
  have hl : lv_has ls 2 [(0, .ref a0), (1, .int x1)] := hl
  refine lv_iload_n X.1 X.2.1 dX4_mayCome_0 rfl (lv_at hl 1 rfl) ?_
  refine lv_bipush (v := 115) X.1 X.2.1 dX4_mayCome_1 (by decide +kernel) ?_
  have B2_43 : ∀ (locs : List Loc) (ls : Array Slot), va_S (fun _ : Nat => False) s.heap s.heap locs → lv_has ls 2 [] → W p l e (headSpec (Cond.code yX4_mayCome cX4_mayCome 2 (some .boolean) :: sg_tbl) ({ frames := 0, cells := 0, slots := 0, locals := 0 })).room s m #[.ref a0, .int x1] below meth c s.heap locs 0 0 (MQ below (va_Qi (fun r (_ : Unit) => (fun r : Int32 => iv 0 1 r) r) (fun _ t => t.heap = s.heap) (fun _ : Nat => False)) #[.ref a0, .int x1] s 0 0 (fun _ : Nat => False)) (F0 m 43 ls []) := by
    intro locs ls hS hl
    refine lv_iconst (v := 1) X.1 X.2.1 dX4_mayCome_43 (by decide +kernel) ?_
    refine lv_goto (tgt := 48) X.1 X.2.1 dX4_mayCome_44 (by decide) ?_
    exact sg_zretP X hr (sg_zn (iv_of (iv_c 1 (a := 1) (b := 1) (by decide +kernel)) (a' := 0) (b' := 1) (by decide +kernel))) hlk hS (iv_of (iv_c 1 (a := 1) (b := 1) (by decide +kernel)) (a' := 0) (b' := 1) (by decide +kernel)) dX4_mayCome_48
  have B3_13 : ∀ (locs : List Loc) (ls : Array Slot), va_S (fun _ : Nat => False) s.heap s.heap locs → lv_has ls 2 [(0, .ref a0), (1, .int x1)] → W p l e (headSpec (Cond.code yX4_mayCome cX4_mayCome 2 (some .boolean) :: sg_tbl) ({ frames := 0, cells := 0, slots := 0, locals := 0 })).room s m #[.ref a0, .int x1] below meth c s.heap locs 0 0 (MQ below (va_Qi (fun r (_ : Unit) => (fun r : Int32 => iv 0 1 r) r) (fun _ t => t.heap = s.heap) (fun _ : Nat => False)) #[.ref a0, .int x1] s 0 0 (fun _ : Nat => False)) (F0 m 13 ls []) := by
    intro locs ls hS hl
    refine lv_iload_n X.1 X.2.1 dX4_mayCome_13 rfl (lv_at hl 1 rfl) ?_
    refine lv_bipush (v := 116) X.1 X.2.1 dX4_mayCome_14 (by decide +kernel) ?_
    have B5_28 : ∀ (locs : List Loc) (ls : Array Slot), va_S (fun _ : Nat => False) s.heap s.heap locs → lv_has ls 2 [(0, .ref a0), (1, .int x1)] → W p l e (headSpec (Cond.code yX4_mayCome cX4_mayCome 2 (some .boolean) :: sg_tbl) ({ frames := 0, cells := 0, slots := 0, locals := 0 })).room s m #[.ref a0, .int x1] below meth c s.heap locs 0 0 (MQ below (va_Qi (fun r (_ : Unit) => (fun r : Int32 => iv 0 1 r) r) (fun _ t => t.heap = s.heap) (fun _ : Nat => False)) #[.ref a0, .int x1] s 0 0 (fun _ : Nat => False)) (F0 m 28 ls []) := by
      intro locs ls hS hl
      refine lv_iload_n X.1 X.2.1 dX4_mayCome_28 rfl (lv_at hl 1 rfl) ?_
      refine lv_bipush (v := 98) X.1 X.2.1 dX4_mayCome_29 (by decide +kernel) ?_
      have B7_47 : ∀ (locs : List Loc) (ls : Array Slot), va_S (fun _ : Nat => False) s.heap s.heap locs → lv_has ls 2 [] → W p l e (headSpec (Cond.code yX4_mayCome cX4_mayCome 2 (some .boolean) :: sg_tbl) ({ frames := 0, cells := 0, slots := 0, locals := 0 })).room s m #[.ref a0, .int x1] below meth c s.heap locs 0 0 (MQ below (va_Qi (fun r (_ : Unit) => (fun r : Int32 => iv 0 1 r) r) (fun _ t => t.heap = s.heap) (fun _ : Nat => False)) #[.ref a0, .int x1] s 0 0 (fun _ : Nat => False)) (F0 m 47 ls []) := by
        intro locs ls hS hl
        refine lv_iconst (v := 0) X.1 X.2.1 dX4_mayCome_47 (by decide +kernel) ?_
        exact sg_zretP X hr (sg_zn (iv_of (iv_c 0 (a := 0) (b := 0) (by decide +kernel)) (a' := 0) (b' := 1) (by decide +kernel))) hlk hS (iv_of (iv_c 0 (a := 0) (b := 0) (by decide +kernel)) (a' := 0) (b' := 1) (by decide +kernel)) dX4_mayCome_48
      refine lv_icmp_ne (tgt := 47) X.1 X.2.1 dX4_mayCome_31 (by decide) (fun c6 => ?_) (fun c6 => ?_)
      · exact B7_47 _ _ hS (lv_sub hl [] rfl)
      · refine lv_aload_n X.1 X.2.1 dX4_mayCome_34 rfl (lv_at hl 0 rfl) ?_
        refine gf_X4_14 X hK hG h0 wl_1_237 dX4_mayCome_35 (fun f8 hf8 kf8 => ?_)
        refine lv_bipush (v := 8) X.1 X.2.1 dX4_mayCome_38 (by decide +kernel) ?_
        refine lv_icmp_ge (tgt := 47) X.1 X.2.1 dX4_mayCome_40 (by decide) (fun c9 => ?_) (fun c9 => ?_)
        · exact B7_47 _ _ hS (lv_sub hl [] rfl)
        · exact B2_43 _ _ hS (lv_sub hl [] rfl)
    refine lv_icmp_ne (tgt := 28) X.1 X.2.1 dX4_mayCome_16 (by decide) (fun c4 => ?_) (fun c4 => ?_)
    · exact B5_28 _ _ hS (lv_sub hl [0, 1] rfl)
    · refine lv_aload_n X.1 X.2.1 dX4_mayCome_19 rfl (lv_at hl 0 rfl) ?_
      refine gf_X4_13 X hK hG h0 wl_1_236 dX4_mayCome_20 (fun f10 hf10 kf10 => ?_)
      refine lv_bipush (v := 12) X.1 X.2.1 dX4_mayCome_23 (by decide +kernel) ?_
      refine lv_icmp_lt (tgt := 43) X.1 X.2.1 dX4_mayCome_25 (by decide) (fun c11 => ?_) (fun c11 => ?_)
      · exact B2_43 _ _ hS (lv_sub hl [] rfl)
      · exact B5_28 _ _ hS (lv_sub hl [0, 1] rfl)
  refine lv_icmp_ne (tgt := 13) X.1 X.2.1 dX4_mayCome_3 (by decide) (fun c1 => ?_) (fun c1 => ?_)
  · exact B3_13 _ _ hS (lv_sub hl [0, 1] rfl)
  · refine lv_aload_n X.1 X.2.1 dX4_mayCome_6 rfl (lv_at hl 0 rfl) ?_
    refine gf_X4_11 X hK hG h0 wl_1_234 dX4_mayCome_7 (fun f12 hf12 kf12 => ?_)
    refine lv_if_eq (tgt := 43) X.1 X.2.1 dX4_mayCome_10 (by decide) (fun c13 => ?_) (fun c13 => ?_)
    · exact B2_43 _ _ hS (lv_sub hl [] rfl)
    · exact B3_13 _ _ hS (lv_sub hl [0, 1] rfl)

theorem ca_X4_mayCome  (X : CallFix p m c cc nL s args sg_tbl own) (hK : va_K D vwCl tys s) (hG : sgG (KT P) D vwCl (fun q : Nat => base ≤ q) tys ad ks H) (hC : sgC base s) (hA : ∀ q : Nat, A q → base ≤ q) (hS : va_S A s.heap H locs) (hb : base ≤ s.heap.size) (a0 : Nat) (h0 : isK ad ks 4 a0) (x1 : Int32) (hl : Cond.methodLink own index yX4_mayCome ∈ sg_tbl) (hsize : ls.size = nL) (hst : st0 = [.int x1].reverse ++ .ref a0 :: rest) (hW : (rest.map fun v => v.category).sum ≤ 8) (hR : 1 ≤ R.frames ∧ 21 ≤ R.locals) (hf : cells ≤ R.cells ∧ slots ≤ R.slots) (hdg : decode cc pc = .ok (.invokevirtual index, 3)) (kk : ∀ (r : Int32) (locs1 : List Loc), (fun r : Int32 => iv 0 1 r) r → va_S A s.heap H locs1 → W p l e R s m args below meth c H locs1 cells slots Q (F0 m (pc + 3) ls (.int r :: rest))) : W p l e R s m args below meth c H locs cells slots Q (F0 m pc ls st0) :=
  sg_callPVi X hK hG hC hA hS hb (m_X4_mayCome l a0 h0 x1) h0 (k := 4) (ci := 4) rfl (C := RX4) (T := TX4) (N := 15) rfl wl_3_54 wl_1_7 wl_3_53 wl_0_2 (n := 1) (by decide +kernel) rfl rfl rfl hl hsize hst hW hR hf hdg kk

set_option maxHeartbeats 8000000 in
set_option maxRecDepth 100000 in
theorem m_X4_readSpot (l : Launch) {D : va_G} {base : Nat} {tys : List (ClassId × FieldType)} {ad ks : List Nat} {P : sgPm} (a0 : Nat) (h0 : isK ad ks 4 a0) (a1 : Nat) (h1 : isK ad ks 10 a1) (x2 : Int32) (h2 : iv 0 1 x2) : sgMi l (KT P) D vwCl base tys ad ks yX4_readSpot cX4_readSpot 5 (some .boolean) ({ frames := 2, cells := 0, slots := 0, locals := 34 }) [.ref a0, .ref a1, .int x2] (fun r : Int32 => iv 0 1 r) := by
  refine sg_ofW (by decide +kernel) (Nat.le_of_ble_eq_true rfl) (fun p e s m below meth c X hr hlk hb hK hC hG ls hl => ?_)
  have hS : va_S (fun q : Nat => base ≤ q) s.heap s.heap [] := va_S.rf
  have hl : lv_has ls 5 [(0, .ref a0), (1, .ref a1), (2, .int x2)] := hl
  refine lv_iconst (v := 0) X.1 X.2.1 dX4_readSpot_0 (by decide +kernel) ?_
  refine lv_istore_n (lv' := [(3, .int 0), (0, .ref a0), (1, .ref a1), (2, .int x2)]) X.1 X.2.1 dX4_readSpot_1 rfl hl (by decide) rfl (fun ls hl => ?_)
  refine lv_aload_n X.1 X.2.1 dX4_readSpot_2 rfl (lv_at hl 2 rfl) ?_
  refine ca_X10_sign X hK hG hC (fun _ h => h) hS hb a1 h1 wl_3_47 hl.1 (rest := []) rfl (Nat.le_of_ble_eq_true rfl) ⟨Nat.le_of_ble_eq_true rfl, Nat.le_of_ble_eq_true rfl⟩ ⟨Nat.le_of_ble_eq_true rfl, Nat.le_of_ble_eq_true rfl⟩ dX4_readSpot_3 (fun f1 locs hf1 hS => ?_)
  refine lv_bipush (v := 99) X.1 X.2.1 dX4_readSpot_6 (by decide +kernel) ?_
  have B3_31 : ∀ (H : Heap) (locs : List Loc) (ls : Array Slot) (z3_3 : Int32), sgG (KT P) D vwCl (fun q : Nat => base ≤ q) tys ad ks H → va_S (fun q : Nat => base ≤ q) s.heap H locs → lv_has ls 5 [(0, .ref a0), (2, .int x2), (3, .int z3_3)] → W p l e (headSpec (Cond.code yX4_readSpot cX4_readSpot 5 (some .boolean) :: sg_tbl) ({ frames := 2, cells := 0, slots := 0, locals := 34 })).room s m #[.ref a0, .ref a1, .int x2] below meth c H locs 0 0 (MQ below (va_Qi (fun r (_ : Unit) => (fun r : Int32 => iv 0 1 r) r) (fun _ => sgB (KT P) D vwCl base tys ad ks) (fun q : Nat => base ≤ q)) #[.ref a0, .ref a1, .int x2] s 0 0 (fun q : Nat => base ≤ q)) (F0 m 31 ls []) := by
    intro H locs ls z3_3 hG hS hl
    refine lv_iconst (v := 1) X.1 X.2.1 dX4_readSpot_31 (by decide +kernel) ?_
    refine lv_iload_n X.1 X.2.1 dX4_readSpot_32 rfl (lv_at hl 2 rfl) ?_
    refine lv_ishl X.1 X.2.1 dX4_readSpot_33 ?_
    refine lv_topi (fun f4 ef4 => ?_)
    refine lv_istore (lv' := [(4, .int f4), (0, .ref a0), (2, .int x2), (3, .int z3_3)]) X.1 X.2.1 dX4_readSpot_34 hl (by decide) rfl (fun ls hl => ?_)
    refine lv_aload_n X.1 X.2.1 dX4_readSpot_36 rfl (lv_at hl 1 rfl) ?_
    refine lv_dup X.1 X.2.1 dX4_readSpot_37 rfl ?_
    refine gf_X4_12 X hK hG h0 wl_1_235 dX4_readSpot_38 (fun f5 hf5 kf5 => ?_)
    refine lv_aload_n X.1 X.2.1 dX4_readSpot_41 rfl (lv_at hl 1 rfl) ?_
    refine gf_X4_9 X hK hG h0 wl_1_227 dX4_readSpot_42 (fun f6 hf6 kf6 => ?_)
    refine lv_aload_n X.1 X.2.1 dX4_readSpot_45 rfl (lv_at hl 1 rfl) ?_
    refine gf_X4_10 X hK hG h0 wl_1_230 dX4_readSpot_46 (fun f7 hf7 kf7 => ?_)
    refine lv_ior X.1 X.2.1 dX4_readSpot_49 ?_
    refine lv_topi (fun f8 ef8 => ?_)
    refine lv_iload X.1 X.2.1 dX4_readSpot_50 (lv_at hl 0 rfl) ?_
    refine lv_iand X.1 X.2.1 dX4_readSpot_52 ?_
    refine lv_topi (fun f9 ef9 => ?_)
    have B11_61 : ∀ (locs : List Loc) (ls : Array Slot) (w11_0 : Int32), va_S (fun q : Nat => base ≤ q) s.heap H locs → lv_has ls 5 [(0, .ref a0), (2, .int x2), (4, .int f4)] → iv 0 1 w11_0 → W p l e (headSpec (Cond.code yX4_readSpot cX4_readSpot 5 (some .boolean) :: sg_tbl) ({ frames := 2, cells := 0, slots := 0, locals := 34 })).room s m #[.ref a0, .ref a1, .int x2] below meth c H locs 0 0 (MQ below (va_Qi (fun r (_ : Unit) => (fun r : Int32 => iv 0 1 r) r) (fun _ => sgB (KT P) D vwCl base tys ad ks) (fun q : Nat => base ≤ q)) #[.ref a0, .ref a1, .int x2] s 0 0 (fun q : Nat => base ≤ q)) (F0 m 61 ls [.int w11_0, .int f5, .ref a0]) := by
      intro locs ls w11_0 hS hl hw11_0
      refine lv_ior X.1 X.2.1 dX4_readSpot_61 ?_
      refine lv_topi (fun f12 ef12 => ?_)
      refine pf_X4_12 X hK hG hS h0 wl_1_235 ⟨_, rfl, (iv_of (iv_or 1 ef12 hf5 hw11_0 (by decide +kernel)) (a' := 0) (b' := 1) (by decide +kernel))⟩ dX4_readSpot_62 (fun H locs hG hS ku13 ru13 => ?_)
      refine lv_iload_n X.1 X.2.1 dX4_readSpot_65 rfl (lv_at hl 1 rfl) ?_
      refine lv_if_eq (tgt := 93) X.1 X.2.1 dX4_readSpot_66 (by decide) (fun c14 => ?_) (fun c14 => ?_)
      · refine lv_aload_n X.1 X.2.1 dX4_readSpot_93 rfl (lv_at hl 0 rfl) ?_
        refine lv_dup X.1 X.2.1 dX4_readSpot_94 rfl ?_
        refine gg_X4_10 X hK hG h0 wl_1_230 (P := P) (ru13 _ _ _ _ _ _ _ h0 rfl rfl (by decide) (fun z => absurd z.2 (by decide)) kf7) dX4_readSpot_95 ?_
        refine lv_iload X.1 X.2.1 dX4_readSpot_98 (lv_at hl 2 rfl) ?_
        refine lv_ior X.1 X.2.1 dX4_readSpot_100 ?_
        refine lv_topi (fun f15 ef15 => ?_)
        refine pf_X4_10 X hK hG hS h0 wl_1_230 ⟨_, rfl, (iv_top f15)⟩ dX4_readSpot_101 (fun H locs hG hS ku16 ru16 => ?_)
        refine lv_aload_n X.1 X.2.1 dX4_readSpot_104 rfl (lv_at hl 0 rfl) ?_
        refine lv_dup X.1 X.2.1 dX4_readSpot_105 rfl ?_
        refine gf_X4_14 X hK hG h0 wl_1_237 dX4_readSpot_106 (fun f17 hf17 kf17 => ?_)
        refine lv_iconst (v := 1) X.1 X.2.1 dX4_readSpot_109 (by decide +kernel) ?_
        refine lv_iadd X.1 X.2.1 dX4_readSpot_110 ?_
        refine lv_topi (fun f18 ef18 => ?_)
        refine pf_X4_14 X hK hG hS h0 wl_1_237 ⟨_, rfl, (iv_top f18)⟩ dX4_readSpot_111 (fun H locs hG hS ku19 ru19 => ?_)
        refine lv_iconst (v := 1) X.1 X.2.1 dX4_readSpot_114 (by decide +kernel) ?_
        exact sg_zret X hr (sg_zn (iv_of (iv_c 1 (a := 1) (b := 1) (by decide +kernel)) (a' := 0) (b' := 1) (by decide +kernel))) hlk hb hK hC hG hS (iv_of (iv_c 1 (a := 1) (b := 1) (by decide +kernel)) (a' := 0) (b' := 1) (by decide +kernel)) dX4_readSpot_115
      · refine lv_aload_n X.1 X.2.1 dX4_readSpot_69 rfl (lv_at hl 0 rfl) ?_
        refine lv_dup X.1 X.2.1 dX4_readSpot_70 rfl ?_
        refine gg_X4_9 X hK hG h0 wl_1_227 (P := P) (ru13 _ _ _ _ _ _ _ h0 rfl rfl (by decide) (fun z => absurd z.2 (by decide)) kf6) dX4_readSpot_71 ?_
        refine lv_iload X.1 X.2.1 dX4_readSpot_74 (lv_at hl 2 rfl) ?_
        refine lv_ior X.1 X.2.1 dX4_readSpot_76 ?_
        refine lv_topi (fun f20 ef20 => ?_)
        refine pf_X4_9 X hK hG hS h0 wl_1_227 ⟨_, rfl, (iv_top f20)⟩ dX4_readSpot_77 (fun H locs hG hS ku21 ru21 => ?_)
        refine lv_aload_n X.1 X.2.1 dX4_readSpot_80 rfl (lv_at hl 0 rfl) ?_
        refine lv_dup X.1 X.2.1 dX4_readSpot_81 rfl ?_
        refine gf_X4_13 X hK hG h0 wl_1_236 dX4_readSpot_82 (fun f22 hf22 kf22 => ?_)
        refine lv_iconst (v := 1) X.1 X.2.1 dX4_readSpot_85 (by decide +kernel) ?_
        refine lv_iadd X.1 X.2.1 dX4_readSpot_86 ?_
        refine lv_topi (fun f23 ef23 => ?_)
        refine pf_X4_13 X hK hG hS h0 wl_1_236 ⟨_, rfl, (iv_top f23)⟩ dX4_readSpot_87 (fun H locs hG hS ku24 ru24 => ?_)
        refine lv_goto (tgt := 114) X.1 X.2.1 dX4_readSpot_90 (by decide) ?_
        refine lv_iconst (v := 1) X.1 X.2.1 dX4_readSpot_114 (by decide +kernel) ?_
        exact sg_zret X hr (sg_zn (iv_of (iv_c 1 (a := 1) (b := 1) (by decide +kernel)) (a' := 0) (b' := 1) (by decide +kernel))) hlk hb hK hC hG hS (iv_of (iv_c 1 (a := 1) (b := 1) (by decide +kernel)) (a' := 0) (b' := 1) (by decide +kernel)) dX4_readSpot_115
    refine lv_if_eq (tgt := 60) X.1 X.2.1 dX4_readSpot_53 (by decide) (fun c10 => ?_) (fun c10 => ?_)
    · refine lv_iconst (v := 0) X.1 X.2.1 dX4_readSpot_60 (by decide +kernel) ?_
      exact B11_61 _ _ 0 hS (lv_sub hl [1, 2, 0] rfl) (iv_of (iv_c 0 (a := 0) (b := 0) (by decide +kernel)) (a' := 0) (b' := 1) (by decide +kernel))
    · refine lv_iconst (v := 1) X.1 X.2.1 dX4_readSpot_56 (by decide +kernel) ?_
      refine lv_goto (tgt := 61) X.1 X.2.1 dX4_readSpot_57 (by decide) ?_
      exact B11_61 _ _ 1 hS (lv_sub hl [1, 2, 0] rfl) (iv_of (iv_c 1 (a := 1) (b := 1) (by decide +kernel)) (a' := 0) (b' := 1) (by decide +kernel))
  refine lv_icmp_ne (tgt := 31) X.1 X.2.1 dX4_readSpot_8 (by decide) (fun c2 => ?_) (fun c2 => ?_)
  · exact B3_31 s.heap _ _ 0 hG hS (lv_sub hl [1, 3, 0] rfl)
  · refine lv_aload_n X.1 X.2.1 dX4_readSpot_11 rfl (lv_at hl 2 rfl) ?_
    refine ca_X10_step X hK hG hC hS hb a1 h1 wl_3_59 hl.1 (rest := []) rfl (Nat.le_of_ble_eq_true rfl) ⟨Nat.le_of_ble_eq_true rfl, Nat.le_of_ble_eq_true rfl⟩ ⟨Nat.le_of_ble_eq_true rfl, Nat.le_of_ble_eq_true rfl⟩ dX4_readSpot_12 (fun H locs hG hS => ?_)
    refine lv_aload_n X.1 X.2.1 dX4_readSpot_15 rfl (lv_at hl 2 rfl) ?_
    refine lv_iconst (v := 2) X.1 X.2.1 dX4_readSpot_16 (by decide +kernel) ?_
    refine lv_iconst (v := 0) X.1 X.2.1 dX4_readSpot_17 (by decide +kernel) ?_
    refine lv_bipush (v := 29) X.1 X.2.1 dX4_readSpot_18 (by decide +kernel) ?_
    refine ca_X10_number X hK hG hC hS hb a1 h1 2 0 29 wl_3_159 hl.1 (rest := []) rfl (Nat.le_of_ble_eq_true rfl) ⟨Nat.le_of_ble_eq_true rfl, Nat.le_of_ble_eq_true rfl⟩ ⟨Nat.le_of_ble_eq_true rfl, Nat.le_of_ble_eq_true rfl⟩ dX4_readSpot_20 (fun f26 H locs hf26 hG hS => ?_)
    refine lv_istore_n (lv' := [(3, .int f26), (0, .ref a0), (1, .ref a1), (2, .int x2)]) X.1 X.2.1 dX4_readSpot_23 rfl hl (by decide) rfl (fun ls hl => ?_)
    refine lv_iload_n X.1 X.2.1 dX4_readSpot_24 rfl (lv_at hl 0 rfl) ?_
    refine lv_iconst (v := (-1)) X.1 X.2.1 dX4_readSpot_25 (by decide +kernel) ?_
    refine lv_icmp_ne (tgt := 31) X.1 X.2.1 dX4_readSpot_26 (by decide) (fun c27 => ?_) (fun c27 => ?_)
    · exact B3_31 H _ _ f26 hG hS (lv_sub hl [1, 3, 0] rfl)
    · refine lv_iconst (v := 0) X.1 X.2.1 dX4_readSpot_29 (by decide +kernel) ?_
      exact sg_zret X hr (sg_zn (iv_of (iv_c 0 (a := 0) (b := 0) (by decide +kernel)) (a' := 0) (b' := 1) (by decide +kernel))) hlk hb hK hC hG hS (iv_of (iv_c 0 (a := 0) (b := 0) (by decide +kernel)) (a' := 0) (b' := 1) (by decide +kernel)) dX4_readSpot_30

theorem ca_X4_readSpot  (X : CallFix p m c cc nL s args sg_tbl own) (hK : va_K D vwCl tys s) (hG : sgG (KT P) D vwCl (fun q : Nat => base ≤ q) tys ad ks H) (hC : sgC base s) (hS : va_S (fun q : Nat => base ≤ q) s.heap H locs) (hb : base ≤ s.heap.size) (a0 : Nat) (h0 : isK ad ks 4 a0) (a1 : Nat) (h1 : isK ad ks 10 a1) (x2 : Int32) (h2 : iv 0 1 x2) (hl : Cond.methodLink own index yX4_readSpot ∈ sg_tbl) (hsize : ls.size = nL) (hst : st0 = [.ref a1, .int x2].reverse ++ .ref a0 :: rest) (hW : (rest.map fun v => v.category).sum ≤ 8) (hR : 3 ≤ R.frames ∧ 58 ≤ R.locals) (hf : cells ≤ R.cells ∧ slots ≤ R.slots) (hdg : decode cc pc = .ok (.invokevirtual index, 3)) (kk : ∀ (r : Int32) (H1 : Heap) (locs1 : List Loc), (fun r : Int32 => iv 0 1 r) r → sgG (KT P) D vwCl (fun q : Nat => base ≤ q) tys ad ks H1 → va_S (fun q : Nat => base ≤ q) s.heap H1 locs1 → W p l e R s m args below meth c H1 locs1 cells slots Q (F0 m (pc + 3) ls (.int r :: rest))) : W p l e R s m args below meth c H locs cells slots Q (F0 m pc ls st0) :=
  sg_callVi X hK hG hC hS hb (m_X4_readSpot l a0 h0 a1 h1 x2 h2) h0 (k := 4) (ci := 4) rfl (C := RX4) (T := TX4) (N := 15) rfl wl_3_166 wl_1_7 wl_3_165 wl_0_4 (n := 2) (by decide +kernel) rfl rfl rfl hl hsize hst hW hR hf hdg kk

set_option maxHeartbeats 8000000 in
set_option maxRecDepth 100000 in
theorem m_X4_isWhole (l : Launch) {D : va_G} {base : Nat} {tys : List (ClassId × FieldType)} {ad ks : List Nat} {P : sgPm} (a0 : Nat) (h0 : isK ad ks 4 a0) : sgMi l (KT P) D vwCl base tys ad ks yX4_isWhole cX4_isWhole 1 (some .boolean) ({ frames := 2, cells := 0, slots := 0, locals := 48 }) [.ref a0] (fun r : Int32 => iv 0 1 r) := by
  refine sg_ofW (by decide +kernel) (Nat.le_of_ble_eq_true rfl) (fun p e s m below meth c X hr hlk hb hK hC hG ls hl => ?_)
  have hS : va_S (fun q : Nat => base ≤ q) s.heap s.heap [] := va_S.rf
  have hl : lv_has ls 1 [(0, .ref a0)] := hl
  refine lv_aload_n X.1 X.2.1 dX4_isWhole_0 rfl (lv_at hl 0 rfl) ?_
  refine lv_aload_n X.1 X.2.1 dX4_isWhole_1 rfl (lv_at hl 0 rfl) ?_
  refine gf_X4_0 X hK hG h0 wl_1_209 dX4_isWhole_2 (fun q1 hq1 kq1 => ?_)
  refine lv_iconst (v := 0) X.1 X.2.1 dX4_isWhole_5 (by decide +kernel) ?_
  refine al_21 X hK hG hq1 (iv_vpin (iv_c 0 (a := 0) (b := 0) (by decide +kernel)) (by decide +kernel)) dX4_isWhole_6 (fun f2 hf2 => ?_)
  have hf2 : iv 0 6 f2 := sg_sp_rules hf2 (iv_c 0 (a := 0) (b := 0) (by decide +kernel)) (by decide +kernel) rfl
  refine pf_X4_7 X hK hG hS h0 wl_1_225 ⟨_, rfl, (iv_of hf2 (a' := (-2147483648)) (b' := 2147483647) (by decide +kernel))⟩ dX4_isWhole_7 (fun H locs hG hS ku3 ru3 => ?_)
  refine lv_aload_n X.1 X.2.1 dX4_isWhole_10 rfl (lv_at hl 0 rfl) ?_
  refine lv_aload_n X.1 X.2.1 dX4_isWhole_11 rfl (lv_at hl 0 rfl) ?_
  refine gg_X4_0 X hK hG h0 wl_1_209 (P := P) (ru3 _ _ _ _ _ _ _ h0 rfl rfl (by decide) (fun z => absurd z.2 (by decide)) kq1) dX4_isWhole_12 ?_
  refine lv_iconst (v := 1) X.1 X.2.1 dX4_isWhole_15 (by decide +kernel) ?_
  refine al_21 X hK hG hq1 (iv_vpin (iv_c 1 (a := 1) (b := 1) (by decide +kernel)) (by decide +kernel)) dX4_isWhole_16 (fun f4 hf4 => ?_)
  have hf4 : iv 0 5 f4 := sg_sp_rules hf4 (iv_c 1 (a := 1) (b := 1) (by decide +kernel)) (by decide +kernel) rfl
  refine pf_X4_8 X hK hG hS h0 wl_1_226 ⟨_, rfl, (iv_of hf4 (a' := (-2147483648)) (b' := 2147483647) (by decide +kernel))⟩ dX4_isWhole_17 (fun H locs hG hS ku5 ru5 => ?_)
  refine lv_aload_n X.1 X.2.1 dX4_isWhole_20 rfl (lv_at hl 0 rfl) ?_
  refine lv_aload_n X.1 X.2.1 dX4_isWhole_21 rfl (lv_at hl 0 rfl) ?_
  refine gg_X4_7 X hK hG h0 wl_1_225 (P := P) (ru5 _ _ _ _ _ _ _ h0 rfl rfl (by decide) (fun z => absurd z.2 (by decide)) ku3) dX4_isWhole_22 ?_
  refine lv_aload_n X.1 X.2.1 dX4_isWhole_25 rfl (lv_at hl 0 rfl) ?_
  refine gg_X4_8 X hK hG h0 wl_1_226 (P := P) ku5 dX4_isWhole_26 ?_
  refine lv_imul X.1 X.2.1 dX4_isWhole_29 ?_
  refine lv_topi (fun f6 ef6 => ?_)
  refine pf_X4_5 X hK hG hS h0 wl_1_221 ⟨_, rfl, (iv_mul (a' := 0) (b' := 30) ef6 hf2 hf4 (by decide +kernel))⟩ dX4_isWhole_30 (fun H locs hG hS ku7 ru7 => ?_)
  refine lv_aload_n X.1 X.2.1 dX4_isWhole_33 rfl (lv_at hl 0 rfl) ?_
  refine lv_iconst (v := 1) X.1 X.2.1 dX4_isWhole_34 (by decide +kernel) ?_
  refine lv_aload_n X.1 X.2.1 dX4_isWhole_35 rfl (lv_at hl 0 rfl) ?_
  refine gg_X4_5 X hK hG h0 wl_1_221 (P := P) ku7 dX4_isWhole_36 ?_
  refine lv_ishl X.1 X.2.1 dX4_isWhole_39 ?_
  refine lv_topi (fun f8 ef8 => ?_)
  refine lv_iconst (v := 1) X.1 X.2.1 dX4_isWhole_40 (by decide +kernel) ?_
  refine lv_isub X.1 X.2.1 dX4_isWhole_41 ?_
  refine lv_topi (fun f9 ef9 => ?_)
  refine pf_X4_6 X hK hG hS h0 wl_1_222 ⟨_, rfl, (iv_top f9)⟩ dX4_isWhole_42 (fun H locs hG hS ku10 ru10 => ?_)
  refine lv_aload_n X.1 X.2.1 dX4_isWhole_45 rfl (lv_at hl 0 rfl) ?_
  refine gf_X4_12 X hK hG h0 wl_1_235 dX4_isWhole_46 (fun f11 hf11 kf11 => ?_)
  refine lv_if_ne (tgt := 86) X.1 X.2.1 dX4_isWhole_49 (by decide) (fun c12 => ?_) (fun c12 => ?_)
  · refine lv_iconst (v := 0) X.1 X.2.1 dX4_isWhole_86 (by decide +kernel) ?_
    exact sg_zret X hr (sg_zn (iv_of (iv_c 0 (a := 0) (b := 0) (by decide +kernel)) (a' := 0) (b' := 1) (by decide +kernel))) hlk hb hK hC hG hS (iv_of (iv_c 0 (a := 0) (b := 0) (by decide +kernel)) (a' := 0) (b' := 1) (by decide +kernel)) dX4_isWhole_87
  · refine lv_aload_n X.1 X.2.1 dX4_isWhole_52 rfl (lv_at hl 0 rfl) ?_
    refine gf_X4_9 X hK hG h0 wl_1_227 dX4_isWhole_53 (fun f13 hf13 kf13 => ?_)
    refine lv_aload_n X.1 X.2.1 dX4_isWhole_56 rfl (lv_at hl 0 rfl) ?_
    refine gf_X4_10 X hK hG h0 wl_1_230 dX4_isWhole_57 (fun f14 hf14 kf14 => ?_)
    refine lv_ior X.1 X.2.1 dX4_isWhole_60 ?_
    refine lv_topi (fun f15 ef15 => ?_)
    refine lv_aload_n X.1 X.2.1 dX4_isWhole_61 rfl (lv_at hl 0 rfl) ?_
    refine gg_X4_6 X hK hG h0 wl_1_222 (P := P) ku10 dX4_isWhole_62 ?_
    refine lv_iconst (v := (-1)) X.1 X.2.1 dX4_isWhole_65 (by decide +kernel) ?_
    refine lv_ixor X.1 X.2.1 dX4_isWhole_66 ?_
    refine lv_topi (fun f16 ef16 => ?_)
    refine lv_iand X.1 X.2.1 dX4_isWhole_67 ?_
    refine lv_topi (fun f17 ef17 => ?_)
    refine lv_if_ne (tgt := 86) X.1 X.2.1 dX4_isWhole_68 (by decide) (fun c18 => ?_) (fun c18 => ?_)
    · refine lv_iconst (v := 0) X.1 X.2.1 dX4_isWhole_86 (by decide +kernel) ?_
      exact sg_zret X hr (sg_zn (iv_of (iv_c 0 (a := 0) (b := 0) (by decide +kernel)) (a' := 0) (b' := 1) (by decide +kernel))) hlk hb hK hC hG hS (iv_of (iv_c 0 (a := 0) (b := 0) (by decide +kernel)) (a' := 0) (b' := 1) (by decide +kernel)) dX4_isWhole_87
    · refine lv_aload_n X.1 X.2.1 dX4_isWhole_71 rfl (lv_at hl 0 rfl) ?_
      refine gg_X4_0 X hK hG h0 wl_1_209 (P := P) (ru10 _ _ _ _ _ _ _ h0 rfl rfl (by decide) (fun z => absurd z.2 (by decide)) (ru7 _ _ _ _ _ _ _ h0 rfl rfl (by decide) (fun z => absurd z.2 (by decide)) (ru5 _ _ _ _ _ _ _ h0 rfl rfl (by decide) (fun z => absurd z.2 (by decide)) (ru3 _ _ _ _ _ _ _ h0 rfl rfl (by decide) (fun z => absurd z.2 (by decide)) kq1)))) dX4_isWhole_72 ?_
      refine lv_iconst (v := 4) X.1 X.2.1 dX4_isWhole_75 (by decide +kernel) ?_
      refine al_21 X hK hG hq1 (iv_vpin (iv_c 4 (a := 4) (b := 4) (by decide +kernel)) (by decide +kernel)) dX4_isWhole_76 (fun f19 hf19 => ?_)
      have hf19 : iv 0 8 f19 := sg_sp_rules hf19 (iv_c 4 (a := 4) (b := 4) (by decide +kernel)) (by decide +kernel) rfl
      refine lv_aload_n X.1 X.2.1 dX4_isWhole_77 rfl (lv_at hl 0 rfl) ?_
      refine gg_X4_0 X hK hG h0 wl_1_209 (P := P) (ru10 _ _ _ _ _ _ _ h0 rfl rfl (by decide) (fun z => absurd z.2 (by decide)) (ru7 _ _ _ _ _ _ _ h0 rfl rfl (by decide) (fun z => absurd z.2 (by decide)) (ru5 _ _ _ _ _ _ _ h0 rfl rfl (by decide) (fun z => absurd z.2 (by decide)) (ru3 _ _ _ _ _ _ _ h0 rfl rfl (by decide) (fun z => absurd z.2 (by decide)) kq1)))) dX4_isWhole_78 ?_
      refine lv_iconst (v := 5) X.1 X.2.1 dX4_isWhole_81 (by decide +kernel) ?_
      refine al_21 X hK hG hq1 (iv_vpin (iv_c 5 (a := 5) (b := 5) (by decide +kernel)) (by decide +kernel)) dX4_isWhole_82 (fun f20 hf20 => ?_)
      have hf20 : iv 0 8 f20 := sg_sp_rules hf20 (iv_c 5 (a := 5) (b := 5) (by decide +kernel)) (by decide +kernel) rfl
      refine lv_icmp_le (tgt := 88) X.1 X.2.1 dX4_isWhole_83 (by decide) (fun c21 => ?_) (fun c21 => ?_)
      · refine lv_aload_n X.1 X.2.1 dX4_isWhole_88 rfl (lv_at hl 0 rfl) ?_
        refine ca_X4_layOut X hK hG hC hS hb a0 h0 wl_3_177 hl.1 (rest := []) rfl (Nat.le_of_ble_eq_true rfl) ⟨Nat.le_of_ble_eq_true rfl, Nat.le_of_ble_eq_true rfl⟩ ⟨Nat.le_of_ble_eq_true rfl, Nat.le_of_ble_eq_true rfl⟩ dX4_isWhole_89 (fun H locs hG hS => ?_)
        refine lv_aload_n X.1 X.2.1 dX4_isWhole_92 rfl (lv_at hl 0 rfl) ?_
        refine lv_aload_n X.1 X.2.1 dX4_isWhole_93 rfl (lv_at hl 0 rfl) ?_
        refine gf_X4_9 X hK hG h0 wl_1_227 dX4_isWhole_94 (fun f23 hf23 kf23 => ?_)
        refine ca_X4_hasLine X hK hG hC (fun _ h => h) hS hb a0 h0 f23 wl_3_193 hl.1 (rest := []) rfl (Nat.le_of_ble_eq_true rfl) ⟨Nat.le_of_ble_eq_true rfl, Nat.le_of_ble_eq_true rfl⟩ ⟨Nat.le_of_ble_eq_true rfl, Nat.le_of_ble_eq_true rfl⟩ dX4_isWhole_97 (fun f24 locs hf24 hS => ?_)
        refine lv_if_ne (tgt := 107) X.1 X.2.1 dX4_isWhole_100 (by decide) (fun c25 => ?_) (fun c25 => ?_)
        · refine lv_iconst (v := 0) X.1 X.2.1 dX4_isWhole_107 (by decide +kernel) ?_
          exact sg_zret X hr (sg_zn (iv_of (iv_c 0 (a := 0) (b := 0) (by decide +kernel)) (a' := 0) (b' := 1) (by decide +kernel))) hlk hb hK hC hG hS (iv_of (iv_c 0 (a := 0) (b := 0) (by decide +kernel)) (a' := 0) (b' := 1) (by decide +kernel)) dX4_isWhole_108
        · refine lv_iconst (v := 1) X.1 X.2.1 dX4_isWhole_103 (by decide +kernel) ?_
          refine lv_goto (tgt := 108) X.1 X.2.1 dX4_isWhole_104 (by decide) ?_
          exact sg_zret X hr (sg_zn (iv_of (iv_c 1 (a := 1) (b := 1) (by decide +kernel)) (a' := 0) (b' := 1) (by decide +kernel))) hlk hb hK hC hG hS (iv_of (iv_c 1 (a := 1) (b := 1) (by decide +kernel)) (a' := 0) (b' := 1) (by decide +kernel)) dX4_isWhole_108
      · refine lv_iconst (v := 0) X.1 X.2.1 dX4_isWhole_86 (by decide +kernel) ?_
        exact sg_zret X hr (sg_zn (iv_of (iv_c 0 (a := 0) (b := 0) (by decide +kernel)) (a' := 0) (b' := 1) (by decide +kernel))) hlk hb hK hC hG hS (iv_of (iv_c 0 (a := 0) (b := 0) (by decide +kernel)) (a' := 0) (b' := 1) (by decide +kernel)) dX4_isWhole_87

theorem ca_X4_isWhole  (X : CallFix p m c cc nL s args sg_tbl own) (hK : va_K D vwCl tys s) (hG : sgG (KT P) D vwCl (fun q : Nat => base ≤ q) tys ad ks H) (hC : sgC base s) (hS : va_S (fun q : Nat => base ≤ q) s.heap H locs) (hb : base ≤ s.heap.size) (a0 : Nat) (h0 : isK ad ks 4 a0) (hl : Cond.methodLink own index yX4_isWhole ∈ sg_tbl) (hsize : ls.size = nL) (hst : st0 = [].reverse ++ .ref a0 :: rest) (hW : (rest.map fun v => v.category).sum ≤ 8) (hR : 3 ≤ R.frames ∧ 68 ≤ R.locals) (hf : cells ≤ R.cells ∧ slots ≤ R.slots) (hdg : decode cc pc = .ok (.invokevirtual index, 3)) (kk : ∀ (r : Int32) (H1 : Heap) (locs1 : List Loc), (fun r : Int32 => iv 0 1 r) r → sgG (KT P) D vwCl (fun q : Nat => base ≤ q) tys ad ks H1 → va_S (fun q : Nat => base ≤ q) s.heap H1 locs1 → W p l e R s m args below meth c H1 locs1 cells slots Q (F0 m (pc + 3) ls (.int r :: rest))) : W p l e R s m args below meth c H locs cells slots Q (F0 m pc ls st0) :=
  sg_callVi X hK hG hC hS hb (m_X4_isWhole l a0 h0) h0 (k := 4) (ci := 4) rfl (C := RX4) (T := TX4) (N := 15) rfl wl_3_176 wl_1_7 wl_3_175 wl_0_5 (n := 0) (by decide +kernel) rfl rfl rfl hl hsize hst hW hR hf hdg kk
end
