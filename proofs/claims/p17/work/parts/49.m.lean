abbrev cX12_atom : ByteArray := prog_14_method_16_code
def yX12_atom : MethodName := ⟨RX12, "atom", "()I"⟩
abbrev cX12_fails : ByteArray := prog_14_method_11_code
def yX12_fails : MethodName := ⟨RX12, "fails", "()Z"⟩
abbrev cX12_goesIn : ByteArray := prog_14_method_12_code
def yX12_goesIn : MethodName := ⟨RX12, "goesIn", "()Z"⟩
abbrev cX12_here : ByteArray := prog_14_method_27_code
def yX12_here : MethodName := ⟨RX12, "here", "()I"⟩
abbrev cX12_isDigit : ByteArray := prog_14_method_14_code
def yX12_isDigit : MethodName := ⟨RX12, "isDigit", "()Z"⟩
abbrev cX12_look : ByteArray := prog_14_method_10_code
def yX12_look : MethodName := ⟨RX12, "look", "()I"⟩
abbrev cX12_takes : ByteArray := prog_14_method_13_code
def yX12_takes : MethodName := ⟨RX12, "takes", "(I)Z"⟩
abbrev cX12_within : ByteArray := prog_14_method_15_code
def yX12_within : MethodName := ⟨RX12, "within", "(J)I"⟩
theorem dX12_atom_0 : decode cX12_atom 0 = .ok (.aload_n 0, 1) := by decide +kernel
theorem dX12_atom_1 : decode cX12_atom 1 = .ok (.invokevirtual 136, 3) := by decide +kernel
theorem dX12_atom_4 : decode cX12_atom 4 = .ok (.istore_n 1, 1) := by decide +kernel
theorem dX12_atom_5 : decode cX12_atom 5 = .ok (.ldc 32, 2) := by decide +kernel
theorem dX12_atom_7 : decode cX12_atom 7 = .ok (.iload_n 1, 1) := by decide +kernel
theorem dX12_atom_8 : decode cX12_atom 8 = .ok (.invokestatic 152, 3) := by decide +kernel
theorem dX12_atom_11 : decode cX12_atom 11 = .ok (.ifCond .eq 20, 3) := by decide +kernel
theorem dX12_atom_14 : decode cX12_atom 14 = .ok (.aload_n 0, 1) := by decide +kernel
theorem dX12_atom_15 : decode cX12_atom 15 = .ok (.dup, 1) := by decide +kernel
theorem dX12_atom_16 : decode cX12_atom 16 = .ok (.getfield 117, 3) := by decide +kernel
theorem dX12_atom_19 : decode cX12_atom 19 = .ok (.iconst 1, 1) := by decide +kernel
theorem dX12_atom_20 : decode cX12_atom 20 = .ok (.iadd, 1) := by decide +kernel
theorem dX12_atom_21 : decode cX12_atom 21 = .ok (.putfield 117, 3) := by decide +kernel
theorem dX12_atom_24 : decode cX12_atom 24 = .ok (.aload_n 0, 1) := by decide +kernel
theorem dX12_atom_25 : decode cX12_atom 25 = .ok (.getfield 20, 3) := by decide +kernel
theorem dX12_atom_28 : decode cX12_atom 28 = .ok (.iload_n 1, 1) := by decide +kernel
theorem dX12_atom_29 : decode cX12_atom 29 = .ok (.iaload, 1) := by decide +kernel
theorem dX12_atom_30 : decode cX12_atom 30 = .ok (.ireturn, 1) := by decide +kernel
theorem dX12_atom_31 : decode cX12_atom 31 = .ok (.iload_n 1, 1) := by decide +kernel
theorem dX12_atom_32 : decode cX12_atom 32 = .ok (.bipush 91, 2) := by decide +kernel
theorem dX12_atom_34 : decode cX12_atom 34 = .ok (.if_icmp .ne 40, 3) := by decide +kernel
theorem dX12_atom_37 : decode cX12_atom 37 = .ok (.aload_n 0, 1) := by decide +kernel
theorem dX12_atom_38 : decode cX12_atom 38 = .ok (.invokevirtual 156, 3) := by decide +kernel
theorem dX12_atom_41 : decode cX12_atom 41 = .ok (.ifCond .ne 5, 3) := by decide +kernel
theorem dX12_atom_44 : decode cX12_atom 44 = .ok (.iconst 0, 1) := by decide +kernel
theorem dX12_atom_45 : decode cX12_atom 45 = .ok (.ireturn, 1) := by decide +kernel
theorem dX12_atom_74 : decode cX12_atom 74 = .ok (.aload_n 0, 1) := by decide +kernel
theorem dX12_atom_75 : decode cX12_atom 75 = .ok (.invokevirtual 166, 3) := by decide +kernel
theorem dX12_atom_78 : decode cX12_atom 78 = .ok (.ifCond .ne 8, 3) := by decide +kernel
theorem dX12_atom_81 : decode cX12_atom 81 = .ok (.aload_n 0, 1) := by decide +kernel
theorem dX12_atom_82 : decode cX12_atom 82 = .ok (.invokevirtual 132, 3) := by decide +kernel
theorem dX12_atom_85 : decode cX12_atom 85 = .ok (.pop, 1) := by decide +kernel
theorem dX12_atom_86 : decode cX12_atom 86 = .ok (.iconst 0, 1) := by decide +kernel
theorem dX12_atom_87 : decode cX12_atom 87 = .ok (.istore_n 2, 1) := by decide +kernel
theorem dX12_atom_88 : decode cX12_atom 88 = .ok (.iconst 0, 1) := by decide +kernel
theorem dX12_atom_89 : decode cX12_atom 89 = .ok (.istore_n 3, 1) := by decide +kernel
theorem dX12_atom_90 : decode cX12_atom 90 = .ok (.aload_n 0, 1) := by decide +kernel
theorem dX12_atom_91 : decode cX12_atom 91 = .ok (.invokevirtual 166, 3) := by decide +kernel
theorem dX12_atom_94 : decode cX12_atom 94 = .ok (.ifCond .eq 62, 3) := by decide +kernel
theorem dX12_atom_97 : decode cX12_atom 97 = .ok (.aload_n 0, 1) := by decide +kernel
theorem dX12_atom_98 : decode cX12_atom 98 = .ok (.getfield 126, 3) := by decide +kernel
theorem dX12_atom_101 : decode cX12_atom 101 = .ok (.iconst (-1), 1) := by decide +kernel
theorem dX12_atom_102 : decode cX12_atom 102 = .ok (.if_icmp .ne 54, 3) := by decide +kernel
theorem dX12_atom_105 : decode cX12_atom 105 = .ok (.iload_n 3, 1) := by decide +kernel
theorem dX12_atom_106 : decode cX12_atom 106 = .ok (.iconst 4, 1) := by decide +kernel
theorem dX12_atom_107 : decode cX12_atom 107 = .ok (.if_icmp .ne 10, 3) := by decide +kernel
theorem dX12_atom_110 : decode cX12_atom 110 = .ok (.aload_n 0, 1) := by decide +kernel
theorem dX12_atom_111 : decode cX12_atom 111 = .ok (.invokevirtual 132, 3) := by decide +kernel
theorem dX12_atom_114 : decode cX12_atom 114 = .ok (.pop, 1) := by decide +kernel
theorem dX12_atom_115 : decode cX12_atom 115 = .ok (.iconst 0, 1) := by decide +kernel
theorem dX12_atom_116 : decode cX12_atom 116 = .ok (.ireturn, 1) := by decide +kernel
theorem dX12_atom_117 : decode cX12_atom 117 = .ok (.bipush 10, 2) := by decide +kernel
theorem dX12_atom_119 : decode cX12_atom 119 = .ok (.iload_n 2, 1) := by decide +kernel
theorem dX12_atom_120 : decode cX12_atom 120 = .ok (.imul, 1) := by decide +kernel
theorem dX12_atom_121 : decode cX12_atom 121 = .ok (.aload_n 0, 1) := by decide +kernel
theorem dX12_atom_122 : decode cX12_atom 122 = .ok (.getfield 23, 3) := by decide +kernel
theorem dX12_atom_125 : decode cX12_atom 125 = .ok (.aload_n 0, 1) := by decide +kernel
theorem dX12_atom_126 : decode cX12_atom 126 = .ok (.getfield 123, 3) := by decide +kernel
theorem dX12_atom_129 : decode cX12_atom 129 = .ok (.aload_n 0, 1) := by decide +kernel
theorem dX12_atom_130 : decode cX12_atom 130 = .ok (.getfield 117, 3) := by decide +kernel
theorem dX12_atom_133 : decode cX12_atom 133 = .ok (.iadd, 1) := by decide +kernel
theorem dX12_atom_134 : decode cX12_atom 134 = .ok (.baload, 1) := by decide +kernel
theorem dX12_atom_135 : decode cX12_atom 135 = .ok (.iadd, 1) := by decide +kernel
theorem dX12_atom_136 : decode cX12_atom 136 = .ok (.bipush 48, 2) := by decide +kernel
theorem dX12_atom_138 : decode cX12_atom 138 = .ok (.isub, 1) := by decide +kernel
theorem dX12_atom_139 : decode cX12_atom 139 = .ok (.istore_n 2, 1) := by decide +kernel
theorem dX12_atom_140 : decode cX12_atom 140 = .ok (.aload_n 0, 1) := by decide +kernel
theorem dX12_atom_141 : decode cX12_atom 141 = .ok (.dup, 1) := by decide +kernel
theorem dX12_atom_142 : decode cX12_atom 142 = .ok (.getfield 117, 3) := by decide +kernel
theorem dX12_atom_145 : decode cX12_atom 145 = .ok (.iconst 1, 1) := by decide +kernel
theorem dX12_atom_146 : decode cX12_atom 146 = .ok (.iadd, 1) := by decide +kernel
theorem dX12_atom_147 : decode cX12_atom 147 = .ok (.putfield 117, 3) := by decide +kernel
theorem dX12_atom_150 : decode cX12_atom 150 = .ok (.iinc 3 1, 3) := by decide +kernel
theorem dX12_atom_153 : decode cX12_atom 153 = .ok (.goto (-63), 3) := by decide +kernel
theorem dX12_atom_156 : decode cX12_atom 156 = .ok (.iload_n 2, 1) := by decide +kernel
theorem dX12_atom_157 : decode cX12_atom 157 = .ok (.ireturn, 1) := by decide +kernel
theorem dX12_fails_0 : decode cX12_fails 0 = .ok (.aload_n 0, 1) := by decide +kernel
theorem dX12_fails_1 : decode cX12_fails 1 = .ok (.getfield 126, 3) := by decide +kernel
theorem dX12_fails_4 : decode cX12_fails 4 = .ok (.iconst (-1), 1) := by decide +kernel
theorem dX12_fails_5 : decode cX12_fails 5 = .ok (.if_icmp .ne 11, 3) := by decide +kernel
theorem dX12_fails_8 : decode cX12_fails 8 = .ok (.aload_n 0, 1) := by decide +kernel
theorem dX12_fails_9 : decode cX12_fails 9 = .ok (.aload_n 0, 1) := by decide +kernel
theorem dX12_fails_10 : decode cX12_fails 10 = .ok (.getfield 117, 3) := by decide +kernel
theorem dX12_fails_13 : decode cX12_fails 13 = .ok (.putfield 126, 3) := by decide +kernel
theorem dX12_fails_16 : decode cX12_fails 16 = .ok (.iconst 0, 1) := by decide +kernel
theorem dX12_fails_17 : decode cX12_fails 17 = .ok (.ireturn, 1) := by decide +kernel
theorem dX12_goesIn_0 : decode cX12_goesIn 0 = .ok (.aload_n 0, 1) := by decide +kernel
theorem dX12_goesIn_1 : decode cX12_goesIn 1 = .ok (.getfield 129, 3) := by decide +kernel
theorem dX12_goesIn_4 : decode cX12_goesIn 4 = .ok (.bipush 6, 2) := by decide +kernel
theorem dX12_goesIn_6 : decode cX12_goesIn 6 = .ok (.if_icmp .ne 8, 3) := by decide +kernel
theorem dX12_goesIn_9 : decode cX12_goesIn 9 = .ok (.aload_n 0, 1) := by decide +kernel
theorem dX12_goesIn_10 : decode cX12_goesIn 10 = .ok (.invokevirtual 132, 3) := by decide +kernel
theorem dX12_goesIn_13 : decode cX12_goesIn 13 = .ok (.ireturn, 1) := by decide +kernel
theorem dX12_here_0 : decode cX12_here 0 = .ok (.aload_n 0, 1) := by decide +kernel
theorem dX12_here_1 : decode cX12_here 1 = .ok (.getfield 117, 3) := by decide +kernel
theorem dX12_here_4 : decode cX12_here 4 = .ok (.aload_n 0, 1) := by decide +kernel
theorem dX12_here_5 : decode cX12_here 5 = .ok (.getfield 120, 3) := by decide +kernel
theorem dX12_here_8 : decode cX12_here 8 = .ok (.if_icmp .ge 24, 3) := by decide +kernel
theorem dX12_here_11 : decode cX12_here 11 = .ok (.aload_n 0, 1) := by decide +kernel
theorem dX12_here_12 : decode cX12_here 12 = .ok (.getfield 23, 3) := by decide +kernel
theorem dX12_here_15 : decode cX12_here 15 = .ok (.aload_n 0, 1) := by decide +kernel
theorem dX12_here_16 : decode cX12_here 16 = .ok (.getfield 123, 3) := by decide +kernel
theorem dX12_here_19 : decode cX12_here 19 = .ok (.aload_n 0, 1) := by decide +kernel
theorem dX12_here_20 : decode cX12_here 20 = .ok (.getfield 117, 3) := by decide +kernel
theorem dX12_here_23 : decode cX12_here 23 = .ok (.iadd, 1) := by decide +kernel
theorem dX12_here_24 : decode cX12_here 24 = .ok (.baload, 1) := by decide +kernel
theorem dX12_here_25 : decode cX12_here 25 = .ok (.sipush 255, 3) := by decide +kernel
theorem dX12_here_28 : decode cX12_here 28 = .ok (.iand, 1) := by decide +kernel
theorem dX12_here_29 : decode cX12_here 29 = .ok (.goto 4, 3) := by decide +kernel
theorem dX12_here_32 : decode cX12_here 32 = .ok (.iconst (-1), 1) := by decide +kernel
theorem dX12_here_33 : decode cX12_here 33 = .ok (.ireturn, 1) := by decide +kernel
theorem dX12_isDigit_0 : decode cX12_isDigit 0 = .ok (.aload_n 0, 1) := by decide +kernel
theorem dX12_isDigit_1 : decode cX12_isDigit 1 = .ok (.getfield 117, 3) := by decide +kernel
theorem dX12_isDigit_4 : decode cX12_isDigit 4 = .ok (.aload_n 0, 1) := by decide +kernel
theorem dX12_isDigit_5 : decode cX12_isDigit 5 = .ok (.getfield 120, 3) := by decide +kernel
theorem dX12_isDigit_8 : decode cX12_isDigit 8 = .ok (.if_icmp .ge 45, 3) := by decide +kernel
theorem dX12_isDigit_11 : decode cX12_isDigit 11 = .ok (.aload_n 0, 1) := by decide +kernel
theorem dX12_isDigit_12 : decode cX12_isDigit 12 = .ok (.getfield 23, 3) := by decide +kernel
theorem dX12_isDigit_15 : decode cX12_isDigit 15 = .ok (.aload_n 0, 1) := by decide +kernel
theorem dX12_isDigit_16 : decode cX12_isDigit 16 = .ok (.getfield 123, 3) := by decide +kernel
theorem dX12_isDigit_19 : decode cX12_isDigit 19 = .ok (.aload_n 0, 1) := by decide +kernel
theorem dX12_isDigit_20 : decode cX12_isDigit 20 = .ok (.getfield 117, 3) := by decide +kernel
theorem dX12_isDigit_23 : decode cX12_isDigit 23 = .ok (.iadd, 1) := by decide +kernel
theorem dX12_isDigit_24 : decode cX12_isDigit 24 = .ok (.baload, 1) := by decide +kernel
theorem dX12_isDigit_25 : decode cX12_isDigit 25 = .ok (.bipush 48, 2) := by decide +kernel
theorem dX12_isDigit_27 : decode cX12_isDigit 27 = .ok (.if_icmp .lt 26, 3) := by decide +kernel
theorem dX12_isDigit_30 : decode cX12_isDigit 30 = .ok (.aload_n 0, 1) := by decide +kernel
theorem dX12_isDigit_31 : decode cX12_isDigit 31 = .ok (.getfield 23, 3) := by decide +kernel
theorem dX12_isDigit_34 : decode cX12_isDigit 34 = .ok (.aload_n 0, 1) := by decide +kernel
theorem dX12_isDigit_35 : decode cX12_isDigit 35 = .ok (.getfield 123, 3) := by decide +kernel
theorem dX12_isDigit_38 : decode cX12_isDigit 38 = .ok (.aload_n 0, 1) := by decide +kernel
theorem dX12_isDigit_39 : decode cX12_isDigit 39 = .ok (.getfield 117, 3) := by decide +kernel
theorem dX12_isDigit_42 : decode cX12_isDigit 42 = .ok (.iadd, 1) := by decide +kernel
theorem dX12_isDigit_43 : decode cX12_isDigit 43 = .ok (.baload, 1) := by decide +kernel
theorem dX12_isDigit_44 : decode cX12_isDigit 44 = .ok (.bipush 57, 2) := by decide +kernel
theorem dX12_isDigit_46 : decode cX12_isDigit 46 = .ok (.if_icmp .gt 7, 3) := by decide +kernel
theorem dX12_isDigit_49 : decode cX12_isDigit 49 = .ok (.iconst 1, 1) := by decide +kernel
theorem dX12_isDigit_50 : decode cX12_isDigit 50 = .ok (.goto 4, 3) := by decide +kernel
theorem dX12_isDigit_53 : decode cX12_isDigit 53 = .ok (.iconst 0, 1) := by decide +kernel
theorem dX12_isDigit_54 : decode cX12_isDigit 54 = .ok (.ireturn, 1) := by decide +kernel
theorem dX12_look_0 : decode cX12_look 0 = .ok (.aload_n 0, 1) := by decide +kernel
theorem dX12_look_1 : decode cX12_look 1 = .ok (.getfield 117, 3) := by decide +kernel
theorem dX12_look_4 : decode cX12_look 4 = .ok (.aload_n 0, 1) := by decide +kernel
theorem dX12_look_5 : decode cX12_look 5 = .ok (.getfield 120, 3) := by decide +kernel
theorem dX12_look_8 : decode cX12_look 8 = .ok (.if_icmp .ge 35, 3) := by decide +kernel
theorem dX12_look_11 : decode cX12_look 11 = .ok (.aload_n 0, 1) := by decide +kernel
theorem dX12_look_12 : decode cX12_look 12 = .ok (.getfield 23, 3) := by decide +kernel
theorem dX12_look_15 : decode cX12_look 15 = .ok (.aload_n 0, 1) := by decide +kernel
theorem dX12_look_16 : decode cX12_look 16 = .ok (.getfield 123, 3) := by decide +kernel
theorem dX12_look_19 : decode cX12_look 19 = .ok (.aload_n 0, 1) := by decide +kernel
theorem dX12_look_20 : decode cX12_look 20 = .ok (.getfield 117, 3) := by decide +kernel
theorem dX12_look_23 : decode cX12_look 23 = .ok (.iadd, 1) := by decide +kernel
theorem dX12_look_24 : decode cX12_look 24 = .ok (.baload, 1) := by decide +kernel
theorem dX12_look_25 : decode cX12_look 25 = .ok (.bipush 32, 2) := by decide +kernel
theorem dX12_look_27 : decode cX12_look 27 = .ok (.if_icmp .ne 16, 3) := by decide +kernel
theorem dX12_look_30 : decode cX12_look 30 = .ok (.aload_n 0, 1) := by decide +kernel
theorem dX12_look_31 : decode cX12_look 31 = .ok (.dup, 1) := by decide +kernel
theorem dX12_look_32 : decode cX12_look 32 = .ok (.getfield 117, 3) := by decide +kernel
theorem dX12_look_35 : decode cX12_look 35 = .ok (.iconst 1, 1) := by decide +kernel
theorem dX12_look_36 : decode cX12_look 36 = .ok (.iadd, 1) := by decide +kernel
theorem dX12_look_37 : decode cX12_look 37 = .ok (.putfield 117, 3) := by decide +kernel
theorem dX12_look_40 : decode cX12_look 40 = .ok (.goto (-40), 3) := by decide +kernel
theorem dX12_look_43 : decode cX12_look 43 = .ok (.aload_n 0, 1) := by decide +kernel
theorem dX12_look_44 : decode cX12_look 44 = .ok (.getfield 117, 3) := by decide +kernel
theorem dX12_look_47 : decode cX12_look 47 = .ok (.aload_n 0, 1) := by decide +kernel
theorem dX12_look_48 : decode cX12_look 48 = .ok (.getfield 120, 3) := by decide +kernel
theorem dX12_look_51 : decode cX12_look 51 = .ok (.if_icmp .ge 24, 3) := by decide +kernel
theorem dX12_look_54 : decode cX12_look 54 = .ok (.aload_n 0, 1) := by decide +kernel
theorem dX12_look_55 : decode cX12_look 55 = .ok (.getfield 23, 3) := by decide +kernel
theorem dX12_look_58 : decode cX12_look 58 = .ok (.aload_n 0, 1) := by decide +kernel
theorem dX12_look_59 : decode cX12_look 59 = .ok (.getfield 123, 3) := by decide +kernel
theorem dX12_look_62 : decode cX12_look 62 = .ok (.aload_n 0, 1) := by decide +kernel
theorem dX12_look_63 : decode cX12_look 63 = .ok (.getfield 117, 3) := by decide +kernel
theorem dX12_look_66 : decode cX12_look 66 = .ok (.iadd, 1) := by decide +kernel
theorem dX12_look_67 : decode cX12_look 67 = .ok (.baload, 1) := by decide +kernel
theorem dX12_look_68 : decode cX12_look 68 = .ok (.sipush 255, 3) := by decide +kernel
theorem dX12_look_71 : decode cX12_look 71 = .ok (.iand, 1) := by decide +kernel
theorem dX12_look_72 : decode cX12_look 72 = .ok (.goto 4, 3) := by decide +kernel
theorem dX12_look_75 : decode cX12_look 75 = .ok (.iconst (-1), 1) := by decide +kernel
theorem dX12_look_76 : decode cX12_look 76 = .ok (.ireturn, 1) := by decide +kernel
theorem dX12_takes_0 : decode cX12_takes 0 = .ok (.aload_n 0, 1) := by decide +kernel
theorem dX12_takes_1 : decode cX12_takes 1 = .ok (.getfield 126, 3) := by decide +kernel
theorem dX12_takes_4 : decode cX12_takes 4 = .ok (.iconst (-1), 1) := by decide +kernel
theorem dX12_takes_5 : decode cX12_takes 5 = .ok (.if_icmp .ne 11, 3) := by decide +kernel
theorem dX12_takes_8 : decode cX12_takes 8 = .ok (.aload_n 0, 1) := by decide +kernel
theorem dX12_takes_9 : decode cX12_takes 9 = .ok (.invokevirtual 136, 3) := by decide +kernel
theorem dX12_takes_12 : decode cX12_takes 12 = .ok (.iload_n 1, 1) := by decide +kernel
theorem dX12_takes_13 : decode cX12_takes 13 = .ok (.if_icmp .eq 8, 3) := by decide +kernel
theorem dX12_takes_16 : decode cX12_takes 16 = .ok (.aload_n 0, 1) := by decide +kernel
theorem dX12_takes_17 : decode cX12_takes 17 = .ok (.invokevirtual 132, 3) := by decide +kernel
theorem dX12_takes_20 : decode cX12_takes 20 = .ok (.ireturn, 1) := by decide +kernel
theorem dX12_takes_21 : decode cX12_takes 21 = .ok (.aload_n 0, 1) := by decide +kernel
theorem dX12_takes_22 : decode cX12_takes 22 = .ok (.dup, 1) := by decide +kernel
theorem dX12_takes_23 : decode cX12_takes 23 = .ok (.getfield 117, 3) := by decide +kernel
theorem dX12_takes_26 : decode cX12_takes 26 = .ok (.iconst 1, 1) := by decide +kernel
theorem dX12_takes_27 : decode cX12_takes 27 = .ok (.iadd, 1) := by decide +kernel
theorem dX12_takes_28 : decode cX12_takes 28 = .ok (.putfield 117, 3) := by decide +kernel
theorem dX12_takes_31 : decode cX12_takes 31 = .ok (.iconst 1, 1) := by decide +kernel
theorem dX12_takes_32 : decode cX12_takes 32 = .ok (.ireturn, 1) := by decide +kernel
theorem dX12_within_0 : decode cX12_within 0 = .ok (.ldc2_w 139, 3) := by decide +kernel
theorem dX12_within_3 : decode cX12_within 3 = .ok (.ldc2_w 141, 3) := by decide +kernel
theorem dX12_within_6 : decode cX12_within 6 = .ok (.lload_n 0, 1) := by decide +kernel
theorem dX12_within_7 : decode cX12_within 7 = .ok (.invokestatic 143, 3) := by decide +kernel
theorem dX12_within_10 : decode cX12_within 10 = .ok (.invokestatic 149, 3) := by decide +kernel
theorem dX12_within_13 : decode cX12_within 13 = .ok (.l2i, 1) := by decide +kernel
theorem dX12_within_14 : decode cX12_within 14 = .ok (.ireturn, 1) := by decide +kernel
theorem wl_8_12 : (.constantLong RX12 139 (-1000000) : Cond) ∈ sg_tbl := tb_8 _ (List.mem_of_getElem? (i := 12) (by decide +kernel)) (by decide +kernel)
theorem wl_8_13 : (.constantLong RX12 141 (1000000) : Cond) ∈ sg_tbl := tb_8 _ (List.mem_of_getElem? (i := 13) (by decide +kernel)) (by decide +kernel)
theorem wl_8_14 : (.methodLink RX12 143 Lib.MathLoose.min_long.x : Cond) ∈ sg_tbl := tb_8 _ (List.mem_of_getElem? (i := 14) (by decide +kernel)) (by decide +kernel)
theorem wl_8_15 : (.static Lib.MathLoose.min_long.x : Cond) ∈ sg_tbl := tb_8 _ (List.mem_of_getElem? (i := 15) (by decide +kernel)) (by decide +kernel)
theorem wl_8_16 : (.code Lib.MathLoose.min_long.x Lib.MathLoose.min_long.code 4 (some .long) : Cond) ∈ sg_tbl := tb_8 _ (List.mem_of_getElem? (i := 16) (by decide +kernel)) (by decide +kernel)
theorem wl_8_17 : (.methodLink RX12 149 Lib.MathLoose.max_long.x : Cond) ∈ sg_tbl := tb_8 _ (List.mem_of_getElem? (i := 17) (by decide +kernel)) (by decide +kernel)
theorem wl_8_18 : (.static Lib.MathLoose.max_long.x : Cond) ∈ sg_tbl := tb_8 _ (List.mem_of_getElem? (i := 18) (by decide +kernel)) (by decide +kernel)
theorem wl_8_19 : (.code Lib.MathLoose.max_long.x Lib.MathLoose.max_long.code 4 (some .long) : Cond) ∈ sg_tbl := tb_8 _ (List.mem_of_getElem? (i := 19) (by decide +kernel)) (by decide +kernel)
theorem wl_6_189 : (.fieldLink RX12 126 "LawnAheadModel" "fault" "I" : Cond) ∈ sg_tbl := tb_6 _ (List.mem_of_getElem? (i := 189) (by decide +kernel)) (by decide +kernel)
theorem wl_6_188 : (.fieldLink RX12 117 "LawnAheadModel" "at" "I" : Cond) ∈ sg_tbl := tb_6 _ (List.mem_of_getElem? (i := 188) (by decide +kernel)) (by decide +kernel)
theorem wl_6_187 : (.fieldLink RX12 120 "LawnAheadModel" "ends" "I" : Cond) ∈ sg_tbl := tb_6 _ (List.mem_of_getElem? (i := 187) (by decide +kernel)) (by decide +kernel)
theorem wl_6_183 : (.fieldLink RX12 23 "LawnAheadModel" "text" "[B" : Cond) ∈ sg_tbl := tb_6 _ (List.mem_of_getElem? (i := 183) (by decide +kernel)) (by decide +kernel)
theorem wl_6_186 : (.fieldLink RX12 123 "LawnAheadModel" "begins" "I" : Cond) ∈ sg_tbl := tb_6 _ (List.mem_of_getElem? (i := 186) (by decide +kernel)) (by decide +kernel)
theorem wl_7_141 : (.methodLink RX12 132 yX12_fails : Cond) ∈ sg_tbl := tb_7 _ (List.mem_of_getElem? (i := 141) (by decide +kernel)) (by decide +kernel)
theorem wl_7_137 : (.methodLink RX12 136 yX12_look : Cond) ∈ sg_tbl := tb_7 _ (List.mem_of_getElem? (i := 137) (by decide +kernel)) (by decide +kernel)
theorem wl_6_190 : (.fieldLink RX12 129 "LawnAheadModel" "deep" "I" : Cond) ∈ sg_tbl := tb_6 _ (List.mem_of_getElem? (i := 190) (by decide +kernel)) (by decide +kernel)
theorem wl_7_214 : (.methodLink RX12 152 yX12_isAmong : Cond) ∈ sg_tbl := tb_7 _ (List.mem_of_getElem? (i := 214) (by decide +kernel)) (by decide +kernel)
theorem wl_7_187 : (.methodLink RX12 166 yX12_isDigit : Cond) ∈ sg_tbl := tb_7 _ (List.mem_of_getElem? (i := 187) (by decide +kernel)) (by decide +kernel)
theorem wl_8_5 : (.methodLink RX12 156 yX12_goesIn : Cond) ∈ sg_tbl := tb_8 _ (List.mem_of_getElem? (i := 5) (by decide +kernel)) (by decide +kernel)
theorem wl_6_182 : (.fieldLink RX12 20 "LawnAheadModel" "letters" "[I" : Cond) ∈ sg_tbl := tb_6 _ (List.mem_of_getElem? (i := 182) (by decide +kernel)) (by decide +kernel)
theorem wl_8_11 : (.code yX12_within cX12_within 2 (some .int) : Cond) ∈ sg_tbl := tb_8 _ (List.mem_of_getElem? (i := 11) (by decide +kernel)) (by decide +kernel)
theorem wl_8_10 : (.static yX12_within : Cond) ∈ sg_tbl := tb_8 _ (List.mem_of_getElem? (i := 10) (by decide +kernel)) (by decide +kernel)
theorem wl_7_144 : (.code yX12_fails cX12_fails 1 (some .boolean) : Cond) ∈ sg_tbl := tb_7 _ (List.mem_of_getElem? (i := 144) (by decide +kernel)) (by decide +kernel)
theorem wl_7_143 : (.instanceMethod yX12_fails : Cond) ∈ sg_tbl := tb_7 _ (List.mem_of_getElem? (i := 143) (by decide +kernel)) (by decide +kernel)
theorem wl_0_53 : (.selects RX12 yX12_fails yX12_fails : Cond) ∈ sg_tbl := tb_0 _ (List.mem_of_getElem? (i := 53) (by decide +kernel)) (by decide +kernel)
theorem wl_7_140 : (.code yX12_look cX12_look 1 (some .int) : Cond) ∈ sg_tbl := tb_7 _ (List.mem_of_getElem? (i := 140) (by decide +kernel)) (by decide +kernel)
theorem wl_7_139 : (.instanceMethod yX12_look : Cond) ∈ sg_tbl := tb_7 _ (List.mem_of_getElem? (i := 139) (by decide +kernel)) (by decide +kernel)
theorem wl_0_52 : (.selects RX12 yX12_look yX12_look : Cond) ∈ sg_tbl := tb_0 _ (List.mem_of_getElem? (i := 52) (by decide +kernel)) (by decide +kernel)
theorem wl_7_190 : (.code yX12_isDigit cX12_isDigit 1 (some .boolean) : Cond) ∈ sg_tbl := tb_7 _ (List.mem_of_getElem? (i := 190) (by decide +kernel)) (by decide +kernel)
theorem wl_7_189 : (.instanceMethod yX12_isDigit : Cond) ∈ sg_tbl := tb_7 _ (List.mem_of_getElem? (i := 189) (by decide +kernel)) (by decide +kernel)
theorem wl_0_56 : (.selects RX12 yX12_isDigit yX12_isDigit : Cond) ∈ sg_tbl := tb_0 _ (List.mem_of_getElem? (i := 56) (by decide +kernel)) (by decide +kernel)
theorem wl_7_194 : (.code yX12_here cX12_here 1 (some .int) : Cond) ∈ sg_tbl := tb_7 _ (List.mem_of_getElem? (i := 194) (by decide +kernel)) (by decide +kernel)
theorem wl_7_193 : (.instanceMethod yX12_here : Cond) ∈ sg_tbl := tb_7 _ (List.mem_of_getElem? (i := 193) (by decide +kernel)) (by decide +kernel)
theorem wl_0_57 : (.selects RX12 yX12_here yX12_here : Cond) ∈ sg_tbl := tb_0 _ (List.mem_of_getElem? (i := 57) (by decide +kernel)) (by decide +kernel)
theorem wl_7_220 : (.code yX12_takes cX12_takes 2 (some .boolean) : Cond) ∈ sg_tbl := tb_7 _ (List.mem_of_getElem? (i := 220) (by decide +kernel)) (by decide +kernel)
theorem wl_7_219 : (.instanceMethod yX12_takes : Cond) ∈ sg_tbl := tb_7 _ (List.mem_of_getElem? (i := 219) (by decide +kernel)) (by decide +kernel)
theorem wl_0_60 : (.selects RX12 yX12_takes yX12_takes : Cond) ∈ sg_tbl := tb_0 _ (List.mem_of_getElem? (i := 60) (by decide +kernel)) (by decide +kernel)
theorem wl_8_8 : (.code yX12_goesIn cX12_goesIn 1 (some .boolean) : Cond) ∈ sg_tbl := tb_8 _ (List.mem_of_getElem? (i := 8) (by decide +kernel)) (by decide +kernel)
theorem wl_8_7 : (.instanceMethod yX12_goesIn : Cond) ∈ sg_tbl := tb_8 _ (List.mem_of_getElem? (i := 7) (by decide +kernel)) (by decide +kernel)
theorem wl_0_67 : (.selects RX12 yX12_goesIn yX12_goesIn : Cond) ∈ sg_tbl := tb_0 _ (List.mem_of_getElem? (i := 67) (by decide +kernel)) (by decide +kernel)
theorem wl_8_4 : (.code yX12_atom cX12_atom 4 (some .int) : Cond) ∈ sg_tbl := tb_8 _ (List.mem_of_getElem? (i := 4) (by decide +kernel)) (by decide +kernel)
theorem wl_8_3 : (.instanceMethod yX12_atom : Cond) ∈ sg_tbl := tb_8 _ (List.mem_of_getElem? (i := 3) (by decide +kernel)) (by decide +kernel)
theorem wl_0_66 : (.selects RX12 yX12_atom yX12_atom : Cond) ∈ sg_tbl := tb_0 _ (List.mem_of_getElem? (i := 66) (by decide +kernel)) (by decide +kernel)
section
variable {p : Program} {l : Launch} {e : Env} {R : Room} {s : State} {m : MethodId} {args : Array Value} {below : List Frame} {meth : Method} {c : Code} {H : Heap} {locs : List Loc} {cells slots : Nat} {Q : State → Prop} {cc : ByteArray} {nL pc : Nat} {ls : Array Slot} {rest : List Value} {own : String} {D : va_G} {A : Nat → Prop} {tys : List (ClassId × FieldType)} {ad ks : List Nat} {P : sgPm} {H0 : Heap} {index : Nat} {base : Nat} {st0 : List Value} {a : Nat}
theorem gf_X12_10r {b : Bool} {d lo hi mr f : Int} (X : CallFix p m c cc nL s args sg_tbl own) (hK : va_K D vwCl tys s) (hG : sgG (KR b d lo hi mr f P) D vwCl A tys ad ks H) (ha : isK ad ks 12 a) (hl : Cond.fieldLink own index "LawnAheadModel" "at" "I" ∈ sg_tbl) (hdg : decode cc pc = .ok (.getfield index, 3)) (kk : ∀ x : Int32, iv lo (hi) x → fld D H 12 a 10 (.int x) → W p l e R s m args below meth c H locs cells slots Q (F0 m (pc + 3) ls (.int x :: rest))) : W p l e R s m args below meth c H locs cells slots Q (F0 m pc ls (.ref a :: rest)) :=
  sg_get X hK hG ha (k := 12) (ci := 12) rfl (C := RX12) (T := TX12) (N := 53) rfl inL_X12 10 (by decide) rfl hl (fun _ h => h) hdg (fun v hv hf => by obtain ⟨x, rfl, hx⟩ := hv; exact kk x hx hf)
theorem gf_X12_11r {b : Bool} {d lo hi mr f : Int} (X : CallFix p m c cc nL s args sg_tbl own) (hK : va_K D vwCl tys s) (hG : sgG (KR b d lo hi mr f P) D vwCl A tys ad ks H) (ha : isK ad ks 12 a) (hl : Cond.fieldLink own index "LawnAheadModel" "fault" "I" ∈ sg_tbl) (hdg : decode cc pc = .ok (.getfield index, 3)) (kk : ∀ x : Int32, iv f (241) x → fld D H 12 a 11 (.int x) → W p l e R s m args below meth c H locs cells slots Q (F0 m (pc + 3) ls (.int x :: rest))) : W p l e R s m args below meth c H locs cells slots Q (F0 m pc ls (.ref a :: rest)) :=
  sg_get X hK hG ha (k := 12) (ci := 12) rfl (C := RX12) (T := TX12) (N := 53) rfl inL_X12 11 (by decide) rfl hl (fun _ h => h) hdg (fun v hv hf => by obtain ⟨x, rfl, hx⟩ := hv; exact kk x hx hf)
theorem gf_X12_12r {b : Bool} {d lo hi mr f : Int} (X : CallFix p m c cc nL s args sg_tbl own) (hK : va_K D vwCl tys s) (hG : sgG (KR b d lo hi mr f P) D vwCl A tys ad ks H) (ha : isK ad ks 12 a) (hl : Cond.fieldLink own index "LawnAheadModel" "deep" "I" ∈ sg_tbl) (hdg : decode cc pc = .ok (.getfield index, 3)) (kk : ∀ x : Int32, iv d (6) x → fld D H 12 a 12 (.int x) → W p l e R s m args below meth c H locs cells slots Q (F0 m (pc + 3) ls (.int x :: rest))) : W p l e R s m args below meth c H locs cells slots Q (F0 m pc ls (.ref a :: rest)) :=
  sg_get X hK hG ha (k := 12) (ci := 12) rfl (C := RX12) (T := TX12) (N := 53) rfl inL_X12 12 (by decide) rfl hl (fun _ h => h) hdg (fun v hv hf => by obtain ⟨x, rfl, hx⟩ := hv; exact kk x hx hf)
theorem gf_X12_4r  {b : Bool} {d lo hi mr f : Int} (X : CallFix p m c cc nL s args sg_tbl own) (hK : va_K D vwCl tys s) (hG : sgG (KR b d lo hi mr f P) D vwCl A tys ad ks H) (ha : isK ad ks 12 a) (hl : Cond.fieldLink own index "LawnAheadModel" "letters" "[I" ∈ sg_tbl) (hdg : decode cc pc = .ok (.getfield index, 3)) (kk : ∀ x : Nat, isK ad ks 48 x → fld D H 12 a 4 (.ref x) → W p l e R s m args below meth c H locs cells slots Q (F0 m (pc + 3) ls (.ref x :: rest))) : W p l e R s m args below meth c H locs cells slots Q (F0 m pc ls (.ref a :: rest)) :=
  sg_get X hK hG ha (k := 12) (ci := 12) rfl (C := RX12) (T := TX12) (N := 53) rfl inL_X12 4 (by decide) rfl hl (fun _ h => h) hdg (fun v hv hf => by
    obtain ⟨h1, -⟩ | ⟨x, rfl, hx⟩ := hv
    · cases h1
    · exact kk x hx hf)
theorem gf_X12_5r {b : Bool} {d lo hi mr f : Int} (X : CallFix p m c cc nL s args sg_tbl own) (hK : va_K D vwCl tys s) (hG : sgG (KR b d lo hi mr f P) D vwCl A tys ad ks H) (ha : isK ad ks 12 a) (hl : Cond.fieldLink own index "LawnAheadModel" "text" "[B" ∈ sg_tbl) (hdg : decode cc pc = .ok (.getfield index, 3)) (kk : ∀ x : Nat, isK ad ks (bif b then 46 else 45) x → fld D H 12 a 5 (.ref x) → W p l e R s m args below meth c H locs cells slots Q (F0 m (pc + 3) ls (.ref x :: rest))) : W p l e R s m args below meth c H locs cells slots Q (F0 m pc ls (.ref a :: rest)) :=
  sg_get X hK hG ha (k := 12) (ci := 12) rfl (C := RX12) (T := TX12) (N := 53) rfl inL_X12 5 (by decide) rfl hl (fun _ h => h) hdg (fun v hv hf => by
    cases b <;> (rcases hv with ⟨h1, -⟩ | ⟨x, rfl, hx⟩ <;> first | (cases h1; done) | exact kk x hx hf))
theorem gf_X12_8r {b : Bool} {d lo hi mr f : Int} (X : CallFix p m c cc nL s args sg_tbl own) (hK : va_K D vwCl tys s) (hG : sgG (KR b d lo hi mr f P) D vwCl A tys ad ks H) (ha : isK ad ks 12 a) (hl : Cond.fieldLink own index "LawnAheadModel" "begins" "I" ∈ sg_tbl) (hdg : decode cc pc = .ok (.getfield index, 3)) (kk : ∀ x : Int32, iv 0 (bif b then 720 else 0) x → fld D H 12 a 8 (.int x) → W p l e R s m args below meth c H locs cells slots Q (F0 m (pc + 3) ls (.int x :: rest))) : W p l e R s m args below meth c H locs cells slots Q (F0 m pc ls (.ref a :: rest)) :=
  sg_get X hK hG ha (k := 12) (ci := 12) rfl (C := RX12) (T := TX12) (N := 53) rfl inL_X12 8 (by decide) rfl hl (fun _ h => h) hdg (fun v hv hf => by obtain ⟨x, rfl, hx⟩ := hv; exact kk x hx hf)
theorem gf_X12_9r  {b : Bool} {d lo hi mr f : Int} (X : CallFix p m c cc nL s args sg_tbl own) (hK : va_K D vwCl tys s) (hG : sgG (KR b d lo hi mr f P) D vwCl A tys ad ks H) (ha : isK ad ks 12 a) (hl : Cond.fieldLink own index "LawnAheadModel" "ends" "I" ∈ sg_tbl) (hdg : decode cc pc = .ok (.getfield index, 3)) (kk : ∀ x : Int32, iv 0 240 x → fld D H 12 a 9 (.int x) → W p l e R s m args below meth c H locs cells slots Q (F0 m (pc + 3) ls (.int x :: rest))) : W p l e R s m args below meth c H locs cells slots Q (F0 m pc ls (.ref a :: rest)) :=
  sg_get X hK hG ha (k := 12) (ci := 12) rfl (C := RX12) (T := TX12) (N := 53) rfl inL_X12 9 (by decide) rfl hl (fun _ h => h) hdg (fun v hv hf => by obtain ⟨x, rfl, hx⟩ := hv; exact kk x hx hf)
theorem gg_X12_10r  {b : Bool} {d lo hi mr f : Int} (X : CallFix p m c cc nL s args sg_tbl own) (hK : va_K D vwCl tys s) (hG : sgG (KR b d lo hi mr f P) D vwCl A tys ad ks H) (ha : isK ad ks 12 a) (hl : Cond.fieldLink own index "LawnAheadModel" "at" "I" ∈ sg_tbl) {v : Value} (hf : fld D H 12 a 10 v) (hdg : decode cc pc = .ok (.getfield index, 3)) (kk : W p l e R s m args below meth c H locs cells slots Q (F0 m (pc + 3) ls (v :: rest))) : W p l e R s m args below meth c H locs cells slots Q (F0 m pc ls (.ref a :: rest)) :=
  sg_getf X hK hG ha (k := 12) (ci := 12) rfl (C := RX12) (T := TX12) (N := 53) rfl inL_X12 10 (by decide) (show 10 < 53 by decide) hl (fun _ h => h) hf hdg kk
theorem gg_X12_5r  {b : Bool} {d lo hi mr f : Int} (X : CallFix p m c cc nL s args sg_tbl own) (hK : va_K D vwCl tys s) (hG : sgG (KR b d lo hi mr f P) D vwCl A tys ad ks H) (ha : isK ad ks 12 a) (hl : Cond.fieldLink own index "LawnAheadModel" "text" "[B" ∈ sg_tbl) {v : Value} (hf : fld D H 12 a 5 v) (hdg : decode cc pc = .ok (.getfield index, 3)) (kk : W p l e R s m args below meth c H locs cells slots Q (F0 m (pc + 3) ls (v :: rest))) : W p l e R s m args below meth c H locs cells slots Q (F0 m pc ls (.ref a :: rest)) :=
  sg_getf X hK hG ha (k := 12) (ci := 12) rfl (C := RX12) (T := TX12) (N := 53) rfl inL_X12 5 (by decide) (show 5 < 53 by decide) hl (fun _ h => h) hf hdg kk
theorem gg_X12_8r  {b : Bool} {d lo hi mr f : Int} (X : CallFix p m c cc nL s args sg_tbl own) (hK : va_K D vwCl tys s) (hG : sgG (KR b d lo hi mr f P) D vwCl A tys ad ks H) (ha : isK ad ks 12 a) (hl : Cond.fieldLink own index "LawnAheadModel" "begins" "I" ∈ sg_tbl) {v : Value} (hf : fld D H 12 a 8 v) (hdg : decode cc pc = .ok (.getfield index, 3)) (kk : W p l e R s m args below meth c H locs cells slots Q (F0 m (pc + 3) ls (v :: rest))) : W p l e R s m args below meth c H locs cells slots Q (F0 m pc ls (.ref a :: rest)) :=
  sg_getf X hK hG ha (k := 12) (ci := 12) rfl (C := RX12) (T := TX12) (N := 53) rfl inL_X12 8 (by decide) (show 8 < 53 by decide) hl (fun _ h => h) hf hdg kk
theorem gg_X12_9r  {b : Bool} {d lo hi mr f : Int} (X : CallFix p m c cc nL s args sg_tbl own) (hK : va_K D vwCl tys s) (hG : sgG (KR b d lo hi mr f P) D vwCl A tys ad ks H) (ha : isK ad ks 12 a) (hl : Cond.fieldLink own index "LawnAheadModel" "ends" "I" ∈ sg_tbl) {v : Value} (hf : fld D H 12 a 9 v) (hdg : decode cc pc = .ok (.getfield index, 3)) (kk : W p l e R s m args below meth c H locs cells slots Q (F0 m (pc + 3) ls (v :: rest))) : W p l e R s m args below meth c H locs cells slots Q (F0 m pc ls (.ref a :: rest)) :=
  sg_getf X hK hG ha (k := 12) (ci := 12) rfl (C := RX12) (T := TX12) (N := 53) rfl inL_X12 9 (by decide) (show 9 < 53 by decide) hl (fun _ h => h) hf hdg kk
theorem pf_X12_10R {b : Bool} {d lo hi mr f : Int} {lo2 hi2 : Int} {x : Int32} (X : CallFix p m c cc nL s args sg_tbl own) (hK : va_K D vwCl tys s) (hG : sgG (KR b d lo hi mr f P) D vwCl A tys ad ks H) (hS : va_S A H0 H locs) (ha : isK ad ks 12 a) (hl : Cond.fieldLink own index "LawnAheadModel" "at" "I" ∈ sg_tbl) (hv : okV ad ks (.inl (lo2, hi2)) (.int x)) (hdg : decode cc pc = .ok (.putfield index, 3)) (kk : ∀ (H1 : Heap) (locs1 : List Loc), sgG (KR b d lo2 hi2 mr f P) D vwCl A tys ad ks H1 → va_S A H0 H1 locs1 → W p l e R s m args below meth c H1 locs1 cells slots Q (F0 m (pc + 3) ls rest)) : W p l e R s m args below meth c H locs cells slots Q (F0 m pc ls (.int x :: .ref a :: rest)) :=
  sg_put1 (kt' := KR b d lo2 hi2 mr f P) X hK hG hS ha (k := 12) (by decide) (ci := 12) (fts := [.inl ((-2147483648), 2147483647), .inr (.inl (false, 45)), .inr (.inl (false, 46)), .inr (.inl (false, 47)), .inr (.inl (false, 48)), bif b then .inr (.inl (false, 46)) else .inr (.inl (false, 45)), .inl (sgC240 (sgL2 P), sgC240 (sgL2 P)), .inl ((P.2.2.2.2.2.2.2.2.1.val : Int), (P.2.2.2.2.2.2.2.2.1.val : Int)), .inl (0, bif b then 720 else 0), .inl (0, 240), .inl (lo, hi), .inl (f, 241), .inl (d, 6), .inl ((-2147483648), 2147483647), .inl ((-2147483648), 2147483647), .inr (.inr true), .inr (.inr true), .inl (0, 1), .inr (.inl (false, 49)), .inr (.inl (false, 50)), .inr (.inl (false, 51)), .inr (.inl (false, 52)), .inr (.inl (false, 53)), .inl (sgC1 P, sgC1 P), .inl ((-2147483648), 2147483647), .inl ((-2147483648), 2147483647), .inl ((-2147483648), 2147483647), .inl ((-2147483648), 2147483647), .inl ((-2147483648), 2147483647), .inl ((P.2.2.2.2.2.2.2.2.2.1.val : Int), (P.2.2.2.2.2.2.2.2.2.1.val : Int)), .inl (0, 1), .inl (0, 1), .inr (.inl (false, 54)), .inr (.inl (false, 55)), .inl ((-1), 3), .inl (P.2.2.2.2.2.1, P.2.2.2.2.2.1), .inr (.inl (false, 56)), .inr (.inl (false, 57)), .inr (.inl (false, 58)), .inl (0, 40), .inr (.inr false), .inr (.inl (false, 59)), .inl ((-2147483648), 2147483647), .inl ((-2147483648), 2147483647), .inr (.inl (false, 60)), .inr (.inl (false, 61)), .inr (.inl (false, 62)), .inl (0, 12), .inr (.inl (false, 63)), .inr (.inl (false, 64)), .inl (0, 12), .inr (.inl (false, 65)), .inl (0, 1)]) (fts' := [.inl ((-2147483648), 2147483647), .inr (.inl (false, 45)), .inr (.inl (false, 46)), .inr (.inl (false, 47)), .inr (.inl (false, 48)), bif b then .inr (.inl (false, 46)) else .inr (.inl (false, 45)), .inl (sgC240 (sgL2 P), sgC240 (sgL2 P)), .inl ((P.2.2.2.2.2.2.2.2.1.val : Int), (P.2.2.2.2.2.2.2.2.1.val : Int)), .inl (0, bif b then 720 else 0), .inl (0, 240), .inl (lo2, hi2), .inl (f, 241), .inl (d, 6), .inl ((-2147483648), 2147483647), .inl ((-2147483648), 2147483647), .inr (.inr true), .inr (.inr true), .inl (0, 1), .inr (.inl (false, 49)), .inr (.inl (false, 50)), .inr (.inl (false, 51)), .inr (.inl (false, 52)), .inr (.inl (false, 53)), .inl (sgC1 P, sgC1 P), .inl ((-2147483648), 2147483647), .inl ((-2147483648), 2147483647), .inl ((-2147483648), 2147483647), .inl ((-2147483648), 2147483647), .inl ((-2147483648), 2147483647), .inl ((P.2.2.2.2.2.2.2.2.2.1.val : Int), (P.2.2.2.2.2.2.2.2.2.1.val : Int)), .inl (0, 1), .inl (0, 1), .inr (.inl (false, 54)), .inr (.inl (false, 55)), .inl ((-1), 3), .inl (P.2.2.2.2.2.1, P.2.2.2.2.2.1), .inr (.inl (false, 56)), .inr (.inl (false, 57)), .inr (.inl (false, 58)), .inl (0, 40), .inr (.inr false), .inr (.inl (false, 59)), .inl ((-2147483648), 2147483647), .inl ((-2147483648), 2147483647), .inr (.inl (false, 60)), .inr (.inl (false, 61)), .inr (.inl (false, 62)), .inl (0, 12), .inr (.inl (false, 63)), .inr (.inl (false, 64)), .inl (0, 12), .inr (.inl (false, 65)), .inl (0, 1)]) rfl rfl (C := RX12) (T := TX12) (N := 53) rfl inL_X12 tyX12 tyX12_ok nmX12 10 (by decide) rfl (t' := .inl (lo2, hi2)) rfl (fun i hi => by match i, hi with
    | 0, hi => rfl
    | 1, hi => rfl
    | 2, hi => rfl
    | 3, hi => rfl
    | 4, hi => rfl
    | 5, hi => rfl
    | 6, hi => rfl
    | 7, hi => rfl
    | 8, hi => rfl
    | 9, hi => rfl
    | 10, hi => exact absurd rfl hi
    | 11, hi => rfl
    | 12, hi => rfl
    | 13, hi => rfl
    | 14, hi => rfl
    | 15, hi => rfl
    | 16, hi => rfl
    | 17, hi => rfl
    | 18, hi => rfl
    | 19, hi => rfl
    | 20, hi => rfl
    | 21, hi => rfl
    | 22, hi => rfl
    | 23, hi => rfl
    | 24, hi => rfl
    | 25, hi => rfl
    | 26, hi => rfl
    | 27, hi => rfl
    | 28, hi => rfl
    | 29, hi => rfl
    | 30, hi => rfl
    | 31, hi => rfl
    | 32, hi => rfl
    | 33, hi => rfl
    | 34, hi => rfl
    | 35, hi => rfl
    | 36, hi => rfl
    | 37, hi => rfl
    | 38, hi => rfl
    | 39, hi => rfl
    | 40, hi => rfl
    | 41, hi => rfl
    | 42, hi => rfl
    | 43, hi => rfl
    | 44, hi => rfl
    | 45, hi => rfl
    | 46, hi => rfl
    | 47, hi => rfl
    | 48, hi => rfl
    | 49, hi => rfl
    | 50, hi => rfl
    | 51, hi => rfl
    | 52, hi => rfl
    | i + 53, hi => rfl) (fun i hi => by match i, hi with
    | 0, hi => rfl
    | 1, hi => rfl
    | 2, hi => rfl
    | 3, hi => rfl
    | 4, hi => rfl
    | 5, hi => rfl
    | 6, hi => rfl
    | 7, hi => rfl
    | 8, hi => rfl
    | 9, hi => rfl
    | 10, hi => rfl
    | 11, hi => rfl
    | 12, hi => exact absurd rfl hi
    | 13, hi => rfl
    | 14, hi => rfl
    | 15, hi => rfl
    | 16, hi => rfl
    | 17, hi => rfl
    | 18, hi => rfl
    | 19, hi => rfl
    | 20, hi => rfl
    | 21, hi => rfl
    | 22, hi => rfl
    | 23, hi => rfl
    | 24, hi => rfl
    | 25, hi => rfl
    | 26, hi => rfl
    | 27, hi => rfl
    | 28, hi => rfl
    | 29, hi => rfl
    | 30, hi => rfl
    | 31, hi => rfl
    | 32, hi => rfl
    | 33, hi => rfl
    | 34, hi => rfl
    | 35, hi => rfl
    | 36, hi => rfl
    | 37, hi => rfl
    | 38, hi => rfl
    | 39, hi => rfl
    | 40, hi => rfl
    | 41, hi => rfl
    | 42, hi => rfl
    | 43, hi => rfl
    | 44, hi => rfl
    | 45, hi => rfl
    | 46, hi => rfl
    | 47, hi => rfl
    | 48, hi => rfl
    | 49, hi => rfl
    | 50, hi => rfl
    | 51, hi => rfl
    | 52, hi => rfl
    | 53, hi => rfl
    | 54, hi => rfl
    | 55, hi => rfl
    | 56, hi => rfl
    | 57, hi => rfl
    | 58, hi => rfl
    | 59, hi => rfl
    | 60, hi => rfl
    | 61, hi => rfl
    | 62, hi => rfl
    | 63, hi => rfl
    | 64, hi => rfl
    | 65, hi => rfl
    | 66, hi => rfl
    | 67, hi => rfl
    | i + 68, hi => rfl) hl (fun _ h => h) rfl (ty := .int) rfl rfl rfl hv hdg kk
theorem pf_X12_11r  {x : Int32} {b : Bool} {d lo hi mr f : Int} (X : CallFix p m c cc nL s args sg_tbl own) (hK : va_K D vwCl tys s) (hG : sgG (KR b d lo hi mr f P) D vwCl A tys ad ks H) (hS : va_S A H0 H locs) (ha : isK ad ks 12 a) (hl : Cond.fieldLink own index "LawnAheadModel" "fault" "I" ∈ sg_tbl) (hv : okV ad ks (.inl (f, 241)) (.int x)) (hdg : decode cc pc = .ok (.putfield index, 3)) (kk : ∀ (H1 : Heap) (locs1 : List Loc), sgG (KR b d lo hi mr f P) D vwCl A tys ad ks H1 → va_S A H0 H1 locs1 → fld D H1 12 a 11 (.int x) → sgFr (KR b d lo hi mr f P) D vwCl ad ks H H1 (fun a' j' => a' = a ∧ j' = 11) → W p l e R s m args below meth c H1 locs1 cells slots Q (F0 m (pc + 3) ls rest)) : W p l e R s m args below meth c H locs cells slots Q (F0 m pc ls (.int x :: .ref a :: rest)) :=
  sg_put X hK hG hS ha (k := 12) (ci := 12) rfl (C := RX12) (T := TX12) (N := 53) rfl inL_X12 tyX12 tyX12_ok nmX12 11 (by decide) rfl hl (fun _ h => h) rfl (ty := .int) rfl rfl rfl hv hdg kk
theorem al_48r  {i : Int32} {b : Bool} {d lo hi mr f : Int} (X : CallFix p m c cc nL s args sg_tbl own) (hK : va_K D vwCl tys s) (hG : sgG (KR b d lo hi mr f P) D vwCl A tys ad ks H) (ha : isK ad ks 48 a) (hin : vp_in i 128) (hdg : decode cc pc = .ok (.iaload, 1)) (kk : ∀ x : Int32, iv 0 2147483647 x → W p l e R s m args below meth c H locs cells slots Q (F0 m (pc + 1) ls (.int x :: rest))) : W p l e R s m args below meth c H locs cells slots Q (F0 m pc ls (.int i :: .ref a :: rest)) :=
  sg_iald X hK hG ha (k := 48) rfl hin hdg (fun x hx => by obtain ⟨y, h1, h2⟩ := hx; cases h1; exact kk _ h2)
theorem al_txt {b : Bool} {d lo hi mr f : Int} (X : CallFix p m c cc nL s args sg_tbl own) (hK : va_K D vwCl tys s) (hG : sgG (KR b d lo hi mr f P) D vwCl A tys ad ks H) (ha : isK ad ks (bif b then 46 else 45) a) {g v i : Int32} (hg : iv 0 (bif b then 720 else 0) g) (hv : iv 0 239 v) (e0 : i = g + v) (hdg : decode cc pc = .ok (.baload, 1)) (kk : ∀ x : Int32, W p l e R s m args below meth c H locs cells slots Q (F0 m (pc + 1) ls (.int x :: rest))) : W p l e R s m args below meth c H locs cells slots Q (F0 m pc ls (.int i :: .ref a :: rest)) := by
  cases b
  · exact sg_bald X hK hG (k := 45) ha rfl (iv_vpin (iv_add (a' := 0) (b' := 239) (c := 0) (d := 239) (a := 0) (b := 0) e0 hg hv (by decide +kernel)) (by decide +kernel)) hdg (fun x _ => kk x)
  · exact sg_bald X hK hG (k := 46) ha rfl (iv_vpin (iv_add (a' := 0) (b' := 959) (c := 0) (d := 239) (a := 0) (b := 720) e0 hg hv (by decide +kernel)) (by decide +kernel)) hdg (fun x _ => kk x)
set_option maxHeartbeats 8000000 in
set_option maxRecDepth 100000 in
theorem m_J3_checkIndex_8e157_a1 (l : Launch) {D : va_G} {base : Nat} {tys : List (ClassId × FieldType)} {ad ks : List Nat} {P : sgPm} {Hx : Heap} (x0 : Int32) (h0 : iv 0 0 x0) (x1 : Int32) (h1 : iv 1 1 x1) (a2 : Nat) : sgPi l (KT P) D vwCl base tys ad ks Hx yJ3_checkIndex_8e157 cJ3_checkIndex_8e157 3 (some .int) ({ frames := 0, cells := 0, slots := 0, locals := 0 }) [.int x0, .int x1, .ref a2] (fun r : Int32 => True) := by
  refine sg_ofP (Pq := fun Hx => va_Qi (fun r (_ : Unit) => (fun r : Int32 => True) r) (fun _ t => t.heap = Hx) (fun _ : Nat => False)) (by decide +kernel) (Nat.le_of_ble_eq_true rfl) (fun p e s m below meth c X hr hlk hb hK hC hG ls hl => ?_)
  have hS : va_S (fun _ : Nat => False) s.heap s.heap [] := va_S.rf
  have hl : lv_has ls 3 [(0, .int x0), (1, .int x1), (2, .ref a2)] := hl
  refine lv_iload_n X.1 X.2.1 dJ3_checkIndex_8e157_0 rfl (lv_at hl 0 rfl) ?_
  refine lv_if_lt (tgt := 9) X.1 X.2.1 dJ3_checkIndex_8e157_1 (by decide) (fun c1 => ?_) (fun c1 => ?_)
  · exact ((iv_no (iv_lt (b' := (-1)) c1 h0 (iv_c 0 (a := 0) (b := 0) (by decide +kernel)) (by decide +kernel)) (by decide +kernel))).elim
  · refine lv_iload_n X.1 X.2.1 dJ3_checkIndex_8e157_4 rfl (lv_at hl 0 rfl) ?_
    refine lv_iload_n X.1 X.2.1 dJ3_checkIndex_8e157_5 rfl (lv_at hl 1 rfl) ?_
    refine lv_icmp_lt (tgt := 16) X.1 X.2.1 dJ3_checkIndex_8e157_6 (by decide) (fun c2 => ?_) (fun c2 => ?_)
    · refine lv_iload_n X.1 X.2.1 dJ3_checkIndex_8e157_16 rfl (lv_at hl 0 rfl) ?_
      exact sg_iretP X hr hlk hS trivial dJ3_checkIndex_8e157_17
    · exact ((iv_no (iv_le (b' := 0) (iv_ge_of c2) h1 h0 (by decide +kernel)) (by decide +kernel))).elim

theorem ca_J3_checkIndex_8e157_a1   (X : CallFix p m c cc nL s args sg_tbl own) (hK : va_K D vwCl tys s) (hG : sgG (KT P) D vwCl (fun q : Nat => base ≤ q) tys ad ks H) (hC : sgC base s) (hA : ∀ q : Nat, A q → base ≤ q) (hS : va_S A s.heap H locs) (hb : base ≤ s.heap.size) (x0 : Int32) (h0 : iv 0 0 x0) (x1 : Int32) (h1 : iv 1 1 x1) (a2 : Nat) (hl : Cond.methodLink own index yJ3_checkIndex_8e157 ∈ sg_tbl) (hsize : ls.size = nL) (hst : st0 = [.int x0, .int x1, .ref a2].reverse ++ rest) (hW : (rest.map fun v => v.category).sum ≤ 8) (hR : 1 ≤ R.frames ∧ 22 ≤ R.locals) (hf : cells ≤ R.cells ∧ slots ≤ R.slots) (hdg : decode cc pc = .ok (.invokestatic index, 3)) (kk : ∀ (r : Int32) (locs1 : List Loc), (fun r : Int32 => True) r → va_S A s.heap H locs1 → W p l e R s m args below meth c H locs1 cells slots Q (F0 m (pc + 3) ls (.int r :: rest))) : W p l e R s m args below meth c H locs cells slots Q (F0 m pc ls st0) :=
  sg_callPSi X hK hG hC hA hS hb (m_J3_checkIndex_8e157_a1 l x0 h0 x1 h1 a2) wl_7_166 wl_1_19 wl_7_165 (n := 3) (by decide +kernel) rfl rfl rfl hl hsize hst hW hR hf hdg kk

set_option maxHeartbeats 8000000 in
set_option maxRecDepth 100000 in
theorem m_J0_checkIndex_df160_1 (l : Launch) {D : va_G} {base : Nat} {tys : List (ClassId × FieldType)} {ad ks : List Nat} {P : sgPm} {Hx : Heap} (ta tv : Nat) (tb : List Int32) (x0 : Int32) (h0 : iv 0 0 x0) (x1 : Int32) (h1 : iv 1 1 x1) : sgEv l (KT P) D vwCl base tys ad ks Hx ta tv 1 tb yJ0_checkIndex_df160 cJ0_checkIndex_df160 2 none ({ frames := 1, cells := 0, slots := 0, locals := 22 }) [.int x0, .int x1] := by
  refine sg_ofE (Pq := fun Hx => va_Qv (fun (_ : Unit) => True) (fun _ t => t.heap = Hx) (fun _ : Nat => False)) (by decide +kernel) (Nat.le_of_ble_eq_true rfl) (fun p e s m below meth c X hr hlk hb hK hC hG ls hl hp => ?_)
  have hS : va_S (fun _ : Nat => False) s.heap s.heap [] := va_S.rf
  have hl : lv_has ls 2 [(0, .int x0), (1, .int x1)] := hl
  refine lv_iload_n X.1 X.2.1 dJ0_checkIndex_df160_0 rfl (lv_at hl 0 rfl) ?_
  refine lv_iload_n X.1 X.2.1 dJ0_checkIndex_df160_1 rfl (lv_at hl 1 rfl) ?_
  rcases hp.2.2.2.2.2 with z1 | ⟨tz1, z1⟩
  · refine va_gets (v := .null) X.1 X.2.1 z1 hS X.2.2.2.1 (X.2.2.2.2 _ wl_3_124) (fun _ h9 => h9) dJ0_checkIndex_df160_2 ?_
    refine ca_J3_checkIndex_8e157_n1 X hK hG hC (fun _ h => h.elim) hS hb x0 h0 x1 h1 wl_7_164 hl.1 (rest := []) rfl (Nat.le_of_ble_eq_true rfl) ⟨Nat.le_of_ble_eq_true rfl, Nat.le_of_ble_eq_true rfl⟩ ⟨Nat.le_of_ble_eq_true rfl, Nat.le_of_ble_eq_true rfl⟩ dJ0_checkIndex_df160_5 (fun f2 locs hf2 hS => ?_)
    refine lv_pop X.1 X.2.1 dJ0_checkIndex_df160_8 rfl ?_
    exact sg_vretP X hr hlk hS dJ0_checkIndex_df160_9
  · refine va_gets (v := .ref tz1) X.1 X.2.1 z1 hS X.2.2.2.1 (X.2.2.2.2 _ wl_3_124) (fun _ h9 => h9) dJ0_checkIndex_df160_2 ?_
    refine ca_J3_checkIndex_8e157_a1 X hK hG hC (fun _ h => h.elim) hS hb x0 h0 x1 h1 tz1 wl_7_164 hl.1 (rest := []) rfl (Nat.le_of_ble_eq_true rfl) ⟨Nat.le_of_ble_eq_true rfl, Nat.le_of_ble_eq_true rfl⟩ ⟨Nat.le_of_ble_eq_true rfl, Nat.le_of_ble_eq_true rfl⟩ dJ0_checkIndex_df160_5 (fun f3 locs hf3 hS => ?_)
    refine lv_pop X.1 X.2.1 dJ0_checkIndex_df160_8 rfl ?_
    exact sg_vretP X hr hlk hS dJ0_checkIndex_df160_9

theorem ca_J0_checkIndex_df160_1   (X : CallFix p m c cc nL s args sg_tbl own) (hK : va_K D vwCl tys s) (hG : sgG (KT P) D vwCl (fun q : Nat => base ≤ q) tys ad ks H) (hC : sgC base s) (hA : ∀ q : Nat, A q → base ≤ q) (hS : va_S A s.heap H locs)  (hb : base ≤ s.heap.size) {ta tv : Nat} {tb : List Int32} (hp : P_S ta tv 1 tb A s) (x0 : Int32) (h0 : iv 0 0 x0) (x1 : Int32) (h1 : iv 1 1 x1) (hl : Cond.methodLink own index yJ0_checkIndex_df160 ∈ sg_tbl) (hsize : ls.size = nL) (hst : st0 = [.int x0, .int x1].reverse ++ rest) (hW : (rest.map fun v => v.category).sum ≤ 8) (hR : 2 ≤ R.frames ∧ 43 ≤ R.locals) (hf : cells ≤ R.cells ∧ slots ≤ R.slots) (hdg : decode cc pc = .ok (.invokestatic index, 3)) (kk : ∀ (locs1 : List Loc), va_S A s.heap H locs1 → W p l e R s m args below meth c H locs1 cells slots Q (F0 m (pc + 3) ls rest)) : W p l e R s m args below meth c H locs cells slots Q (F0 m pc ls st0) :=
  sg_callESv X hK hG hC hA hS hb hp (m_J0_checkIndex_df160_1 l ta tv tb x0 h0 x1 h1) wl_7_163 wl_1_16 wl_7_162 (n := 2) (by decide +kernel) rfl rfl rfl hl hsize hst hW hR hf hdg kk

set_option maxHeartbeats 8000000 in
set_option maxRecDepth 100000 in
theorem m_J1_charAt_3b067_1 (l : Launch) {D : va_G} {base : Nat} {tys : List (ClassId × FieldType)} {ad ks : List Nat} {P : sgPm} {Hx : Heap} (ta tv : Nat) (tb : List Int32) (x1 : Int32) (h1 : iv 0 0 x1) (htb : ∀ j : Nat, j < 1 → iv 0 127 (tb.getD j 0)) : sgEi l (KT P) D vwCl base tys ad ks Hx ta tv 1 tb yJ1_charAt_3b067 cJ1_charAt_3b067 2 (some .char) ({ frames := 2, cells := 0, slots := 0, locals := 43 }) [.ref tv, .int x1] (fun r : Int32 => iv 0 127 r) := by
  refine sg_ofE (Pq := fun Hx => va_Qi (fun r (_ : Unit) => (fun r : Int32 => iv 0 127 r) r) (fun _ t => t.heap = Hx) (fun _ : Nat => False)) (by decide +kernel) (Nat.le_of_ble_eq_true rfl) (fun p e s m below meth c X hr hlk hb hK hC hG ls hl hp => ?_)
  have hS : va_S (fun _ : Nat => False) s.heap s.heap [] := va_S.rf
  have hl : lv_has ls 2 [(0, .ref tv), (1, .int x1)] := hl
  refine lv_iload_n X.1 X.2.1 dJ1_charAt_3b067_0 rfl (lv_at hl 1 rfl) ?_
  refine lv_aload_n X.1 X.2.1 dJ1_charAt_3b067_1 rfl (lv_at hl 0 rfl) ?_
  refine va_tlen X.1 X.2.1 hp.2.2.2.1 hS (v := 1) rfl dJ1_charAt_3b067_2 ?_
  refine ca_J0_checkIndex_df160_1 X hK hG hC (fun _ h => h.elim) hS hb hp x1 h1 1 (iv_c 1 (a := 1) (b := 1) (by decide +kernel)) wl_7_161 hl.1 (rest := []) rfl (Nat.le_of_ble_eq_true rfl) ⟨Nat.le_of_ble_eq_true rfl, Nat.le_of_ble_eq_true rfl⟩ ⟨Nat.le_of_ble_eq_true rfl, Nat.le_of_ble_eq_true rfl⟩ dJ1_charAt_3b067_3 (fun locs hS => ?_)
  refine lv_aload_n X.1 X.2.1 dJ1_charAt_3b067_6 rfl (lv_at hl 0 rfl) ?_
  refine lv_iload_n X.1 X.2.1 dJ1_charAt_3b067_7 rfl (lv_at hl 1 rfl) ?_
  refine va_tb X.1 X.2.1 hp.2.2.2.1 hS (i := x1) (iv_vpin h1 (by decide +kernel)) rfl dJ1_charAt_3b067_8 ?_
  refine lv_topi (fun f2 ef2 => ?_)
  refine lv_sipush (v := 255) X.1 X.2.1 dJ1_charAt_3b067_9 (by decide +kernel) ?_
  refine lv_iand X.1 X.2.1 dJ1_charAt_3b067_12 ?_
  refine lv_topi (fun f3 ef3 => ?_)
  obtain ⟨f4, ef4⟩ : ∃ y : Int32, y = ((f3 : Int32).toUInt32 % 65536).toInt32 := ⟨_, rfl⟩
  refine lv_i2c (v := f4) X.1 X.2.1 dJ1_charAt_3b067_13 ef4.symm ?_
  exact sg_zretP X hr (sg_cn (sg_i2c ef4 (iv_and' (b' := 127) ef3 (by rw [ef2]; exact htb _ (sg_inlt (iv_vpin h1 (by decide +kernel)))) (by decide +kernel)))) hlk hS (sg_i2c ef4 (iv_and' (b' := 127) ef3 (by rw [ef2]; exact htb _ (sg_inlt (iv_vpin h1 (by decide +kernel)))) (by decide +kernel))) dJ1_charAt_3b067_14

theorem ca_J1_charAt_3b067_1   (X : CallFix p m c cc nL s args sg_tbl own) (hK : va_K D vwCl tys s) (hG : sgG (KT P) D vwCl (fun q : Nat => base ≤ q) tys ad ks H) (hC : sgC base s) (hA : ∀ q : Nat, A q → base ≤ q) (hS : va_S A s.heap H locs)  (hb : base ≤ s.heap.size) {ta tv : Nat} {tb : List Int32} (hp : P_S ta tv 1 tb A s) (x1 : Int32) (h1 : iv 0 0 x1) (htb : ∀ j : Nat, j < 1 → iv 0 127 (tb.getD j 0)) (hl : Cond.methodLink own index yJ1_charAt_3b067 ∈ sg_tbl) (hsize : ls.size = nL) (hst : st0 = [.ref tv, .int x1].reverse ++ rest) (hW : (rest.map fun v => v.category).sum ≤ 8) (hR : 3 ≤ R.frames ∧ 64 ≤ R.locals) (hf : cells ≤ R.cells ∧ slots ≤ R.slots) (hdg : decode cc pc = .ok (.invokestatic index, 3)) (kk : ∀ (r : Int32) (locs1 : List Loc), (fun r : Int32 => iv 0 127 r) r → va_S A s.heap H locs1 → W p l e R s m args below meth c H locs1 cells slots Q (F0 m (pc + 3) ls (.int r :: rest))) : W p l e R s m args below meth c H locs cells slots Q (F0 m pc ls st0) :=
  sg_callESi X hK hG hC hA hS hb hp (m_J1_charAt_3b067_1 l ta tv tb x1 h1 htb) wl_7_160 wl_1_17 wl_7_159 (n := 2) (by decide +kernel) rfl rfl rfl hl hsize hst hW hR hf hdg kk

set_option maxHeartbeats 8000000 in
set_option maxRecDepth 100000 in
theorem m_J0_charAt_5068e_1 (l : Launch) {D : va_G} {base : Nat} {tys : List (ClassId × FieldType)} {ad ks : List Nat} {P : sgPm} {Hx : Heap} (ta tv : Nat) (tb : List Int32) (x1 : Int32) (h1 : iv 0 0 x1) (htb : ∀ j : Nat, j < 1 → iv 0 127 (tb.getD j 0)) : sgEi l (KT P) D vwCl base tys ad ks Hx ta tv 1 tb yJ0_charAt_5068e cJ0_charAt_5068e 2 (some .char) ({ frames := 3, cells := 0, slots := 0, locals := 64 }) [.ref ta, .int x1] (fun r : Int32 => iv 0 127 r) := by
  refine sg_ofE (Pq := fun Hx => va_Qi (fun r (_ : Unit) => (fun r : Int32 => iv 0 127 r) r) (fun _ t => t.heap = Hx) (fun _ : Nat => False)) (by decide +kernel) (Nat.le_of_ble_eq_true rfl) (fun p e s m below meth c X hr hlk hb hK hC hG ls hl hp => ?_)
  have hS : va_S (fun _ : Nat => False) s.heap s.heap [] := va_S.rf
  have hl : lv_has ls 2 [(0, .ref ta), (1, .int x1)] := hl
  refine lv_aload_n X.1 X.2.1 dJ0_charAt_5068e_0 rfl (lv_at hl 0 rfl) ?_
  refine ca_J0_isLatin1_aae02_1 X hK hG hC (fun _ h => h.elim) hS hb hp wl_3_79 hl.1 (rest := []) rfl (Nat.le_of_ble_eq_true rfl) ⟨Nat.le_of_ble_eq_true rfl, Nat.le_of_ble_eq_true rfl⟩ ⟨Nat.le_of_ble_eq_true rfl, Nat.le_of_ble_eq_true rfl⟩ dJ0_charAt_5068e_1 (fun f1 locs hf1 hS => ?_)
  refine lv_if_eq (tgt := 16) X.1 X.2.1 dJ0_charAt_5068e_4 (by decide) (fun c2 => ?_) (fun c2 => ?_)
  · exact ((iv_no (a := 1) (b := 0) (iv_eqm c2 hf1 (iv_c 0 (a := 0) (b := 0) (by decide +kernel)) (by decide +kernel)) (by decide +kernel))).elim
  · refine lv_aload_n X.1 X.2.1 dJ0_charAt_5068e_7 rfl (lv_at hl 0 rfl) ?_
    refine vk_getf (v := .ref tv) X.1 X.2.1 hp.2.2.1 hS X.2.2.2.1 (X.2.2.2.2 _ wl_9_181) (fun _ h9 => h9) dJ0_charAt_5068e_8 ?_
    refine lv_iload_n X.1 X.2.1 dJ0_charAt_5068e_11 rfl (lv_at hl 1 rfl) ?_
    refine ca_J1_charAt_3b067_1 X hK hG hC (fun _ h => h.elim) hS hb hp x1 h1 htb wl_7_158 hl.1 (rest := []) rfl (Nat.le_of_ble_eq_true rfl) ⟨Nat.le_of_ble_eq_true rfl, Nat.le_of_ble_eq_true rfl⟩ ⟨Nat.le_of_ble_eq_true rfl, Nat.le_of_ble_eq_true rfl⟩ dJ0_charAt_5068e_12 (fun f3 locs hf3 hS => ?_)
    exact sg_zretP X hr (sg_cn hf3) hlk hS hf3 dJ0_charAt_5068e_15

theorem ca_J0_charAt_5068e_1   (X : CallFix p m c cc nL s args sg_tbl own) (hK : va_K D vwCl tys s) (hG : sgG (KT P) D vwCl (fun q : Nat => base ≤ q) tys ad ks H) (hC : sgC base s) (hA : ∀ q : Nat, A q → base ≤ q) (hS : va_S A s.heap H locs)  (hb : base ≤ s.heap.size) {ta tv : Nat} {tb : List Int32} (hp : P_S ta tv 1 tb A s) (x1 : Int32) (h1 : iv 0 0 x1) (htb : ∀ j : Nat, j < 1 → iv 0 127 (tb.getD j 0)) (hl : Cond.methodLink own index yJ0_charAt_5068e ∈ sg_tbl) (hsize : ls.size = nL) (hst : st0 = [.int x1].reverse ++ .ref ta :: rest) (hW : (rest.map fun v => v.category).sum ≤ 8) (hR : 4 ≤ R.frames ∧ 85 ≤ R.locals) (hf : cells ≤ R.cells ∧ slots ≤ R.slots) (hdg : decode cc pc = .ok (.invokevirtual index, 3)) (kk : ∀ (r : Int32) (locs1 : List Loc), (fun r : Int32 => iv 0 127 r) r → va_S A s.heap H locs1 → W p l e R s m args below meth c H locs1 cells slots Q (F0 m (pc + 3) ls (.int r :: rest))) : W p l e R s m args below meth c H locs cells slots Q (F0 m pc ls st0) :=
  sg_callEVi X hK hG hC hA hS hb hp (m_J0_charAt_5068e_1 l ta tv tb x1 h1 htb) wl_7_157 wl_1_16 wl_7_155 wl_7_156 (n := 1) (by decide +kernel) rfl rfl rfl hl hsize hst hW hR hf hdg kk

set_option maxHeartbeats 8000000 in
set_option maxRecDepth 100000 in
theorem m_X12_isAmong_1 (l : Launch) {D : va_G} {base : Nat} {tys : List (ClassId × FieldType)} {ad ks : List Nat} {P : sgPm} {Hx : Heap} (ta tv : Nat) (tb : List Int32) (x1 : Int32) (htb : ∀ j : Nat, j < 1 → iv 0 127 (tb.getD j 0)) : sgEi l (KT P) D vwCl base tys ad ks Hx ta tv 1 tb yX12_isAmong cX12_isAmong 3 (some .boolean) ({ frames := 4, cells := 0, slots := 0, locals := 85 }) [.ref ta, .int x1] (fun r : Int32 => iv 0 1 r ∧ (¬ r = 0 → iv 0 127 x1)) := by
  refine sg_ofE (Pq := fun Hx => va_Qi (fun r (_ : Unit) => (fun r : Int32 => iv 0 1 r ∧ (¬ r = 0 → iv 0 127 x1)) r) (fun _ t => t.heap = Hx) (fun _ : Nat => False)) (by decide +kernel) (Nat.le_of_ble_eq_true rfl) (fun p e s m below meth c X hr hlk hb hK hC hG ls hl hp => ?_)
  have hS : va_S (fun _ : Nat => False) s.heap s.heap [] := va_S.rf
  have hl : lv_has ls 3 [(0, .ref ta), (1, .int x1)] := hl
  refine lv_iconst (v := 0) X.1 X.2.1 dX12_isAmong_0 (by decide +kernel) ?_
  refine lv_istore_n (lv' := [(2, .int 0), (0, .ref ta), (1, .int x1)]) X.1 X.2.1 dX12_isAmong_1 rfl hl (by decide) rfl (fun ls hl => ?_)
  have B1_2 : ∀ (N : Nat) (locs : List Loc) (ls : Array Slot) (z1_2 : Int32), va_S (fun _ : Nat => False) s.heap s.heap locs → lv_has ls 3 [(0, .ref ta), (1, .int x1), (2, .int z1_2)] → iv 0 1 z1_2 → (2 - z1_2.toInt).toNat ≤ N → W p l e (headSpec (Cond.code yX12_isAmong cX12_isAmong 3 (some .boolean) :: sg_tbl) ({ frames := 4, cells := 0, slots := 0, locals := 85 })).room s m #[.ref ta, .int x1] below meth c s.heap locs 0 0 (MQ below (va_Qi (fun r (_ : Unit) => (fun r : Int32 => iv 0 1 r ∧ (¬ r = 0 → iv 0 127 x1)) r) (fun _ t => t.heap = s.heap) (fun _ : Nat => False)) #[.ref ta, .int x1] s 0 0 (fun _ : Nat => False)) (F0 m 2 ls []) := by
    intro N; induction N with
    | zero =>
      intro locs ls z1_2 hS hl hz1_2 hN
      exact absurd hN (by have := iv_up hz1_2; omega)
    | succ N ih1 =>
      intro locs ls z1_2 hS hl hz1_2 hN1
      refine lv_iload_n X.1 X.2.1 dX12_isAmong_2 rfl (lv_at hl 2 rfl) ?_
      refine lv_aload_n X.1 X.2.1 dX12_isAmong_3 rfl (lv_at hl 0 rfl) ?_
      refine ca_J0_length_8abf5_1 X hK hG hC (fun _ h => h.elim) hS hb hp wl_7_150 hl.1 (rest := [.int z1_2]) rfl (Nat.le_of_ble_eq_true rfl) ⟨Nat.le_of_ble_eq_true rfl, Nat.le_of_ble_eq_true rfl⟩ ⟨Nat.le_of_ble_eq_true rfl, Nat.le_of_ble_eq_true rfl⟩ dX12_isAmong_4 (fun f2 locs hf2 hS => ?_)
      refine lv_icmp_ge (tgt := 27) X.1 X.2.1 dX12_isAmong_7 (by decide) (fun c3 => ?_) (fun c3 => ?_)
      · refine lv_iconst (v := 0) X.1 X.2.1 dX12_isAmong_27 (by decide +kernel) ?_
        exact sg_zretP X hr (sg_zn (iv_of (iv_c 0 (a := 0) (b := 0) (by decide +kernel)) (a' := 0) (b' := 1) (by decide +kernel))) hlk hS ⟨(iv_of (iv_c 0 (a := 0) (b := 0) (by decide +kernel)) (a' := 0) (b' := 1) (by decide +kernel)), fun h => absurd rfl h⟩ dX12_isAmong_28
      · refine lv_aload_n X.1 X.2.1 dX12_isAmong_10 rfl (lv_at hl 0 rfl) ?_
        refine lv_iload_n X.1 X.2.1 dX12_isAmong_11 rfl (lv_at hl 2 rfl) ?_
        refine ca_J0_charAt_5068e_1 X hK hG hC (fun _ h => h.elim) hS hb hp z1_2 (iv_lt (b' := 0) (iv_gt_of c3) hz1_2 hf2 (by decide +kernel)) htb wl_7_154 hl.1 (rest := []) rfl (Nat.le_of_ble_eq_true rfl) ⟨Nat.le_of_ble_eq_true rfl, Nat.le_of_ble_eq_true rfl⟩ ⟨Nat.le_of_ble_eq_true rfl, Nat.le_of_ble_eq_true rfl⟩ dX12_isAmong_12 (fun f4 locs hf4 hS => ?_)
        refine lv_iload_n X.1 X.2.1 dX12_isAmong_15 rfl (lv_at hl 1 rfl) ?_
        refine lv_icmp_ne (tgt := 21) X.1 X.2.1 dX12_isAmong_16 (by decide) (fun c5 => ?_) (fun c5 => ?_)
        · obtain ⟨y6, ey6⟩ : ∃ y : Int32, y = z1_2 + Int32.ofInt 1 := ⟨_, rfl⟩
          refine lv_iinc (v := y6) (lv' := [(2, .int y6), (0, .ref ta), (1, .int x1)]) X.1 X.2.1 dX12_isAmong_21 hl (k := 2) rfl ey6.symm (by decide) rfl (fun ls hl => ?_)
          refine lv_goto (tgt := 2) X.1 X.2.1 dX12_isAmong_24 (by decide) ?_
          exact ih1 _ _ y6 hS (lv_sub hl [1, 2, 0] rfl) (iv_of (iv_add (a' := 1) (b' := 1) ey6 (iv_lt (b' := 0) (iv_gt_of c3) hz1_2 hf2 (by decide +kernel)) (iv_c _ (a := 1) (b := 1) (by decide +kernel)) (by decide +kernel)) (a' := 0) (b' := 1) (by decide +kernel)) (iv_stepU ey6 (iv_lt (b' := 0) (iv_gt_of c3) hz1_2 hf2 (by decide +kernel)) (by decide +kernel) hN1)
        · refine lv_iconst (v := 1) X.1 X.2.1 dX12_isAmong_19 (by decide +kernel) ?_
          exact sg_zretP X hr (sg_zn (iv_of (iv_c 1 (a := 1) (b := 1) (by decide +kernel)) (a' := 0) (b' := 1) (by decide +kernel))) hlk hS ⟨(iv_of (iv_c 1 (a := 1) (b := 1) (by decide +kernel)) (a' := 0) (b' := 1) (by decide +kernel)), fun h => (iv_eqm (a' := 0) (b' := 127) (Eq.symm c5) (iv_top x1) hf4 (by decide +kernel))⟩ dX12_isAmong_20
  exact B1_2 _ _ _ 0 hS (lv_sub hl [1, 2, 0] rfl) (iv_of (iv_c 0 (a := 0) (b := 0) (by decide +kernel)) (a' := 0) (b' := 1) (by decide +kernel)) (Nat.le_refl _)

theorem ca_X12_isAmong_1   (X : CallFix p m c cc nL s args sg_tbl own) (hK : va_K D vwCl tys s) (hG : sgG (KT P) D vwCl (fun q : Nat => base ≤ q) tys ad ks H) (hC : sgC base s) (hA : ∀ q : Nat, A q → base ≤ q) (hS : va_S A s.heap H locs)  (hb : base ≤ s.heap.size) {ta tv : Nat} {tb : List Int32} (hp : P_S ta tv 1 tb A s) (x1 : Int32) (htb : ∀ j : Nat, j < 1 → iv 0 127 (tb.getD j 0)) (hl : Cond.methodLink own index yX12_isAmong ∈ sg_tbl) (hsize : ls.size = nL) (hst : st0 = [.ref ta, .int x1].reverse ++ rest) (hW : (rest.map fun v => v.category).sum ≤ 8) (hR : 5 ≤ R.frames ∧ 107 ≤ R.locals) (hf : cells ≤ R.cells ∧ slots ≤ R.slots) (hdg : decode cc pc = .ok (.invokestatic index, 3)) (kk : ∀ (r : Int32) (locs1 : List Loc), (fun r : Int32 => iv 0 1 r ∧ (¬ r = 0 → iv 0 127 x1)) r → va_S A s.heap H locs1 → W p l e R s m args below meth c H locs1 cells slots Q (F0 m (pc + 3) ls (.int r :: rest))) : W p l e R s m args below meth c H locs cells slots Q (F0 m pc ls st0) :=
  sg_callESi X hK hG hC hA hS hb hp (m_X12_isAmong_1 l ta tv tb x1 htb) wl_7_216 wl_1_13 wl_7_215 (n := 2) (by decide +kernel) rfl rfl rfl hl hsize hst hW hR hf hdg kk

set_option maxHeartbeats 8000000 in
set_option maxRecDepth 100000 in
theorem m_X12_spotOf_1 (l : Launch) {D : va_G} {base : Nat} {tys : List (ClassId × FieldType)} {ad ks : List Nat} {P : sgPm} {Hx : Heap} (ta tv : Nat) (tb : List Int32) (x1 : Int32) (htb : ∀ j : Nat, j < 1 → iv 0 127 (tb.getD j 0)) : sgEi l (KT P) D vwCl base tys ad ks Hx ta tv 1 tb yX12_spotOf cX12_spotOf 3 (some .int) ({ frames := 4, cells := 0, slots := 0, locals := 85 }) [.ref ta, .int x1] (fun r : Int32 => iv (-1) 0 r ∧ (r = -1 ∨ iv 0 127 x1)) := by
  refine sg_ofE (Pq := fun Hx => va_Qi (fun r (_ : Unit) => (fun r : Int32 => iv (-1) 0 r ∧ (r = -1 ∨ iv 0 127 x1)) r) (fun _ t => t.heap = Hx) (fun _ : Nat => False)) (by decide +kernel) (Nat.le_of_ble_eq_true rfl) (fun p e s m below meth c X hr hlk hb hK hC hG ls hl hp => ?_)
  have hS : va_S (fun _ : Nat => False) s.heap s.heap [] := va_S.rf
  have hl : lv_has ls 3 [(0, .ref ta), (1, .int x1)] := hl
  refine lv_iconst (v := 0) X.1 X.2.1 dX12_spotOf_0 (by decide +kernel) ?_
  refine lv_istore_n (lv' := [(2, .int 0), (0, .ref ta), (1, .int x1)]) X.1 X.2.1 dX12_spotOf_1 rfl hl (by decide) rfl (fun ls hl => ?_)
  have B1_2 : ∀ (N : Nat) (locs : List Loc) (ls : Array Slot) (z1_2 : Int32), va_S (fun _ : Nat => False) s.heap s.heap locs → lv_has ls 3 [(0, .ref ta), (1, .int x1), (2, .int z1_2)] → iv 0 1 z1_2 → (2 - z1_2.toInt).toNat ≤ N → W p l e (headSpec (Cond.code yX12_spotOf cX12_spotOf 3 (some .int) :: sg_tbl) ({ frames := 4, cells := 0, slots := 0, locals := 85 })).room s m #[.ref ta, .int x1] below meth c s.heap locs 0 0 (MQ below (va_Qi (fun r (_ : Unit) => (fun r : Int32 => iv (-1) 0 r ∧ (r = -1 ∨ iv 0 127 x1)) r) (fun _ t => t.heap = s.heap) (fun _ : Nat => False)) #[.ref ta, .int x1] s 0 0 (fun _ : Nat => False)) (F0 m 2 ls []) := by
    intro N; induction N with
    | zero =>
      intro locs ls z1_2 hS hl hz1_2 hN
      exact absurd hN (by have := iv_up hz1_2; omega)
    | succ N ih1 =>
      intro locs ls z1_2 hS hl hz1_2 hN1
      refine lv_iload_n X.1 X.2.1 dX12_spotOf_2 rfl (lv_at hl 2 rfl) ?_
      refine lv_aload_n X.1 X.2.1 dX12_spotOf_3 rfl (lv_at hl 0 rfl) ?_
      refine ca_J0_length_8abf5_1 X hK hG hC (fun _ h => h.elim) hS hb hp wl_7_150 hl.1 (rest := [.int z1_2]) rfl (Nat.le_of_ble_eq_true rfl) ⟨Nat.le_of_ble_eq_true rfl, Nat.le_of_ble_eq_true rfl⟩ ⟨Nat.le_of_ble_eq_true rfl, Nat.le_of_ble_eq_true rfl⟩ dX12_spotOf_4 (fun f2 locs hf2 hS => ?_)
      refine lv_icmp_ge (tgt := 27) X.1 X.2.1 dX12_spotOf_7 (by decide) (fun c3 => ?_) (fun c3 => ?_)
      · refine lv_iconst (v := (-1)) X.1 X.2.1 dX12_spotOf_27 (by decide +kernel) ?_
        exact sg_iretP X hr hlk hS ⟨(iv_of (iv_c (-1) (a := (-1)) (b := (-1)) (by decide +kernel)) (a' := (-1)) (b' := 0) (by decide +kernel)), Or.inl rfl⟩ dX12_spotOf_28
      · refine lv_aload_n X.1 X.2.1 dX12_spotOf_10 rfl (lv_at hl 0 rfl) ?_
        refine lv_iload_n X.1 X.2.1 dX12_spotOf_11 rfl (lv_at hl 2 rfl) ?_
        refine ca_J0_charAt_5068e_1 X hK hG hC (fun _ h => h.elim) hS hb hp z1_2 (iv_lt (b' := 0) (iv_gt_of c3) hz1_2 hf2 (by decide +kernel)) htb wl_7_154 hl.1 (rest := []) rfl (Nat.le_of_ble_eq_true rfl) ⟨Nat.le_of_ble_eq_true rfl, Nat.le_of_ble_eq_true rfl⟩ ⟨Nat.le_of_ble_eq_true rfl, Nat.le_of_ble_eq_true rfl⟩ dX12_spotOf_12 (fun f4 locs hf4 hS => ?_)
        refine lv_iload_n X.1 X.2.1 dX12_spotOf_15 rfl (lv_at hl 1 rfl) ?_
        refine lv_icmp_ne (tgt := 21) X.1 X.2.1 dX12_spotOf_16 (by decide) (fun c5 => ?_) (fun c5 => ?_)
        · obtain ⟨y6, ey6⟩ : ∃ y : Int32, y = z1_2 + Int32.ofInt 1 := ⟨_, rfl⟩
          refine lv_iinc (v := y6) (lv' := [(2, .int y6), (0, .ref ta), (1, .int x1)]) X.1 X.2.1 dX12_spotOf_21 hl (k := 2) rfl ey6.symm (by decide) rfl (fun ls hl => ?_)
          refine lv_goto (tgt := 2) X.1 X.2.1 dX12_spotOf_24 (by decide) ?_
          exact ih1 _ _ y6 hS (lv_sub hl [1, 2, 0] rfl) (iv_of (iv_add (a' := 1) (b' := 1) ey6 (iv_lt (b' := 0) (iv_gt_of c3) hz1_2 hf2 (by decide +kernel)) (iv_c _ (a := 1) (b := 1) (by decide +kernel)) (by decide +kernel)) (a' := 0) (b' := 1) (by decide +kernel)) (iv_stepU ey6 (iv_lt (b' := 0) (iv_gt_of c3) hz1_2 hf2 (by decide +kernel)) (by decide +kernel) hN1)
        · refine lv_iload_n X.1 X.2.1 dX12_spotOf_19 rfl (lv_at hl 2 rfl) ?_
          exact sg_iretP X hr hlk hS ⟨(iv_of (iv_lt (b' := 0) (iv_gt_of c3) hz1_2 hf2 (by decide +kernel)) (a' := (-1)) (b' := 0) (by decide +kernel)), Or.inr (iv_eqm (a' := 0) (b' := 127) (Eq.symm c5) (iv_top x1) hf4 (by decide +kernel))⟩ dX12_spotOf_20
  exact B1_2 _ _ _ 0 hS (lv_sub hl [1, 2, 0] rfl) (iv_of (iv_c 0 (a := 0) (b := 0) (by decide +kernel)) (a' := 0) (b' := 1) (by decide +kernel)) (Nat.le_refl _)

theorem ca_X12_spotOf_1   (X : CallFix p m c cc nL s args sg_tbl own) (hK : va_K D vwCl tys s) (hG : sgG (KT P) D vwCl (fun q : Nat => base ≤ q) tys ad ks H) (hC : sgC base s) (hA : ∀ q : Nat, A q → base ≤ q) (hS : va_S A s.heap H locs)  (hb : base ≤ s.heap.size) {ta tv : Nat} {tb : List Int32} (hp : P_S ta tv 1 tb A s) (x1 : Int32) (htb : ∀ j : Nat, j < 1 → iv 0 127 (tb.getD j 0)) (hl : Cond.methodLink own index yX12_spotOf ∈ sg_tbl) (hsize : ls.size = nL) (hst : st0 = [.ref ta, .int x1].reverse ++ rest) (hW : (rest.map fun v => v.category).sum ≤ 8) (hR : 5 ≤ R.frames ∧ 107 ≤ R.locals) (hf : cells ≤ R.cells ∧ slots ≤ R.slots) (hdg : decode cc pc = .ok (.invokestatic index, 3)) (kk : ∀ (r : Int32) (locs1 : List Loc), (fun r : Int32 => iv (-1) 0 r ∧ (r = -1 ∨ iv 0 127 x1)) r → va_S A s.heap H locs1 → W p l e R s m args below meth c H locs1 cells slots Q (F0 m (pc + 3) ls (.int r :: rest))) : W p l e R s m args below meth c H locs cells slots Q (F0 m pc ls st0) :=
  sg_callESi X hK hG hC hA hS hb hp (m_X12_spotOf_1 l ta tv tb x1 htb) wl_7_153 wl_1_13 wl_7_152 (n := 2) (by decide +kernel) rfl rfl rfl hl hsize hst hW hR hf hdg kk

set_option maxHeartbeats 8000000 in
set_option maxRecDepth 100000 in
theorem m_X12_within (l : Launch) {D : va_G} {base : Nat} {tys : List (ClassId × FieldType)} {ad ks : List Nat} {P : sgPm} {Hx : Heap} (x0 : Int64) : sgPi l (KT P) D vwCl base tys ad ks Hx yX12_within cX12_within 2 (some .int) ({ frames := 1, cells := 0, slots := 0, locals := 17 }) [.long x0] (fun r : Int32 => True) := by
  refine sg_ofP (Pq := fun Hx => va_Qi (fun r (_ : Unit) => (fun r : Int32 => True) r) (fun _ t => t.heap = Hx) (fun _ : Nat => False)) (by decide +kernel) (Nat.le_of_ble_eq_true rfl) (fun p e s m below meth c X hr hlk hb hK hC hG ls hl => ?_)
  have hS : va_S (fun _ : Nat => False) s.heap s.heap [] := va_S.rf
  have hl : lv_has ls 2 [(0, .long x0)] := hl
  refine lv_ldc2 X.1 X.2.1 X.2.2.2.1 (X.2.2.2.2 _ wl_8_12) dX12_within_0 ?_
  refine lv_ldc2 X.1 X.2.1 X.2.2.2.1 (X.2.2.2.2 _ wl_8_13) dX12_within_3 ?_
  refine lv_lload_n X.1 X.2.1 dX12_within_6 rfl (lv_at hl 0 rfl) ?_
  refine va_mmin_long X.1 X.2.1 (X.2.2.1.trans hl.1.symm) X.2.2.2.1 (X.2.2.2.2 _ wl_8_14) (X.2.2.2.2 _ wl_8_15) (X.2.2.2.2 _ wl_1_15) (X.2.2.2.2 _ wl_8_16) (Nat.le_of_ble_eq_true rfl) (Nat.le_of_ble_eq_true rfl) (Nat.le_of_ble_eq_true rfl) (Nat.le_of_ble_eq_true rfl) dX12_within_7 ?_
  refine lv_topl (fun g1 eg1 => ?_)
  refine va_mmax_long X.1 X.2.1 (X.2.2.1.trans hl.1.symm) X.2.2.2.1 (X.2.2.2.2 _ wl_8_17) (X.2.2.2.2 _ wl_8_18) (X.2.2.2.2 _ wl_1_15) (X.2.2.2.2 _ wl_8_19) (Nat.le_of_ble_eq_true rfl) (Nat.le_of_ble_eq_true rfl) (Nat.le_of_ble_eq_true rfl) (Nat.le_of_ble_eq_true rfl) dX12_within_10 ?_
  refine lv_topl (fun g2 eg2 => ?_)
  obtain ⟨f3, ef3⟩ : ∃ y : Int32, y = (g2 : Int64).toInt32 := ⟨_, rfl⟩
  refine lv_l2i (v := f3) X.1 X.2.1 dX12_within_13 ef3.symm ?_
  exact sg_iretP X hr hlk hS trivial dX12_within_14

theorem ca_X12_within   (X : CallFix p m c cc nL s args sg_tbl own) (hK : va_K D vwCl tys s) (hG : sgG (KT P) D vwCl (fun q : Nat => base ≤ q) tys ad ks H) (hC : sgC base s) (hA : ∀ q : Nat, A q → base ≤ q) (hS : va_S A s.heap H locs) (hb : base ≤ s.heap.size) (x0 : Int64) (hl : Cond.methodLink own index yX12_within ∈ sg_tbl) (hsize : ls.size = nL) (hst : st0 = [.long x0].reverse ++ rest) (hW : (rest.map fun v => v.category).sum ≤ 8) (hR : 2 ≤ R.frames ∧ 38 ≤ R.locals) (hf : cells ≤ R.cells ∧ slots ≤ R.slots) (hdg : decode cc pc = .ok (.invokestatic index, 3)) (kk : ∀ (r : Int32) (locs1 : List Loc), (fun r : Int32 => True) r → va_S A s.heap H locs1 → W p l e R s m args below meth c H locs1 cells slots Q (F0 m (pc + 3) ls (.int r :: rest))) : W p l e R s m args below meth c H locs cells slots Q (F0 m pc ls st0) :=
  sg_callPSi X hK hG hC hA hS hb (m_X12_within l x0) wl_8_11 wl_1_13 wl_8_10 (n := 1) (by decide +kernel) rfl rfl rfl hl hsize hst hW hR hf hdg kk

set_option maxHeartbeats 8000000 in
set_option maxRecDepth 100000 in
theorem m_X12_fails (l : Launch) {D : va_G} {base : Nat} {tys : List (ClassId × FieldType)} {ad ks : List Nat} {P : sgPm}{b : Bool} {d : Int} {lo mr f : Int}  (a0 : Nat) (h0 : isK ad ks 12 a0) (hlo : 0 ≤ lo ∧ lo ≤ 241 ∧ -1 ≤ f ∧ f ≤ 0 ∧ 0 ≤ mr) : sgMi l (KR b d lo 241 mr f P) D vwCl base tys ad ks yX12_fails cX12_fails 1 (some .boolean) ({ frames := 0, cells := 0, slots := 0, locals := 0 }) [.ref a0] (fun r : Int32 => iv 0 0 r) := by
  refine sg_ofW (by decide +kernel) (Nat.le_of_ble_eq_true rfl) (fun p e s m below meth c X hr hlk hb hK hC hG ls hl => ?_)
  have hS : va_S (fun q : Nat => base ≤ q) s.heap s.heap [] := va_S.rf
  have hl : lv_has ls 1 [(0, .ref a0)] := hl
  refine lv_aload_n X.1 X.2.1 dX12_fails_0 rfl (lv_at hl 0 rfl) ?_
  refine gf_X12_11r X hK hG h0 wl_6_189 dX12_fails_1 (fun f1 hf1 kf1 => ?_)
  have ⟨laf1, uaf1⟩ : f ≤ f1.toInt ∧ f1.toInt ≤ 241 := hf1
  have hf1 : iv (-1) 241 f1 := ⟨by omega, by omega⟩
  refine lv_iconst (v := (-1)) X.1 X.2.1 dX12_fails_4 (by decide +kernel) ?_
  refine lv_icmp_ne (tgt := 16) X.1 X.2.1 dX12_fails_5 (by decide) (fun c2 => ?_) (fun c2 => ?_)
  · refine lv_iconst (v := 0) X.1 X.2.1 dX12_fails_16 (by decide +kernel) ?_
    exact sg_zret X hr (sg_zn (iv_of (iv_c 0 (a := 0) (b := 0) (by decide +kernel)) (a' := 0) (b' := 1) (by decide +kernel))) hlk hb hK hC hG hS (iv_c 0 (a := 0) (b := 0) (by decide +kernel)) dX12_fails_17
  · refine lv_aload_n X.1 X.2.1 dX12_fails_8 rfl (lv_at hl 0 rfl) ?_
    refine lv_aload_n X.1 X.2.1 dX12_fails_9 rfl (lv_at hl 0 rfl) ?_
    refine gf_X12_10r X hK hG h0 wl_6_188 dX12_fails_10 (fun f3 hf3 kf3 => ?_)
    have ⟨laf3, uaf3⟩ : lo ≤ f3.toInt ∧ f3.toInt ≤ 241 := hf3
    have hf3 : iv 0 241 f3 := ⟨by omega, by omega⟩
    refine pf_X12_11r X hK hG hS h0 wl_6_189 ⟨_, rfl, Int.le_trans (by omega) (hf3).1, (hf3).2⟩ dX12_fails_13 (fun H locs hG hS ku4 ru4 => ?_)
    refine lv_iconst (v := 0) X.1 X.2.1 dX12_fails_16 (by decide +kernel) ?_
    exact sg_zret X hr (sg_zn (iv_of (iv_c 0 (a := 0) (b := 0) (by decide +kernel)) (a' := 0) (b' := 1) (by decide +kernel))) hlk hb hK hC hG hS (iv_c 0 (a := 0) (b := 0) (by decide +kernel)) dX12_fails_17

theorem ca_X12_fails  {b : Bool} {d : Int} {lo mr f : Int}  (X : CallFix p m c cc nL s args sg_tbl own) (hK : va_K D vwCl tys s) (hG : sgG (KR b d lo 241 mr f P) D vwCl (fun q : Nat => base ≤ q) tys ad ks H) (hC : sgC base s) (hS : va_S (fun q : Nat => base ≤ q) s.heap H locs) (hb : base ≤ s.heap.size) (a0 : Nat) (h0 : isK ad ks 12 a0) (hlo : 0 ≤ lo ∧ lo ≤ 241 ∧ -1 ≤ f ∧ f ≤ 0 ∧ 0 ≤ mr) (hl : Cond.methodLink own index yX12_fails ∈ sg_tbl) (hsize : ls.size = nL) (hst : st0 = [].reverse ++ .ref a0 :: rest) (hW : (rest.map fun v => v.category).sum ≤ 8) (hR : 1 ≤ R.frames ∧ 20 ≤ R.locals) (hf : cells ≤ R.cells ∧ slots ≤ R.slots) (hdg : decode cc pc = .ok (.invokevirtual index, 3)) (kk : ∀ (r : Int32) (H1 : Heap) (locs1 : List Loc), (fun r : Int32 => iv 0 0 r) r → sgG (KR b d lo 241 mr f P) D vwCl (fun q : Nat => base ≤ q) tys ad ks H1 → va_S (fun q : Nat => base ≤ q) s.heap H1 locs1 → W p l e R s m args below meth c H1 locs1 cells slots Q (F0 m (pc + 3) ls (.int r :: rest))) : W p l e R s m args below meth c H locs cells slots Q (F0 m pc ls st0) :=
  sg_callVi X hK hG hC hS hb (m_X12_fails l a0 h0 hlo) h0 (k := 12) (ci := 12) rfl (C := RX12) (T := TX12) (N := 53) rfl wl_7_144 wl_1_13 wl_7_143 wl_0_53 (n := 0) (by decide +kernel) rfl rfl rfl hl hsize hst hW hR hf hdg kk

set_option maxHeartbeats 8000000 in
set_option maxRecDepth 100000 in
theorem m_X12_look (l : Launch) {D : va_G} {base : Nat} {tys : List (ClassId × FieldType)} {ad ks : List Nat} {P : sgPm}{b : Bool} {d : Int} {lo mr f : Int} {hi : Int}  (a0 : Nat) (h0 : isK ad ks 12 a0) (hlo : 0 ≤ lo ∧ lo ≤ 241 ∧ -1 ≤ f ∧ f ≤ 0 ∧ 0 ≤ mr) (hhi : 240 ≤ hi ∧ hi ≤ 241 ∧ lo ≤ hi) : Met l yX12_look (Cond.code yX12_look cX12_look 1 (some .int) :: sg_tbl) ({ frames := 0, cells := 0, slots := 0, locals := 0 }) (va_Pc [.ref a0] (sgB (KR b d lo hi mr f P) D vwCl base tys ad ks)) (va_Qi (fun r (u : Int32) => u = r ∧ (fun r : Int32 => iv (-1) 255 r) r) (fun u t => sgLk b d lo hi mr f P D base tys ad ks a0 u t) (fun q : Nat => base ≤ q)) 0 0 (fun q : Nat => base ≤ q) := by
  refine sg_ofW (by decide +kernel) (Nat.le_of_ble_eq_true rfl) (fun p e s m below meth c X hr hlk hb hK hC hG ls hl => ?_)
  have hS : va_S (fun q : Nat => base ≤ q) s.heap s.heap [] := va_S.rf
  have hl : lv_has ls 1 [(0, .ref a0)] := hl
  have B1_0 : ∀ (N : Nat) (H : Heap) (locs : List Loc) (ls : Array Slot) (lo1 : Int), lo ≤ lo1 → lo1 ≤ hi → sgG (KR b d lo1 hi mr f P) D vwCl (fun q : Nat => base ≤ q) tys ad ks H → va_S (fun q : Nat => base ≤ q) s.heap H locs → lv_has ls 1 [(0, .ref a0)] → (242 - lo1).toNat ≤ N → W p l e (headSpec (Cond.code yX12_look cX12_look 1 (some .int) :: sg_tbl) ({ frames := 0, cells := 0, slots := 0, locals := 0 })).room s m #[.ref a0] below meth c H locs 0 0 (MQ below (va_Qi (fun r (u : Int32) => u = r ∧ (fun r : Int32 => iv (-1) 255 r) r) (fun u t => sgLk b d lo hi mr f P D base tys ad ks a0 u t) (fun q : Nat => base ≤ q)) #[.ref a0] s 0 0 (fun q : Nat => base ≤ q)) (F0 m 0 ls []) := by
    intro N; induction N with
    | zero =>
      intro H locs ls lo1 jl1 jm1 hG hS hl hN
      exact absurd hN (by have := jm1; omega)
    | succ N ih1 =>
      intro H locs ls lo1 jl1 jm1 hG hS hl hN1
      refine lv_aload_n X.1 X.2.1 dX12_look_0 rfl (lv_at hl 0 rfl) ?_
      refine gf_X12_10r X hK hG h0 wl_6_188 dX12_look_1 (fun f2 hf2 kf2 => ?_)
      have ⟨laf2, uaf2⟩ : lo1 ≤ f2.toInt ∧ f2.toInt ≤ hi := hf2
      have hf2 : iv 0 241 f2 := ⟨by omega, by omega⟩
      refine lv_aload_n X.1 X.2.1 dX12_look_4 rfl (lv_at hl 0 rfl) ?_
      refine gf_X12_9r X hK hG h0 wl_6_187 dX12_look_5 (fun f3 hf3 kf3 => ?_)
      have B5_43 : ∀ (locs : List Loc) (ls : Array Slot), va_S (fun q : Nat => base ≤ q) s.heap H locs → lv_has ls 1 [(0, .ref a0)] → W p l e (headSpec (Cond.code yX12_look cX12_look 1 (some .int) :: sg_tbl) ({ frames := 0, cells := 0, slots := 0, locals := 0 })).room s m #[.ref a0] below meth c H locs 0 0 (MQ below (va_Qi (fun r (u : Int32) => u = r ∧ (fun r : Int32 => iv (-1) 255 r) r) (fun u t => sgLk b d lo hi mr f P D base tys ad ks a0 u t) (fun q : Nat => base ≤ q)) #[.ref a0] s 0 0 (fun q : Nat => base ≤ q)) (F0 m 43 ls []) := by
        intro locs ls hS hl
        refine lv_aload_n X.1 X.2.1 dX12_look_43 rfl (lv_at hl 0 rfl) ?_
        refine gg_X12_10r X hK hG h0 wl_6_188 kf2 dX12_look_44 ?_
        refine lv_aload_n X.1 X.2.1 dX12_look_47 rfl (lv_at hl 0 rfl) ?_
        refine gg_X12_9r X hK hG h0 wl_6_187 kf3 dX12_look_48 ?_
        refine lv_icmp_ge (tgt := 75) X.1 X.2.1 dX12_look_51 (by decide) (fun c6 => ?_) (fun c6 => ?_)
        · refine lv_iconst (v := (-1)) X.1 X.2.1 dX12_look_75 (by decide +kernel) ?_
          have lw76 : ((-1) : Int32) = -1 ∨ iv lo 239 f2 := Or.inl rfl
          have hG := sgr_weak (d' := d) (lo' := lo) (hi' := hi) (f' := f) hG (by omega) (by omega) (by omega) (by omega)
          exact sg_iret2 X hr hlk hS (iv_of (iv_c (-1) (a := (-1)) (b := (-1)) (by decide +kernel)) (a' := (-1)) (b' := 255) (by decide +kernel)) (fun t ht hW => ⟨sg_post hb hK hC hG hS ht hW, f2, by rw [ht]; exact kf2, ⟨by omega, by omega⟩, lw76⟩) dX12_look_76
        · refine lv_aload_n X.1 X.2.1 dX12_look_54 rfl (lv_at hl 0 rfl) ?_
          refine gf_X12_5r X hK hG h0 wl_6_183 dX12_look_55 (fun q7 hq7 kq7 => ?_)
          refine lv_aload_n X.1 X.2.1 dX12_look_58 rfl (lv_at hl 0 rfl) ?_
          refine gf_X12_8r X hK hG h0 wl_6_186 dX12_look_59 (fun f8 hf8 kf8 => ?_)
          refine lv_aload_n X.1 X.2.1 dX12_look_62 rfl (lv_at hl 0 rfl) ?_
          refine gg_X12_10r X hK hG h0 wl_6_188 kf2 dX12_look_63 ?_
          refine lv_iadd X.1 X.2.1 dX12_look_66 ?_
          refine lv_topi (fun f9 ef9 => ?_)
          refine al_txt X hK hG hq7 hf8 (iv_lt (b' := 239) (iv_gt_of c6) hf2 hf3 (by decide +kernel)) ef9 dX12_look_67 (fun f10 => ?_)
          refine lv_sipush (v := 255) X.1 X.2.1 dX12_look_68 (by decide +kernel) ?_
          refine lv_iand X.1 X.2.1 dX12_look_71 ?_
          refine lv_topi (fun f11 ef11 => ?_)
          refine lv_goto (tgt := 76) X.1 X.2.1 dX12_look_72 (by decide) ?_
          have lw76 : (f11 : Int32) = -1 ∨ iv lo 239 f2 := Or.inr ⟨by omega, ((iv_lt (b' := 239) (iv_gt_of c6) hf2 hf3 (by decide +kernel))).2⟩
          have hG := sgr_weak (d' := d) (lo' := lo) (hi' := hi) (f' := f) hG (by omega) (by omega) (by omega) (by omega)
          exact sg_iret2 X hr hlk hS (iv_of (iv_and (b' := 255) ef11 (iv_c 255 (a := 255) (b := 255) (by decide +kernel)) (by decide +kernel)) (a' := (-1)) (b' := 255) (by decide +kernel)) (fun t ht hW => ⟨sg_post hb hK hC hG hS ht hW, f2, by rw [ht]; exact kf2, ⟨by omega, by omega⟩, lw76⟩) dX12_look_76
      refine lv_icmp_ge (tgt := 43) X.1 X.2.1 dX12_look_8 (by decide) (fun c4 => ?_) (fun c4 => ?_)
      · exact B5_43 _ _ hS (lv_sub hl [0] rfl)
      · refine lv_aload_n X.1 X.2.1 dX12_look_11 rfl (lv_at hl 0 rfl) ?_
        refine gf_X12_5r X hK hG h0 wl_6_183 dX12_look_12 (fun q12 hq12 kq12 => ?_)
        refine lv_aload_n X.1 X.2.1 dX12_look_15 rfl (lv_at hl 0 rfl) ?_
        refine gf_X12_8r X hK hG h0 wl_6_186 dX12_look_16 (fun f13 hf13 kf13 => ?_)
        refine lv_aload_n X.1 X.2.1 dX12_look_19 rfl (lv_at hl 0 rfl) ?_
        refine gg_X12_10r X hK hG h0 wl_6_188 kf2 dX12_look_20 ?_
        refine lv_iadd X.1 X.2.1 dX12_look_23 ?_
        refine lv_topi (fun f14 ef14 => ?_)
        refine al_txt X hK hG hq12 hf13 (iv_lt (b' := 239) (iv_gt_of c4) hf2 hf3 (by decide +kernel)) ef14 dX12_look_24 (fun f15 => ?_)
        refine lv_bipush (v := 32) X.1 X.2.1 dX12_look_25 (by decide +kernel) ?_
        refine lv_icmp_ne (tgt := 43) X.1 X.2.1 dX12_look_27 (by decide) (fun c16 => ?_) (fun c16 => ?_)
        · exact B5_43 _ _ hS (lv_sub hl [0] rfl)
        · refine lv_aload_n X.1 X.2.1 dX12_look_30 rfl (lv_at hl 0 rfl) ?_
          refine lv_dup X.1 X.2.1 dX12_look_31 rfl ?_
          refine gg_X12_10r X hK hG h0 wl_6_188 kf2 dX12_look_32 ?_
          refine lv_iconst (v := 1) X.1 X.2.1 dX12_look_35 (by decide +kernel) ?_
          refine lv_iadd X.1 X.2.1 dX12_look_36 ?_
          refine lv_topi (fun f17 ef17 => ?_)
          have sf17 : f17.toInt = f2.toInt + 1 := sg_inc (k := 1) ef17 (iv_lt (b' := 239) (iv_gt_of c4) hf2 hf3 (by decide +kernel)) (by decide +kernel)
          have uf17 : f17.toInt ≤ hi := Int.le_trans ((iv_add (a' := 1) (b' := 240) ef17 (iv_lt (b' := 239) (iv_gt_of c4) hf2 hf3 (by decide +kernel)) (iv_c 1 (a := 1) (b := 1) (by decide +kernel)) (by decide +kernel))).2 (by omega)
          refine pf_X12_10R (lo2 := f17.toInt) (hi2 := hi) X hK hG hS h0 wl_6_188 ⟨_, rfl, Int.le_refl _, uf17⟩ dX12_look_37 (fun H locs hG hS => ?_)
          refine lv_goto (tgt := 0) X.1 X.2.1 dX12_look_40 (by decide) ?_
          exact ih1 H _ _ f17.toInt (by omega) (by omega) hG hS (lv_sub hl [0] rfl) (by omega)
  exact B1_0 _ s.heap _ _ lo (by omega) (by omega) hG hS (lv_sub hl [0] rfl) (Nat.le_refl _)

theorem ca_X12_look  {b : Bool} {d : Int} {lo mr f : Int} {hi : Int}  (X : CallFix p m c cc nL s args sg_tbl own) (hK : va_K D vwCl tys s) (hG : sgG (KR b d lo hi mr f P) D vwCl (fun q : Nat => base ≤ q) tys ad ks H) (hC : sgC base s) (hS : va_S (fun q : Nat => base ≤ q) s.heap H locs) (hb : base ≤ s.heap.size) (a0 : Nat) (h0 : isK ad ks 12 a0) (hlo : 0 ≤ lo ∧ lo ≤ 241 ∧ -1 ≤ f ∧ f ≤ 0 ∧ 0 ≤ mr) (hhi : 240 ≤ hi ∧ hi ≤ 241 ∧ lo ≤ hi) (hl : Cond.methodLink own index yX12_look ∈ sg_tbl) (hsize : ls.size = nL) (hst : st0 = [].reverse ++ .ref a0 :: rest) (hW : (rest.map fun v => v.category).sum ≤ 8) (hR : 1 ≤ R.frames ∧ 20 ≤ R.locals) (hf : cells ≤ R.cells ∧ slots ≤ R.slots) (hdg : decode cc pc = .ok (.invokevirtual index, 3)) (kk : ∀ (r : Int32) (t : State) (H1 : Heap) (locs1 : List Loc), t.heap = H1 → (fun r : Int32 => iv (-1) 255 r) r → (sgLk b d lo hi mr f P D base tys ad ks a0 r t) → va_S (fun q : Nat => base ≤ q) s.heap H1 locs1 → W p l e R s m args below meth c H1 locs1 cells slots Q (F0 m (pc + 3) ls (.int r :: rest))) : W p l e R s m args below meth c H locs cells slots Q (F0 m pc ls st0) :=
  sg_callV2i X hK hG hC hS hb (m_X12_look l a0 h0 hlo hhi) h0 (k := 12) (ci := 12) rfl (C := RX12) (T := TX12) (N := 53) rfl wl_7_140 wl_1_13 wl_7_139 wl_0_52 (n := 0) (by decide +kernel) rfl rfl rfl hl hsize hst hW hR hf hdg kk

set_option maxHeartbeats 8000000 in
set_option maxRecDepth 100000 in
theorem m_X12_isDigit (l : Launch) {D : va_G} {base : Nat} {tys : List (ClassId × FieldType)} {ad ks : List Nat} {P : sgPm}{b : Bool} {d : Int} {lo mr f : Int}  {Hx : Heap} (a0 : Nat) (h0 : isK ad ks 12 a0) (hlo : 0 ≤ lo ∧ lo ≤ 241 ∧ -1 ≤ f ∧ f ≤ 0 ∧ 0 ≤ mr) : sgPi l (KR b d lo 241 mr f P) D vwCl base tys ad ks Hx yX12_isDigit cX12_isDigit 1 (some .boolean) ({ frames := 0, cells := 0, slots := 0, locals := 0 }) [.ref a0] (fun r : Int32 => iv 0 1 r ∧ (¬ r = 0 → ∃ v : Int32, fld D Hx 12 a0 10 (.int v) ∧ iv lo 239 v)) := by
  refine sg_ofP (Pq := fun Hx => va_Qi (fun r (_ : Unit) => (fun r : Int32 => iv 0 1 r ∧ (¬ r = 0 → ∃ v : Int32, fld D Hx 12 a0 10 (.int v) ∧ iv lo 239 v)) r) (fun _ t => t.heap = Hx) (fun _ : Nat => False)) (by decide +kernel) (Nat.le_of_ble_eq_true rfl) (fun p e s m below meth c X hr hlk hb hK hC hG ls hl => ?_)
  have hS : va_S (fun _ : Nat => False) s.heap s.heap [] := va_S.rf
  have hl : lv_has ls 1 [(0, .ref a0)] := hl
  refine lv_aload_n X.1 X.2.1 dX12_isDigit_0 rfl (lv_at hl 0 rfl) ?_
  refine gf_X12_10r X hK hG h0 wl_6_188 dX12_isDigit_1 (fun f1 hf1 kf1 => ?_)
  have ⟨laf1, uaf1⟩ : lo ≤ f1.toInt ∧ f1.toInt ≤ 241 := hf1
  have hf1 : iv 0 241 f1 := ⟨by omega, by omega⟩
  refine lv_aload_n X.1 X.2.1 dX12_isDigit_4 rfl (lv_at hl 0 rfl) ?_
  refine gf_X12_9r X hK hG h0 wl_6_187 dX12_isDigit_5 (fun f2 hf2 kf2 => ?_)
  have B4_53 : ∀ (locs : List Loc) (ls : Array Slot), va_S (fun _ : Nat => False) s.heap s.heap locs → lv_has ls 1 [] → W p l e (headSpec (Cond.code yX12_isDigit cX12_isDigit 1 (some .boolean) :: sg_tbl) ({ frames := 0, cells := 0, slots := 0, locals := 0 })).room s m #[.ref a0] below meth c s.heap locs 0 0 (MQ below (va_Qi (fun r (_ : Unit) => (fun r : Int32 => iv 0 1 r ∧ (¬ r = 0 → ∃ v : Int32, fld D s.heap 12 a0 10 (.int v) ∧ iv lo 239 v)) r) (fun _ t => t.heap = s.heap) (fun _ : Nat => False)) #[.ref a0] s 0 0 (fun _ : Nat => False)) (F0 m 53 ls []) := by
    intro locs ls hS hl
    refine lv_iconst (v := 0) X.1 X.2.1 dX12_isDigit_53 (by decide +kernel) ?_
    exact sg_zretP X hr (sg_zn (iv_of (iv_c 0 (a := 0) (b := 0) (by decide +kernel)) (a' := 0) (b' := 1) (by decide +kernel))) hlk hS ⟨(iv_of (iv_c 0 (a := 0) (b := 0) (by decide +kernel)) (a' := 0) (b' := 1) (by decide +kernel)), fun h => absurd rfl h⟩ dX12_isDigit_54
  refine lv_icmp_ge (tgt := 53) X.1 X.2.1 dX12_isDigit_8 (by decide) (fun c3 => ?_) (fun c3 => ?_)
  · exact B4_53 _ _ hS (lv_sub hl [] rfl)
  · refine lv_aload_n X.1 X.2.1 dX12_isDigit_11 rfl (lv_at hl 0 rfl) ?_
    refine gf_X12_5r X hK hG h0 wl_6_183 dX12_isDigit_12 (fun q5 hq5 kq5 => ?_)
    refine lv_aload_n X.1 X.2.1 dX12_isDigit_15 rfl (lv_at hl 0 rfl) ?_
    refine gf_X12_8r X hK hG h0 wl_6_186 dX12_isDigit_16 (fun f6 hf6 kf6 => ?_)
    refine lv_aload_n X.1 X.2.1 dX12_isDigit_19 rfl (lv_at hl 0 rfl) ?_
    refine gg_X12_10r X hK hG h0 wl_6_188 kf1 dX12_isDigit_20 ?_
    refine lv_iadd X.1 X.2.1 dX12_isDigit_23 ?_
    refine lv_topi (fun f7 ef7 => ?_)
    refine al_txt X hK hG hq5 hf6 (iv_lt (b' := 239) (iv_gt_of c3) hf1 hf2 (by decide +kernel)) ef7 dX12_isDigit_24 (fun f8 => ?_)
    refine lv_bipush (v := 48) X.1 X.2.1 dX12_isDigit_25 (by decide +kernel) ?_
    refine lv_icmp_lt (tgt := 53) X.1 X.2.1 dX12_isDigit_27 (by decide) (fun c9 => ?_) (fun c9 => ?_)
    · exact B4_53 _ _ hS (lv_sub hl [] rfl)
    · refine lv_aload_n X.1 X.2.1 dX12_isDigit_30 rfl (lv_at hl 0 rfl) ?_
      refine gg_X12_5r X hK hG h0 wl_6_183 kq5 dX12_isDigit_31 ?_
      refine lv_aload_n X.1 X.2.1 dX12_isDigit_34 rfl (lv_at hl 0 rfl) ?_
      refine gg_X12_8r X hK hG h0 wl_6_186 kf6 dX12_isDigit_35 ?_
      refine lv_aload_n X.1 X.2.1 dX12_isDigit_38 rfl (lv_at hl 0 rfl) ?_
      refine gg_X12_10r X hK hG h0 wl_6_188 kf1 dX12_isDigit_39 ?_
      refine lv_iadd X.1 X.2.1 dX12_isDigit_42 ?_
      refine lv_topi (fun f10 ef10 => ?_)
      refine al_txt X hK hG hq5 hf6 (iv_lt (b' := 239) (iv_gt_of c3) hf1 hf2 (by decide +kernel)) ef10 dX12_isDigit_43 (fun f11 => ?_)
      refine lv_bipush (v := 57) X.1 X.2.1 dX12_isDigit_44 (by decide +kernel) ?_
      refine lv_icmp_gt (tgt := 53) X.1 X.2.1 dX12_isDigit_46 (by decide) (fun c12 => ?_) (fun c12 => ?_)
      · exact B4_53 _ _ hS (lv_sub hl [] rfl)
      · refine lv_iconst (v := 1) X.1 X.2.1 dX12_isDigit_49 (by decide +kernel) ?_
        refine lv_goto (tgt := 54) X.1 X.2.1 dX12_isDigit_50 (by decide) ?_
        exact sg_zretP X hr (sg_zn (iv_of (iv_c 1 (a := 1) (b := 1) (by decide +kernel)) (a' := 0) (b' := 1) (by decide +kernel))) hlk hS ⟨(iv_of (iv_c 1 (a := 1) (b := 1) (by decide +kernel)) (a' := 0) (b' := 1) (by decide +kernel)), fun _ => ⟨f1, kf1, ⟨by omega, ((iv_lt (b' := 239) (iv_gt_of c3) hf1 hf2 (by decide +kernel))).2⟩⟩⟩ dX12_isDigit_54

theorem ca_X12_isDigit  {b : Bool} {d : Int} {lo mr f : Int}  (X : CallFix p m c cc nL s args sg_tbl own) (hK : va_K D vwCl tys s) (hG : sgG (KR b d lo 241 mr f P) D vwCl (fun q : Nat => base ≤ q) tys ad ks H) (hC : sgC base s) (hA : ∀ q : Nat, A q → base ≤ q) (hS : va_S A s.heap H locs) (hb : base ≤ s.heap.size) (a0 : Nat) (h0 : isK ad ks 12 a0) (hlo : 0 ≤ lo ∧ lo ≤ 241 ∧ -1 ≤ f ∧ f ≤ 0 ∧ 0 ≤ mr) (hl : Cond.methodLink own index yX12_isDigit ∈ sg_tbl) (hsize : ls.size = nL) (hst : st0 = [].reverse ++ .ref a0 :: rest) (hW : (rest.map fun v => v.category).sum ≤ 8) (hR : 1 ≤ R.frames ∧ 20 ≤ R.locals) (hf : cells ≤ R.cells ∧ slots ≤ R.slots) (hdg : decode cc pc = .ok (.invokevirtual index, 3)) (kk : ∀ (r : Int32) (locs1 : List Loc), (fun r : Int32 => iv 0 1 r ∧ (¬ r = 0 → ∃ v : Int32, fld D H 12 a0 10 (.int v) ∧ iv lo 239 v)) r → va_S A s.heap H locs1 → W p l e R s m args below meth c H locs1 cells slots Q (F0 m (pc + 3) ls (.int r :: rest))) : W p l e R s m args below meth c H locs cells slots Q (F0 m pc ls st0) :=
  sg_callPVi X hK hG hC hA hS hb (m_X12_isDigit l a0 h0 hlo) h0 (k := 12) (ci := 12) rfl (C := RX12) (T := TX12) (N := 53) rfl wl_7_190 wl_1_13 wl_7_189 wl_0_56 (n := 0) (by decide +kernel) rfl rfl rfl hl hsize hst hW hR hf hdg kk

set_option maxHeartbeats 8000000 in
set_option maxRecDepth 100000 in
theorem m_X12_here (l : Launch) {D : va_G} {base : Nat} {tys : List (ClassId × FieldType)} {ad ks : List Nat} {P : sgPm}{b : Bool} {d : Int} {lo mr f : Int}  {Hx : Heap} (a0 : Nat) (h0 : isK ad ks 12 a0) (hlo : 0 ≤ lo ∧ lo ≤ 241 ∧ -1 ≤ f ∧ f ≤ 0 ∧ 0 ≤ mr) : sgPi l (KR b d lo 241 mr f P) D vwCl base tys ad ks Hx yX12_here cX12_here 1 (some .int) ({ frames := 0, cells := 0, slots := 0, locals := 0 }) [.ref a0] (fun r : Int32 => True) := by
  refine sg_ofP (Pq := fun Hx => va_Qi (fun r (_ : Unit) => (fun r : Int32 => True) r) (fun _ t => t.heap = Hx) (fun _ : Nat => False)) (by decide +kernel) (Nat.le_of_ble_eq_true rfl) (fun p e s m below meth c X hr hlk hb hK hC hG ls hl => ?_)
  have hS : va_S (fun _ : Nat => False) s.heap s.heap [] := va_S.rf
  have hl : lv_has ls 1 [(0, .ref a0)] := hl
  refine lv_aload_n X.1 X.2.1 dX12_here_0 rfl (lv_at hl 0 rfl) ?_
  refine gf_X12_10r X hK hG h0 wl_6_188 dX12_here_1 (fun f1 hf1 kf1 => ?_)
  have ⟨laf1, uaf1⟩ : lo ≤ f1.toInt ∧ f1.toInt ≤ 241 := hf1
  have hf1 : iv 0 241 f1 := ⟨by omega, by omega⟩
  refine lv_aload_n X.1 X.2.1 dX12_here_4 rfl (lv_at hl 0 rfl) ?_
  refine gf_X12_9r X hK hG h0 wl_6_187 dX12_here_5 (fun f2 hf2 kf2 => ?_)
  refine lv_icmp_ge (tgt := 32) X.1 X.2.1 dX12_here_8 (by decide) (fun c3 => ?_) (fun c3 => ?_)
  · refine lv_iconst (v := (-1)) X.1 X.2.1 dX12_here_32 (by decide +kernel) ?_
    exact sg_iretP X hr hlk hS trivial dX12_here_33
  · refine lv_aload_n X.1 X.2.1 dX12_here_11 rfl (lv_at hl 0 rfl) ?_
    refine gf_X12_5r X hK hG h0 wl_6_183 dX12_here_12 (fun q4 hq4 kq4 => ?_)
    refine lv_aload_n X.1 X.2.1 dX12_here_15 rfl (lv_at hl 0 rfl) ?_
    refine gf_X12_8r X hK hG h0 wl_6_186 dX12_here_16 (fun f5 hf5 kf5 => ?_)
    refine lv_aload_n X.1 X.2.1 dX12_here_19 rfl (lv_at hl 0 rfl) ?_
    refine gg_X12_10r X hK hG h0 wl_6_188 kf1 dX12_here_20 ?_
    refine lv_iadd X.1 X.2.1 dX12_here_23 ?_
    refine lv_topi (fun f6 ef6 => ?_)
    refine al_txt X hK hG hq4 hf5 (iv_lt (b' := 239) (iv_gt_of c3) hf1 hf2 (by decide +kernel)) ef6 dX12_here_24 (fun f7 => ?_)
    refine lv_sipush (v := 255) X.1 X.2.1 dX12_here_25 (by decide +kernel) ?_
    refine lv_iand X.1 X.2.1 dX12_here_28 ?_
    refine lv_topi (fun f8 ef8 => ?_)
    refine lv_goto (tgt := 33) X.1 X.2.1 dX12_here_29 (by decide) ?_
    exact sg_iretP X hr hlk hS trivial dX12_here_33

theorem ca_X12_here  {b : Bool} {d : Int} {lo mr f : Int}  (X : CallFix p m c cc nL s args sg_tbl own) (hK : va_K D vwCl tys s) (hG : sgG (KR b d lo 241 mr f P) D vwCl (fun q : Nat => base ≤ q) tys ad ks H) (hC : sgC base s) (hA : ∀ q : Nat, A q → base ≤ q) (hS : va_S A s.heap H locs) (hb : base ≤ s.heap.size) (a0 : Nat) (h0 : isK ad ks 12 a0) (hlo : 0 ≤ lo ∧ lo ≤ 241 ∧ -1 ≤ f ∧ f ≤ 0 ∧ 0 ≤ mr) (hl : Cond.methodLink own index yX12_here ∈ sg_tbl) (hsize : ls.size = nL) (hst : st0 = [].reverse ++ .ref a0 :: rest) (hW : (rest.map fun v => v.category).sum ≤ 8) (hR : 1 ≤ R.frames ∧ 20 ≤ R.locals) (hf : cells ≤ R.cells ∧ slots ≤ R.slots) (hdg : decode cc pc = .ok (.invokevirtual index, 3)) (kk : ∀ (r : Int32) (locs1 : List Loc), (fun r : Int32 => True) r → va_S A s.heap H locs1 → W p l e R s m args below meth c H locs1 cells slots Q (F0 m (pc + 3) ls (.int r :: rest))) : W p l e R s m args below meth c H locs cells slots Q (F0 m pc ls st0) :=
  sg_callPVi X hK hG hC hA hS hb (m_X12_here l a0 h0 hlo) h0 (k := 12) (ci := 12) rfl (C := RX12) (T := TX12) (N := 53) rfl wl_7_194 wl_1_13 wl_7_193 wl_0_57 (n := 0) (by decide +kernel) rfl rfl rfl hl hsize hst hW hR hf hdg kk

set_option maxHeartbeats 8000000 in
set_option maxRecDepth 100000 in
theorem m_X12_takes (l : Launch) {D : va_G} {base : Nat} {tys : List (ClassId × FieldType)} {ad ks : List Nat} {P : sgPm}{b : Bool} {d : Int} {lo mr f : Int}  (a0 : Nat) (h0 : isK ad ks 12 a0) (x1 : Int32) (h1 : iv 0 127 x1) (hlo : 0 ≤ lo ∧ lo ≤ 241 ∧ -1 ≤ f ∧ f ≤ 0 ∧ 0 ≤ mr) : sgMi l (KR b d lo 241 mr f P) D vwCl base tys ad ks yX12_takes cX12_takes 2 (some .boolean) ({ frames := 1, cells := 0, slots := 0, locals := 20 }) [.ref a0, .int x1] (fun r : Int32 => iv 0 1 r) := by
  refine sg_ofW (by decide +kernel) (Nat.le_of_ble_eq_true rfl) (fun p e s m below meth c X hr hlk hb hK hC hG ls hl => ?_)
  have hS : va_S (fun q : Nat => base ≤ q) s.heap s.heap [] := va_S.rf
  have hl : lv_has ls 2 [(0, .ref a0), (1, .int x1)] := hl
  refine lv_aload_n X.1 X.2.1 dX12_takes_0 rfl (lv_at hl 0 rfl) ?_
  refine gf_X12_11r X hK hG h0 wl_6_189 dX12_takes_1 (fun f1 hf1 kf1 => ?_)
  have ⟨laf1, uaf1⟩ : f ≤ f1.toInt ∧ f1.toInt ≤ 241 := hf1
  have hf1 : iv (-1) 241 f1 := ⟨by omega, by omega⟩
  refine lv_iconst (v := (-1)) X.1 X.2.1 dX12_takes_4 (by decide +kernel) ?_
  have B3_16 : ∀ (H : Heap) (locs : List Loc) (ls : Array Slot) (lo3 : Int), lo ≤ lo3 → lo3 ≤ 241 → sgG (KR b d lo3 241 mr f P) D vwCl (fun q : Nat => base ≤ q) tys ad ks H → va_S (fun q : Nat => base ≤ q) s.heap H locs → lv_has ls 2 [(0, .ref a0)] → W p l e (headSpec (Cond.code yX12_takes cX12_takes 2 (some .boolean) :: sg_tbl) ({ frames := 1, cells := 0, slots := 0, locals := 20 })).room s m #[.ref a0, .int x1] below meth c H locs 0 0 (MQ below (va_Qi (fun r (_ : Unit) => (fun r : Int32 => iv 0 1 r) r) (fun _ => sgB (KR b d lo 241 mr f P) D vwCl base tys ad ks) (fun q : Nat => base ≤ q)) #[.ref a0, .int x1] s 0 0 (fun q : Nat => base ≤ q)) (F0 m 16 ls []) := by
    intro H locs ls lo3 jl3 jm3 hG hS hl
    refine lv_aload_n X.1 X.2.1 dX12_takes_16 rfl (lv_at hl 0 rfl) ?_
    refine ca_X12_fails X hK hG hC hS hb a0 h0 ⟨by omega, by omega, by omega, by omega, by omega⟩ wl_7_141 hl.1 (rest := []) rfl (Nat.le_of_ble_eq_true rfl) ⟨Nat.le_of_ble_eq_true rfl, Nat.le_of_ble_eq_true rfl⟩ ⟨Nat.le_of_ble_eq_true rfl, Nat.le_of_ble_eq_true rfl⟩ dX12_takes_17 (fun f4 H locs hf4 hG hS => ?_)
    have hG := sgr_weak (d' := d) (lo' := lo) (hi' := 241) (f' := f) hG (by omega) (by omega) (by omega) (by omega)
    exact sg_zret X hr (sg_zn (iv_of hf4 (a' := 0) (b' := 1) (by decide +kernel))) hlk hb hK hC hG hS (iv_of hf4 (a' := 0) (b' := 1) (by decide +kernel)) dX12_takes_20
  refine lv_icmp_ne (tgt := 16) X.1 X.2.1 dX12_takes_5 (by decide) (fun c2 => ?_) (fun c2 => ?_)
  · exact B3_16 s.heap _ _ lo (by omega) (by omega) hG hS (lv_sub hl [0] rfl)
  · refine lv_aload_n X.1 X.2.1 dX12_takes_8 rfl (lv_at hl 0 rfl) ?_
    refine ca_X12_look X hK hG hC hS hb a0 h0 ⟨by omega, by omega, by omega, by omega, by omega⟩ ⟨by omega, by omega, by omega⟩ wl_7_137 hl.1 (rest := []) rfl (Nat.le_of_ble_eq_true rfl) ⟨Nat.le_of_ble_eq_true rfl, Nat.le_of_ble_eq_true rfl⟩ ⟨Nat.le_of_ble_eq_true rfl, Nat.le_of_ble_eq_true rfl⟩ dX12_takes_9 (fun f5 tf5 H locs htf5 hf5 hWf5 hS => ?_)
    obtain ⟨hBf5, v6, kv6, hv6, lv6⟩ := hWf5
    have hG := hBf5.2.2.2
    rw [htf5] at hG kv6
    have ⟨lav6, uav6⟩ : lo ≤ v6.toInt ∧ v6.toInt ≤ 241 := hv6
    have hv6 : iv 0 241 v6 := ⟨by omega, by omega⟩
    refine lv_iload_n X.1 X.2.1 dX12_takes_12 rfl (lv_at hl 1 rfl) ?_
    refine lv_icmp_eq (tgt := 21) X.1 X.2.1 dX12_takes_13 (by decide) (fun c7 => ?_) (fun c7 => ?_)
    · refine lv_aload_n X.1 X.2.1 dX12_takes_21 rfl (lv_at hl 0 rfl) ?_
      refine lv_dup X.1 X.2.1 dX12_takes_22 rfl ?_
      refine gg_X12_10r X hK hG h0 wl_6_188 kv6 dX12_takes_23 ?_
      refine lv_iconst (v := 1) X.1 X.2.1 dX12_takes_26 (by decide +kernel) ?_
      refine lv_iadd X.1 X.2.1 dX12_takes_27 ?_
      refine lv_topi (fun f8 ef8 => ?_)
      have sf8 : f8.toInt = v6.toInt + 1 := sg_inc (k := 1) ef8 (sg_lk (iv_eqm (a' := 0) (b' := 127) c7 hf5 h1 (by decide +kernel)) lv6 hv6) (by decide +kernel)
      have uf8 : f8.toInt ≤ 241 := Int.le_trans ((iv_add (a' := 1) (b' := 240) ef8 (sg_lk (iv_eqm (a' := 0) (b' := 127) c7 hf5 h1 (by decide +kernel)) lv6 hv6) (iv_c 1 (a := 1) (b := 1) (by decide +kernel)) (by decide +kernel))).2 (by omega)
      refine pf_X12_10R (lo2 := f8.toInt) (hi2 := 241) X hK hG hS h0 wl_6_188 ⟨_, rfl, Int.le_refl _, uf8⟩ dX12_takes_28 (fun H locs hG hS => ?_)
      refine lv_iconst (v := 1) X.1 X.2.1 dX12_takes_31 (by decide +kernel) ?_
      have hG := sgr_weak (d' := d) (lo' := lo) (hi' := 241) (f' := f) hG (by omega) (by omega) (by omega) (by omega)
      exact sg_zret X hr (sg_zn (iv_of (iv_c 1 (a := 1) (b := 1) (by decide +kernel)) (a' := 0) (b' := 1) (by decide +kernel))) hlk hb hK hC hG hS (iv_of (iv_c 1 (a := 1) (b := 1) (by decide +kernel)) (a' := 0) (b' := 1) (by decide +kernel)) dX12_takes_32
    · exact B3_16 H _ _ lo (by omega) (by omega) hG hS (lv_sub hl [0] rfl)

theorem ca_X12_takes  {b : Bool} {d : Int} {lo mr f : Int}  (X : CallFix p m c cc nL s args sg_tbl own) (hK : va_K D vwCl tys s) (hG : sgG (KR b d lo 241 mr f P) D vwCl (fun q : Nat => base ≤ q) tys ad ks H) (hC : sgC base s) (hS : va_S (fun q : Nat => base ≤ q) s.heap H locs) (hb : base ≤ s.heap.size) (a0 : Nat) (h0 : isK ad ks 12 a0) (x1 : Int32) (h1 : iv 0 127 x1) (hlo : 0 ≤ lo ∧ lo ≤ 241 ∧ -1 ≤ f ∧ f ≤ 0 ∧ 0 ≤ mr) (hl : Cond.methodLink own index yX12_takes ∈ sg_tbl) (hsize : ls.size = nL) (hst : st0 = [.int x1].reverse ++ .ref a0 :: rest) (hW : (rest.map fun v => v.category).sum ≤ 8) (hR : 2 ≤ R.frames ∧ 41 ≤ R.locals) (hf : cells ≤ R.cells ∧ slots ≤ R.slots) (hdg : decode cc pc = .ok (.invokevirtual index, 3)) (kk : ∀ (r : Int32) (H1 : Heap) (locs1 : List Loc), (fun r : Int32 => iv 0 1 r) r → sgG (KR b d lo 241 mr f P) D vwCl (fun q : Nat => base ≤ q) tys ad ks H1 → va_S (fun q : Nat => base ≤ q) s.heap H1 locs1 → W p l e R s m args below meth c H1 locs1 cells slots Q (F0 m (pc + 3) ls (.int r :: rest))) : W p l e R s m args below meth c H locs cells slots Q (F0 m pc ls st0) :=
  sg_callVi X hK hG hC hS hb (m_X12_takes l a0 h0 x1 h1 hlo) h0 (k := 12) (ci := 12) rfl (C := RX12) (T := TX12) (N := 53) rfl wl_7_220 wl_1_13 wl_7_219 wl_0_60 (n := 1) (by decide +kernel) rfl rfl rfl hl hsize hst hW hR hf hdg kk

set_option maxHeartbeats 8000000 in
set_option maxRecDepth 100000 in
theorem m_X12_goesIn_6 (l : Launch) {D : va_G} {base : Nat} {tys : List (ClassId × FieldType)} {ad ks : List Nat} {P : sgPm}{b : Bool} {lo mr f : Int}  (a0 : Nat) (h0 : isK ad ks 12 a0) (hlo : 0 ≤ lo ∧ lo ≤ 241 ∧ -1 ≤ f ∧ f ≤ 0 ∧ 0 ≤ mr) : Met l yX12_goesIn (Cond.code yX12_goesIn cX12_goesIn 1 (some .boolean) :: sg_tbl) ({ frames := 1, cells := 0, slots := 0, locals := 20 }) (va_Pc [.ref a0] (sgB (KR b 6 lo 240 mr f P) D vwCl base tys ad ks)) (va_Qi (fun r (u : Int32) => u = r ∧ (fun r : Int32 => iv 0 0 r) r) (fun u t => sgB (KR b 6 lo 241 mr f P) D vwCl base tys ad ks t) (fun q : Nat => base ≤ q)) 0 0 (fun q : Nat => base ≤ q) := by
  refine sg_ofW (by decide +kernel) (Nat.le_of_ble_eq_true rfl) (fun p e s m below meth c X hr hlk hb hK hC hG ls hl => ?_)
  have hS : va_S (fun q : Nat => base ≤ q) s.heap s.heap [] := va_S.rf
  have hl : lv_has ls 1 [(0, .ref a0)] := hl
  refine lv_aload_n X.1 X.2.1 dX12_goesIn_0 rfl (lv_at hl 0 rfl) ?_
  refine gf_X12_12r X hK hG h0 wl_6_190 dX12_goesIn_1 (fun f1 hf1 kf1 => ?_)
  refine lv_bipush (v := 6) X.1 X.2.1 dX12_goesIn_4 (by decide +kernel) ?_
  refine lv_icmp_ne (tgt := 14) X.1 X.2.1 dX12_goesIn_6 (by decide) (fun c2 => ?_) (fun c2 => ?_)
  · exact ((c2 (iv_one hf1 (iv_c 6 (a := 6) (b := 6) (by decide +kernel)) (by decide +kernel)))).elim
  · refine lv_aload_n X.1 X.2.1 dX12_goesIn_9 rfl (lv_at hl 0 rfl) ?_
    have hG := sgr_weak (d' := 6) (lo' := lo) (hi' := 241) (f' := f) hG (by omega) (by omega) (by omega) (by omega)
    refine ca_X12_fails X hK hG hC hS hb a0 h0 ⟨by omega, by omega, by omega, by omega, by omega⟩ wl_7_141 hl.1 (rest := []) rfl (Nat.le_of_ble_eq_true rfl) ⟨Nat.le_of_ble_eq_true rfl, Nat.le_of_ble_eq_true rfl⟩ ⟨Nat.le_of_ble_eq_true rfl, Nat.le_of_ble_eq_true rfl⟩ dX12_goesIn_10 (fun f3 H locs hf3 hG hS => ?_)
    exact sg_zret2 X hr (sg_zn (iv_of hf3 (a' := 0) (b' := 1) (by decide +kernel))) hlk hS hf3 (fun t ht hW => sg_post hb hK hC hG hS ht hW) dX12_goesIn_13

theorem ca_X12_goesIn_6  {b : Bool} {lo mr f : Int}  (X : CallFix p m c cc nL s args sg_tbl own) (hK : va_K D vwCl tys s) (hG : sgG (KR b 6 lo 240 mr f P) D vwCl (fun q : Nat => base ≤ q) tys ad ks H) (hC : sgC base s) (hS : va_S (fun q : Nat => base ≤ q) s.heap H locs) (hb : base ≤ s.heap.size) (a0 : Nat) (h0 : isK ad ks 12 a0) (hlo : 0 ≤ lo ∧ lo ≤ 241 ∧ -1 ≤ f ∧ f ≤ 0 ∧ 0 ≤ mr) (hl : Cond.methodLink own index yX12_goesIn ∈ sg_tbl) (hsize : ls.size = nL) (hst : st0 = [].reverse ++ .ref a0 :: rest) (hW : (rest.map fun v => v.category).sum ≤ 8) (hR : 2 ≤ R.frames ∧ 40 ≤ R.locals) (hf : cells ≤ R.cells ∧ slots ≤ R.slots) (hdg : decode cc pc = .ok (.invokevirtual index, 3)) (kk : ∀ (r : Int32) (t : State) (H1 : Heap) (locs1 : List Loc), t.heap = H1 → (fun r : Int32 => iv 0 0 r) r → (sgB (KR b 6 lo 241 mr f P) D vwCl base tys ad ks t) → va_S (fun q : Nat => base ≤ q) s.heap H1 locs1 → W p l e R s m args below meth c H1 locs1 cells slots Q (F0 m (pc + 3) ls (.int r :: rest))) : W p l e R s m args below meth c H locs cells slots Q (F0 m pc ls st0) :=
  sg_callV2i X hK hG hC hS hb (m_X12_goesIn_6 l a0 h0 hlo) h0 (k := 12) (ci := 12) rfl (C := RX12) (T := TX12) (N := 53) rfl wl_8_8 wl_1_13 wl_8_7 wl_0_67 (n := 0) (by decide +kernel) rfl rfl rfl hl hsize hst hW hR hf hdg kk

set_option maxHeartbeats 8000000 in
set_option maxRecDepth 100000 in
theorem m_X12_atom_6 (l : Launch) {D : va_G} {base : Nat} {tys : List (ClassId × FieldType)} {ad ks : List Nat} {P : sgPm}{b : Bool} {lo mr f : Int}  (a0 : Nat) (h0 : isK ad ks 12 a0) (hlo : 0 ≤ lo ∧ lo ≤ 241 ∧ -1 ≤ f ∧ f ≤ 0 ∧ 0 ≤ mr) : sgMi l (KR b 6 lo 241 mr f P) D vwCl base tys ad ks yX12_atom cX12_atom 4 (some .int) ({ frames := 5, cells := 0, slots := 0, locals := 107 }) [.ref a0] (fun r : Int32 => True) := by
  refine sg_ofW (by decide +kernel) (Nat.le_of_ble_eq_true rfl) (fun p e s m below meth c X hr hlk hb hK hC hG ls hl => ?_)
  have hS : va_S (fun q : Nat => base ≤ q) s.heap s.heap [] := va_S.rf
  have hl : lv_has ls 4 [(0, .ref a0)] := hl
  refine lv_aload_n X.1 X.2.1 dX12_atom_0 rfl (lv_at hl 0 rfl) ?_
  refine ca_X12_look X hK hG hC hS hb a0 h0 ⟨by omega, by omega, by omega, by omega, by omega⟩ ⟨by omega, by omega, by omega⟩ wl_7_137 hl.1 (rest := []) rfl (Nat.le_of_ble_eq_true rfl) ⟨Nat.le_of_ble_eq_true rfl, Nat.le_of_ble_eq_true rfl⟩ ⟨Nat.le_of_ble_eq_true rfl, Nat.le_of_ble_eq_true rfl⟩ dX12_atom_1 (fun f1 tf1 H locs htf1 hf1 hWf1 hS => ?_)
  obtain ⟨hBf1, v2, kv2, hv2, lv2⟩ := hWf1
  have hG := hBf1.2.2.2
  rw [htf1] at hG kv2
  have ⟨lav2, uav2⟩ : lo ≤ v2.toInt ∧ v2.toInt ≤ 241 := hv2
  have hv2 : iv 0 241 v2 := ⟨by omega, by omega⟩
  refine lv_istore_n (lv' := [(1, .int f1), (0, .ref a0)]) X.1 X.2.1 dX12_atom_4 rfl hl (by decide) rfl (fun ls hl => ?_)
  obtain ⟨t3, vt3, pt3, rt3⟩ := hC.2.2.1
  refine va_ldcS X.1 X.2.1 X.2.2.2.1 rt3 dX12_atom_5 ?_
  refine lv_iload_n X.1 X.2.1 dX12_atom_7 rfl (lv_at hl 0 rfl) ?_
  refine ca_X12_isAmong_6 X hK (sgr_toKT hG (by omega) (by omega) (by omega)) hC (fun _ h => h) hS hb pt3 f1 (sg_htb (by decide +kernel)) wl_7_214 hl.1 (rest := []) rfl (Nat.le_of_ble_eq_true rfl) ⟨Nat.le_of_ble_eq_true rfl, Nat.le_of_ble_eq_true rfl⟩ ⟨Nat.le_of_ble_eq_true rfl, Nat.le_of_ble_eq_true rfl⟩ dX12_atom_8 (fun f4 locs hf4 hS => ?_)
  refine lv_if_eq (tgt := 31) X.1 X.2.1 dX12_atom_11 (by decide) (fun c5 => ?_) (fun c5 => ?_)
  · refine lv_iload_n X.1 X.2.1 dX12_atom_31 rfl (lv_at hl 0 rfl) ?_
    refine lv_bipush (v := 91) X.1 X.2.1 dX12_atom_32 (by decide +kernel) ?_
    refine lv_icmp_ne (tgt := 74) X.1 X.2.1 dX12_atom_34 (by decide) (fun c6 => ?_) (fun c6 => ?_)
    · refine lv_aload_n X.1 X.2.1 dX12_atom_74 rfl (lv_at hl 1 rfl) ?_
      refine ca_X12_isDigit X hK hG hC (fun _ h => h) hS hb a0 h0 ⟨by omega, by omega, by omega, by omega, by omega⟩ wl_7_187 hl.1 (rest := []) rfl (Nat.le_of_ble_eq_true rfl) ⟨Nat.le_of_ble_eq_true rfl, Nat.le_of_ble_eq_true rfl⟩ ⟨Nat.le_of_ble_eq_true rfl, Nat.le_of_ble_eq_true rfl⟩ dX12_atom_75 (fun f7 locs hf7 hS => ?_)
      have B9_86 : ∀ (H : Heap) (locs : List Loc) (ls : Array Slot) (lo9 : Int), lo ≤ lo9 → lo9 ≤ 241 → sgG (KR b 6 lo9 241 mr f P) D vwCl (fun q : Nat => base ≤ q) tys ad ks H → va_S (fun q : Nat => base ≤ q) s.heap H locs → lv_has ls 4 [(0, .ref a0)] → W p l e (headSpec (Cond.code yX12_atom cX12_atom 4 (some .int) :: sg_tbl) ({ frames := 5, cells := 0, slots := 0, locals := 107 })).room s m #[.ref a0] below meth c H locs 0 0 (MQ below (va_Qi (fun r (_ : Unit) => (fun r : Int32 => True) r) (fun _ => sgB (KR b 6 lo 241 mr f P) D vwCl base tys ad ks) (fun q : Nat => base ≤ q)) #[.ref a0] s 0 0 (fun q : Nat => base ≤ q)) (F0 m 86 ls []) := by
        intro H locs ls lo9 jl9 jm9 hG hS hl
        refine lv_iconst (v := 0) X.1 X.2.1 dX12_atom_86 (by decide +kernel) ?_
        refine lv_istore_n (lv' := [(2, .int 0), (0, .ref a0)]) X.1 X.2.1 dX12_atom_87 rfl hl (by decide) rfl (fun ls hl => ?_)
        refine lv_iconst (v := 0) X.1 X.2.1 dX12_atom_88 (by decide +kernel) ?_
        refine lv_istore_n (lv' := [(3, .int 0), (2, .int 0), (0, .ref a0)]) X.1 X.2.1 dX12_atom_89 rfl hl (by decide) rfl (fun ls hl => ?_)
        have B10_90 : ∀ (N : Nat) (H : Heap) (locs : List Loc) (ls : Array Slot) (z10_2 : Int32) (z10_3 : Int32) (lo10 : Int), lo9 ≤ lo10 → lo10 ≤ 241 → sgG (KR b 6 lo10 241 mr f P) D vwCl (fun q : Nat => base ≤ q) tys ad ks H → va_S (fun q : Nat => base ≤ q) s.heap H locs → lv_has ls 4 [(0, .ref a0), (2, .int z10_2), (3, .int z10_3)] → iv 0 4 z10_3 → (5 - z10_3.toInt).toNat ≤ N → W p l e (headSpec (Cond.code yX12_atom cX12_atom 4 (some .int) :: sg_tbl) ({ frames := 5, cells := 0, slots := 0, locals := 107 })).room s m #[.ref a0] below meth c H locs 0 0 (MQ below (va_Qi (fun r (_ : Unit) => (fun r : Int32 => True) r) (fun _ => sgB (KR b 6 lo 241 mr f P) D vwCl base tys ad ks) (fun q : Nat => base ≤ q)) #[.ref a0] s 0 0 (fun q : Nat => base ≤ q)) (F0 m 90 ls []) := by
          intro N; induction N with
          | zero =>
            intro H locs ls z10_2 z10_3 lo10 jl10 jm10 hG hS hl hz10_3 hN
            exact absurd hN (by have := iv_up hz10_3; omega)
          | succ N ih10 =>
            intro H locs ls z10_2 z10_3 lo10 jl10 jm10 hG hS hl hz10_3 hN10
            refine lv_aload_n X.1 X.2.1 dX12_atom_90 rfl (lv_at hl 0 rfl) ?_
            refine ca_X12_isDigit X hK hG hC (fun _ h => h) hS hb a0 h0 ⟨by omega, by omega, by omega, by omega, by omega⟩ wl_7_187 hl.1 (rest := []) rfl (Nat.le_of_ble_eq_true rfl) ⟨Nat.le_of_ble_eq_true rfl, Nat.le_of_ble_eq_true rfl⟩ ⟨Nat.le_of_ble_eq_true rfl, Nat.le_of_ble_eq_true rfl⟩ dX12_atom_91 (fun f11 locs hf11 hS => ?_)
            refine lv_if_eq (tgt := 156) X.1 X.2.1 dX12_atom_94 (by decide) (fun c12 => ?_) (fun c12 => ?_)
            · refine lv_iload_n X.1 X.2.1 dX12_atom_156 rfl (lv_at hl 1 rfl) ?_
              have hG := sgr_weak (d' := 6) (lo' := lo) (hi' := 241) (f' := f) hG (by omega) (by omega) (by omega) (by omega)
              exact sg_iret X hr hlk hb hK hC hG hS trivial dX12_atom_157
            · obtain ⟨v13, kv13, hv13⟩ := hf11.2 c12
              have ⟨lav13, uav13⟩ : lo10 ≤ v13.toInt ∧ v13.toInt ≤ 239 := hv13
              have hv13 : iv 0 239 v13 := ⟨by omega, uav13⟩
              refine lv_aload_n X.1 X.2.1 dX12_atom_97 rfl (lv_at hl 0 rfl) ?_
              refine gf_X12_11r X hK hG h0 wl_6_189 dX12_atom_98 (fun f14 hf14 kf14 => ?_)
              have ⟨laf14, uaf14⟩ : f ≤ f14.toInt ∧ f14.toInt ≤ 241 := hf14
              have hf14 : iv (-1) 241 f14 := ⟨by omega, by omega⟩
              refine lv_iconst (v := (-1)) X.1 X.2.1 dX12_atom_101 (by decide +kernel) ?_
              refine lv_icmp_ne (tgt := 156) X.1 X.2.1 dX12_atom_102 (by decide) (fun c15 => ?_) (fun c15 => ?_)
              · refine lv_iload_n X.1 X.2.1 dX12_atom_156 rfl (lv_at hl 1 rfl) ?_
                have hG := sgr_weak (d' := 6) (lo' := lo) (hi' := 241) (f' := f) hG (by omega) (by omega) (by omega) (by omega)
                exact sg_iret X hr hlk hb hK hC hG hS trivial dX12_atom_157
              · refine lv_iload_n X.1 X.2.1 dX12_atom_105 rfl (lv_at hl 2 rfl) ?_
                refine lv_iconst (v := 4) X.1 X.2.1 dX12_atom_106 (by decide +kernel) ?_
                refine lv_icmp_ne (tgt := 117) X.1 X.2.1 dX12_atom_107 (by decide) (fun c16 => ?_) (fun c16 => ?_)
                · refine lv_bipush (v := 10) X.1 X.2.1 dX12_atom_117 (by decide +kernel) ?_
                  refine lv_iload_n X.1 X.2.1 dX12_atom_119 rfl (lv_at hl 1 rfl) ?_
                  refine lv_imul X.1 X.2.1 dX12_atom_120 ?_
                  refine lv_topi (fun f17 ef17 => ?_)
                  refine lv_aload_n X.1 X.2.1 dX12_atom_121 rfl (lv_at hl 0 rfl) ?_
                  refine gf_X12_5r X hK hG h0 wl_6_183 dX12_atom_122 (fun q18 hq18 kq18 => ?_)
                  refine lv_aload_n X.1 X.2.1 dX12_atom_125 rfl (lv_at hl 0 rfl) ?_
                  refine gf_X12_8r X hK hG h0 wl_6_186 dX12_atom_126 (fun f19 hf19 kf19 => ?_)
                  refine lv_aload_n X.1 X.2.1 dX12_atom_129 rfl (lv_at hl 0 rfl) ?_
                  refine gg_X12_10r X hK hG h0 wl_6_188 kv13 dX12_atom_130 ?_
                  refine lv_iadd X.1 X.2.1 dX12_atom_133 ?_
                  refine lv_topi (fun f20 ef20 => ?_)
                  refine al_txt X hK hG hq18 hf19 hv13 ef20 dX12_atom_134 (fun f21 => ?_)
                  refine lv_iadd X.1 X.2.1 dX12_atom_135 ?_
                  refine lv_topi (fun f22 ef22 => ?_)
                  refine lv_bipush (v := 48) X.1 X.2.1 dX12_atom_136 (by decide +kernel) ?_
                  refine lv_isub X.1 X.2.1 dX12_atom_138 ?_
                  refine lv_topi (fun f23 ef23 => ?_)
                  refine lv_istore_n (lv' := [(2, .int f23), (0, .ref a0), (3, .int z10_3)]) X.1 X.2.1 dX12_atom_139 rfl hl (by decide) rfl (fun ls hl => ?_)
                  refine lv_aload_n X.1 X.2.1 dX12_atom_140 rfl (lv_at hl 1 rfl) ?_
                  refine lv_dup X.1 X.2.1 dX12_atom_141 rfl ?_
                  refine gg_X12_10r X hK hG h0 wl_6_188 kv13 dX12_atom_142 ?_
                  refine lv_iconst (v := 1) X.1 X.2.1 dX12_atom_145 (by decide +kernel) ?_
                  refine lv_iadd X.1 X.2.1 dX12_atom_146 ?_
                  refine lv_topi (fun f24 ef24 => ?_)
                  have sf24 : f24.toInt = v13.toInt + 1 := sg_inc (k := 1) ef24 hv13 (by decide +kernel)
                  have uf24 : f24.toInt ≤ 241 := Int.le_trans ((iv_add (a' := 1) (b' := 240) ef24 hv13 (iv_c 1 (a := 1) (b := 1) (by decide +kernel)) (by decide +kernel))).2 (by omega)
                  refine pf_X12_10R (lo2 := f24.toInt) (hi2 := 241) X hK hG hS h0 wl_6_188 ⟨_, rfl, Int.le_refl _, uf24⟩ dX12_atom_147 (fun H locs hG hS => ?_)
                  obtain ⟨y25, ey25⟩ : ∃ y : Int32, y = z10_3 + Int32.ofInt 1 := ⟨_, rfl⟩
                  refine lv_iinc (v := y25) (lv' := [(3, .int y25), (2, .int f23), (0, .ref a0)]) X.1 X.2.1 dX12_atom_150 hl (k := 2) rfl ey25.symm (by decide) rfl (fun ls hl => ?_)
                  refine lv_goto (tgt := 90) X.1 X.2.1 dX12_atom_153 (by decide) ?_
                  exact ih10 H _ _ f23 y25 f24.toInt (by omega) (by omega) hG hS (lv_sub hl [2, 1, 0] rfl) (iv_of (iv_add (a' := 1) (b' := 4) ey25 (iv_ne_hi (b' := 3) c16 hz10_3 (by decide +kernel)) (iv_c _ (a := 1) (b := 1) (by decide +kernel)) (by decide +kernel)) (a' := 0) (b' := 4) (by decide +kernel)) (iv_stepU ey25 (iv_ne_hi (b' := 3) c16 hz10_3 (by decide +kernel)) (by decide +kernel) hN10)
                · refine lv_aload_n X.1 X.2.1 dX12_atom_110 rfl (lv_at hl 0 rfl) ?_
                  refine ca_X12_fails X hK hG hC hS hb a0 h0 ⟨by omega, by omega, by omega, by omega, by omega⟩ wl_7_141 hl.1 (rest := []) rfl (Nat.le_of_ble_eq_true rfl) ⟨Nat.le_of_ble_eq_true rfl, Nat.le_of_ble_eq_true rfl⟩ ⟨Nat.le_of_ble_eq_true rfl, Nat.le_of_ble_eq_true rfl⟩ dX12_atom_111 (fun f26 H locs hf26 hG hS => ?_)
                  refine lv_pop X.1 X.2.1 dX12_atom_114 rfl ?_
                  refine lv_iconst (v := 0) X.1 X.2.1 dX12_atom_115 (by decide +kernel) ?_
                  have hG := sgr_weak (d' := 6) (lo' := lo) (hi' := 241) (f' := f) hG (by omega) (by omega) (by omega) (by omega)
                  exact sg_iret X hr hlk hb hK hC hG hS trivial dX12_atom_116
        exact B10_90 _ H _ _ 0 0 lo9 (by omega) (by omega) hG hS (lv_sub hl [2, 1, 0] rfl) (iv_of (iv_c 0 (a := 0) (b := 0) (by decide +kernel)) (a' := 0) (b' := 4) (by decide +kernel)) (Nat.le_refl _)
      refine lv_if_ne (tgt := 86) X.1 X.2.1 dX12_atom_78 (by decide) (fun c8 => ?_) (fun c8 => ?_)
      · obtain ⟨v27, kv27, hv27⟩ := hf7.2 c8
        have ⟨lav27, uav27⟩ : lo ≤ v27.toInt ∧ v27.toInt ≤ 239 := hv27
        have hv27 : iv 0 239 v27 := ⟨by omega, uav27⟩
        exact B9_86 H _ _ lo (by omega) (by omega) hG hS (lv_sub hl [1] rfl)
      · refine lv_aload_n X.1 X.2.1 dX12_atom_81 rfl (lv_at hl 1 rfl) ?_
        refine ca_X12_fails X hK hG hC hS hb a0 h0 ⟨by omega, by omega, by omega, by omega, by omega⟩ wl_7_141 hl.1 (rest := []) rfl (Nat.le_of_ble_eq_true rfl) ⟨Nat.le_of_ble_eq_true rfl, Nat.le_of_ble_eq_true rfl⟩ ⟨Nat.le_of_ble_eq_true rfl, Nat.le_of_ble_eq_true rfl⟩ dX12_atom_82 (fun f28 H locs hf28 hG hS => ?_)
        refine lv_pop X.1 X.2.1 dX12_atom_85 rfl ?_
        exact B9_86 H _ _ lo (by omega) (by omega) hG hS (lv_sub hl [1] rfl)
    · refine lv_aload_n X.1 X.2.1 dX12_atom_37 rfl (lv_at hl 1 rfl) ?_
      have uss29 : v2.toInt ≤ 240 := ((iv_of (sg_lk (iv_eqm (a' := 91) (b' := 91) c6 hf1 (iv_c 91 (a := 91) (b := 91) (by decide +kernel)) (by decide +kernel)) lv2 hv2) (a' := 0) (b' := 240) (by decide +kernel))).2
      have hG := sgr_str (lo' := v2.toInt) (hi' := 240) hG h0 kv2 ⟨Int.le_refl _, ((iv_of (sg_lk (iv_eqm (a' := 91) (b' := 91) c6 hf1 (iv_c 91 (a := 91) (b := 91) (by decide +kernel)) (by decide +kernel)) lv2 hv2) (a' := 0) (b' := 240) (by decide +kernel))).2⟩
      refine ca_X12_goesIn_6 X hK hG hC hS hb a0 h0 ⟨by omega, by omega, by omega, by omega, by omega⟩ wl_8_5 hl.1 (rest := []) rfl (Nat.le_of_ble_eq_true rfl) ⟨Nat.le_of_ble_eq_true rfl, Nat.le_of_ble_eq_true rfl⟩ ⟨Nat.le_of_ble_eq_true rfl, Nat.le_of_ble_eq_true rfl⟩ dX12_atom_38 (fun f30 tf30 H locs htf30 hf30 hWf30 hS => ?_)
      have hG := hWf30.2.2.2
      rw [htf30] at hG
      refine lv_if_ne (tgt := 46) X.1 X.2.1 dX12_atom_41 (by decide) (fun c31 => ?_) (fun c31 => ?_)
      · exact ((c31 (iv_one hf30 (iv_c 0 (a := 0) (b := 0) (by decide +kernel)) (by decide +kernel)))).elim
      · refine lv_iconst (v := 0) X.1 X.2.1 dX12_atom_44 (by decide +kernel) ?_
        have hG := sgr_weak (d' := 6) (lo' := lo) (hi' := 241) (f' := f) hG (by omega) (by omega) (by omega) (by omega)
        exact sg_iret X hr hlk hb hK hC hG hS trivial dX12_atom_45
  · refine lv_aload_n X.1 X.2.1 dX12_atom_14 rfl (lv_at hl 1 rfl) ?_
    refine lv_dup X.1 X.2.1 dX12_atom_15 rfl ?_
    refine gg_X12_10r X hK hG h0 wl_6_188 kv2 dX12_atom_16 ?_
    refine lv_iconst (v := 1) X.1 X.2.1 dX12_atom_19 (by decide +kernel) ?_
    refine lv_iadd X.1 X.2.1 dX12_atom_20 ?_
    refine lv_topi (fun f32 ef32 => ?_)
    have sf32 : f32.toInt = v2.toInt + 1 := sg_inc (k := 1) ef32 (sg_lk (hf4.2 c5) lv2 hv2) (by decide +kernel)
    have uf32 : f32.toInt ≤ 241 := Int.le_trans ((iv_add (a' := 1) (b' := 240) ef32 (sg_lk (hf4.2 c5) lv2 hv2) (iv_c 1 (a := 1) (b := 1) (by decide +kernel)) (by decide +kernel))).2 (by omega)
    refine pf_X12_10R (lo2 := f32.toInt) (hi2 := 241) X hK hG hS h0 wl_6_188 ⟨_, rfl, Int.le_refl _, uf32⟩ dX12_atom_21 (fun H locs hG hS => ?_)
    refine lv_aload_n X.1 X.2.1 dX12_atom_24 rfl (lv_at hl 1 rfl) ?_
    refine gf_X12_4r X hK hG h0 wl_6_182 dX12_atom_25 (fun q33 hq33 kq33 => ?_)
    refine lv_iload_n X.1 X.2.1 dX12_atom_28 rfl (lv_at hl 0 rfl) ?_
    refine al_48r X hK hG hq33 (iv_vpin (hf4.2 c5) (by decide +kernel)) dX12_atom_29 (fun f34 hf34 => ?_)
    have hG := sgr_weak (d' := 6) (lo' := lo) (hi' := 241) (f' := f) hG (by omega) (by omega) (by omega) (by omega)
    exact sg_iret X hr hlk hb hK hC hG hS trivial dX12_atom_30

theorem ca_X12_atom_6  {b : Bool} {lo mr f : Int}  (X : CallFix p m c cc nL s args sg_tbl own) (hK : va_K D vwCl tys s) (hG : sgG (KR b 6 lo 241 mr f P) D vwCl (fun q : Nat => base ≤ q) tys ad ks H) (hC : sgC base s) (hS : va_S (fun q : Nat => base ≤ q) s.heap H locs) (hb : base ≤ s.heap.size) (a0 : Nat) (h0 : isK ad ks 12 a0) (hlo : 0 ≤ lo ∧ lo ≤ 241 ∧ -1 ≤ f ∧ f ≤ 0 ∧ 0 ≤ mr) (hl : Cond.methodLink own index yX12_atom ∈ sg_tbl) (hsize : ls.size = nL) (hst : st0 = [].reverse ++ .ref a0 :: rest) (hW : (rest.map fun v => v.category).sum ≤ 8) (hR : 6 ≤ R.frames ∧ 130 ≤ R.locals) (hf : cells ≤ R.cells ∧ slots ≤ R.slots) (hdg : decode cc pc = .ok (.invokevirtual index, 3)) (kk : ∀ (r : Int32) (H1 : Heap) (locs1 : List Loc), (fun r : Int32 => True) r → sgG (KR b 6 lo 241 mr f P) D vwCl (fun q : Nat => base ≤ q) tys ad ks H1 → va_S (fun q : Nat => base ≤ q) s.heap H1 locs1 → W p l e R s m args below meth c H1 locs1 cells slots Q (F0 m (pc + 3) ls (.int r :: rest))) : W p l e R s m args below meth c H locs cells slots Q (F0 m pc ls st0) :=
  sg_callVi X hK hG hC hS hb (m_X12_atom_6 l a0 h0 hlo) h0 (k := 12) (ci := 12) rfl (C := RX12) (T := TX12) (N := 53) rfl wl_8_4 wl_1_13 wl_8_3 wl_0_66 (n := 0) (by decide +kernel) rfl rfl rfl hl hsize hst hW hR hf hdg kk
end
