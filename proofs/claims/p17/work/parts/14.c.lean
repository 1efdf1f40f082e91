abbrev cX0_advise : ByteArray := prog_2_method_2_code
def yX0_advise : MethodName := ⟨RX0, "advise", "(LLawnAhead$State;)Z"⟩
abbrev cX0_answer : ByteArray := prog_2_method_3_code
def yX0_answer : MethodName := ⟨RX0, "answer", "(LLawnAhead$State;I)I"⟩
abbrev cX0_canHold : ByteArray := prog_2_method_4_code
def yX0_canHold : MethodName := ⟨RX0, "canHold", "(III)Z"⟩
abbrev cX0_forcing : ByteArray := prog_2_method_5_code
def yX0_forcing : MethodName := ⟨RX0, "forcing", "(LLawnAhead$State;)I"⟩
abbrev cX7_allows : ByteArray := prog_9_method_2_code
def yX7_allows : MethodName := ⟨RX7, "allows", "(LLawnAhead$State;IIII)Z"⟩
abbrev cX7_apply : ByteArray := prog_9_method_3_code
def yX7_apply : MethodName := ⟨RX7, "apply", "(LLawnAhead$State;IIII)V"⟩
abbrev cX7_cellOf : ByteArray := prog_9_method_7_code
def yX7_cellOf : MethodName := ⟨RX7, "cellOf", "(LLawnAhead$State;I)I"⟩
abbrev cX7_endDay : ByteArray := prog_9_method_4_code
def yX7_endDay : MethodName := ⟨RX7, "endDay", "(LLawnAhead$State;)V"⟩
abbrev cX7_isHopeless : ByteArray := prog_9_method_12_code
def yX7_isHopeless : MethodName := ⟨RX7, "isHopeless", "(II)Z"⟩
abbrev cX7_isLeaf : ByteArray := prog_9_method_6_code
def yX7_isLeaf : MethodName := ⟨RX7, "isLeaf", "(I)Z"⟩
abbrev cX7_lookOn : ByteArray := prog_9_method_11_code
def yX7_lookOn : MethodName := ⟨RX7, "lookOn", "()V"⟩
abbrev cX7_runApart : ByteArray := prog_9_method_9_code
def yX7_runApart : MethodName := ⟨RX7, "runApart", "(LLawnAhead$Game;LLawnAhead$State;)I"⟩
abbrev cX7_sitOut : ByteArray := prog_9_method_5_code
def yX7_sitOut : MethodName := ⟨RX7, "sitOut", "(LLawnAhead$State;)V"⟩
abbrev cX7_step : ByteArray := prog_9_method_8_code
def yX7_step : MethodName := ⟨RX7, "step", "(LLawnAhead$State;II)Z"⟩
theorem dX0_advise_0 : decode cX0_advise 0 = .ok (.aload_n 0, 1) := by decide +kernel
theorem dX0_advise_1 : decode cX0_advise 1 = .ok (.getfield 9, 3) := by decide +kernel
theorem dX0_advise_4 : decode cX0_advise 4 = .ok (.aload_n 1, 1) := by decide +kernel
theorem dX0_advise_5 : decode cX0_advise 5 = .ok (.getfield 15, 3) := by decide +kernel
theorem dX0_advise_8 : decode cX0_advise 8 = .ok (.invokevirtual 21, 3) := by decide +kernel
theorem dX0_advise_11 : decode cX0_advise 11 = .ok (.iconst 0, 1) := by decide +kernel
theorem dX0_advise_12 : decode cX0_advise 12 = .ok (.istore_n 2, 1) := by decide +kernel
theorem dX0_advise_13 : decode cX0_advise 13 = .ok (.iconst 0, 1) := by decide +kernel
theorem dX0_advise_14 : decode cX0_advise 14 = .ok (.istore_n 3, 1) := by decide +kernel
theorem dX0_advise_15 : decode cX0_advise 15 = .ok (.iload_n 3, 1) := by decide +kernel
theorem dX0_advise_16 : decode cX0_advise 16 = .ok (.aload_n 0, 1) := by decide +kernel
theorem dX0_advise_17 : decode cX0_advise 17 = .ok (.getfield 9, 3) := by decide +kernel
theorem dX0_advise_20 : decode cX0_advise 20 = .ok (.getfield 27, 3) := by decide +kernel
theorem dX0_advise_23 : decode cX0_advise 23 = .ok (.if_icmp .ge 115, 3) := by decide +kernel
theorem dX0_advise_26 : decode cX0_advise 26 = .ok (.aload_n 1, 1) := by decide +kernel
theorem dX0_advise_27 : decode cX0_advise 27 = .ok (.getfield 15, 3) := by decide +kernel
theorem dX0_advise_30 : decode cX0_advise 30 = .ok (.aload_n 0, 1) := by decide +kernel
theorem dX0_advise_31 : decode cX0_advise 31 = .ok (.getfield 9, 3) := by decide +kernel
theorem dX0_advise_34 : decode cX0_advise 34 = .ok (.getfield 30, 3) := by decide +kernel
theorem dX0_advise_37 : decode cX0_advise 37 = .ok (.iload_n 3, 1) := by decide +kernel
theorem dX0_advise_38 : decode cX0_advise 38 = .ok (.iaload, 1) := by decide +kernel
theorem dX0_advise_39 : decode cX0_advise 39 = .ok (.iconst (-1), 1) := by decide +kernel
theorem dX0_advise_40 : decode cX0_advise 40 = .ok (.ixor, 1) := by decide +kernel
theorem dX0_advise_41 : decode cX0_advise 41 = .ok (.iand, 1) := by decide +kernel
theorem dX0_advise_42 : decode cX0_advise 42 = .ok (.istore 4, 2) := by decide +kernel
theorem dX0_advise_44 : decode cX0_advise 44 = .ok (.aload_n 0, 1) := by decide +kernel
theorem dX0_advise_45 : decode cX0_advise 45 = .ok (.getfield 9, 3) := by decide +kernel
theorem dX0_advise_48 : decode cX0_advise 48 = .ok (.iload 4, 2) := by decide +kernel
theorem dX0_advise_50 : decode cX0_advise 50 = .ok (.aload_n 1, 1) := by decide +kernel
theorem dX0_advise_51 : decode cX0_advise 51 = .ok (.getfield 34, 3) := by decide +kernel
theorem dX0_advise_54 : decode cX0_advise 54 = .ok (.aload_n 1, 1) := by decide +kernel
theorem dX0_advise_55 : decode cX0_advise 55 = .ok (.getfield 37, 3) := by decide +kernel
theorem dX0_advise_58 : decode cX0_advise 58 = .ok (.iconst 1, 1) := by decide +kernel
theorem dX0_advise_59 : decode cX0_advise 59 = .ok (.iadd, 1) := by decide +kernel
theorem dX0_advise_60 : decode cX0_advise 60 = .ok (.invokevirtual 40, 3) := by decide +kernel
theorem dX0_advise_63 : decode cX0_advise 63 = .ok (.invokestatic 44, 3) := by decide +kernel
theorem dX0_advise_66 : decode cX0_advise 66 = .ok (.istore 5, 2) := by decide +kernel
theorem dX0_advise_68 : decode cX0_advise 68 = .ok (.aload_n 0, 1) := by decide +kernel
theorem dX0_advise_69 : decode cX0_advise 69 = .ok (.getfield 9, 3) := by decide +kernel
theorem dX0_advise_72 : decode cX0_advise 72 = .ok (.getfield 50, 3) := by decide +kernel
theorem dX0_advise_75 : decode cX0_advise 75 = .ok (.iload_n 3, 1) := by decide +kernel
theorem dX0_advise_76 : decode cX0_advise 76 = .ok (.iaload, 1) := by decide +kernel
theorem dX0_advise_77 : decode cX0_advise 77 = .ok (.bipush 10, 2) := by decide +kernel
theorem dX0_advise_79 : decode cX0_advise 79 = .ok (.irem, 1) := by decide +kernel
theorem dX0_advise_80 : decode cX0_advise 80 = .ok (.istore 6, 2) := by decide +kernel
theorem dX0_advise_82 : decode cX0_advise 82 = .ok (.iload_n 2, 1) := by decide +kernel
theorem dX0_advise_83 : decode cX0_advise 83 = .ok (.ifCond .eq 27, 3) := by decide +kernel
theorem dX0_advise_86 : decode cX0_advise 86 = .ok (.iload 5, 2) := by decide +kernel
theorem dX0_advise_88 : decode cX0_advise 88 = .ok (.aload_n 0, 1) := by decide +kernel
theorem dX0_advise_89 : decode cX0_advise 89 = .ok (.getfield 53, 3) := by decide +kernel
theorem dX0_advise_92 : decode cX0_advise 92 = .ok (.if_icmp .lt 18, 3) := by decide +kernel
theorem dX0_advise_95 : decode cX0_advise 95 = .ok (.iload 5, 2) := by decide +kernel
theorem dX0_advise_97 : decode cX0_advise 97 = .ok (.aload_n 0, 1) := by decide +kernel
theorem dX0_advise_98 : decode cX0_advise 98 = .ok (.getfield 53, 3) := by decide +kernel
theorem dX0_advise_101 : decode cX0_advise 101 = .ok (.if_icmp .ne 31, 3) := by decide +kernel
theorem dX0_advise_104 : decode cX0_advise 104 = .ok (.iload 6, 2) := by decide +kernel
theorem dX0_advise_106 : decode cX0_advise 106 = .ok (.iload_n 2, 1) := by decide +kernel
theorem dX0_advise_107 : decode cX0_advise 107 = .ok (.if_icmp .le 25, 3) := by decide +kernel
theorem dX0_advise_110 : decode cX0_advise 110 = .ok (.aload_n 0, 1) := by decide +kernel
theorem dX0_advise_111 : decode cX0_advise 111 = .ok (.aload_n 0, 1) := by decide +kernel
theorem dX0_advise_112 : decode cX0_advise 112 = .ok (.getfield 9, 3) := by decide +kernel
theorem dX0_advise_115 : decode cX0_advise 115 = .ok (.getfield 50, 3) := by decide +kernel
theorem dX0_advise_118 : decode cX0_advise 118 = .ok (.iload_n 3, 1) := by decide +kernel
theorem dX0_advise_119 : decode cX0_advise 119 = .ok (.iaload, 1) := by decide +kernel
theorem dX0_advise_120 : decode cX0_advise 120 = .ok (.putfield 56, 3) := by decide +kernel
theorem dX0_advise_123 : decode cX0_advise 123 = .ok (.aload_n 0, 1) := by decide +kernel
theorem dX0_advise_124 : decode cX0_advise 124 = .ok (.iload 5, 2) := by decide +kernel
theorem dX0_advise_126 : decode cX0_advise 126 = .ok (.putfield 53, 3) := by decide +kernel
theorem dX0_advise_129 : decode cX0_advise 129 = .ok (.iload 6, 2) := by decide +kernel
theorem dX0_advise_131 : decode cX0_advise 131 = .ok (.istore_n 2, 1) := by decide +kernel
theorem dX0_advise_132 : decode cX0_advise 132 = .ok (.iinc 3 1, 3) := by decide +kernel
theorem dX0_advise_135 : decode cX0_advise 135 = .ok (.goto (-120), 3) := by decide +kernel
theorem dX0_advise_138 : decode cX0_advise 138 = .ok (.iload_n 2, 1) := by decide +kernel
theorem dX0_advise_139 : decode cX0_advise 139 = .ok (.ifCond .le 7, 3) := by decide +kernel
theorem dX0_advise_142 : decode cX0_advise 142 = .ok (.iconst 1, 1) := by decide +kernel
theorem dX0_advise_143 : decode cX0_advise 143 = .ok (.goto 4, 3) := by decide +kernel
theorem dX0_advise_146 : decode cX0_advise 146 = .ok (.iconst 0, 1) := by decide +kernel
theorem dX0_advise_147 : decode cX0_advise 147 = .ok (.ireturn, 1) := by decide +kernel
theorem dX0_answer_0 : decode cX0_answer 0 = .ok (.aload_n 0, 1) := by decide +kernel
theorem dX0_answer_1 : decode cX0_answer 1 = .ok (.getfield 9, 3) := by decide +kernel
theorem dX0_answer_4 : decode cX0_answer 4 = .ok (.aload_n 1, 1) := by decide +kernel
theorem dX0_answer_5 : decode cX0_answer 5 = .ok (.getfield 15, 3) := by decide +kernel
theorem dX0_answer_8 : decode cX0_answer 8 = .ok (.invokevirtual 21, 3) := by decide +kernel
theorem dX0_answer_11 : decode cX0_answer 11 = .ok (.iconst 0, 1) := by decide +kernel
theorem dX0_answer_12 : decode cX0_answer 12 = .ok (.istore_n 3, 1) := by decide +kernel
theorem dX0_answer_13 : decode cX0_answer 13 = .ok (.iconst 0, 1) := by decide +kernel
theorem dX0_answer_14 : decode cX0_answer 14 = .ok (.istore 4, 2) := by decide +kernel
theorem dX0_answer_16 : decode cX0_answer 16 = .ok (.iload 4, 2) := by decide +kernel
theorem dX0_answer_18 : decode cX0_answer 18 = .ok (.aload_n 0, 1) := by decide +kernel
theorem dX0_answer_19 : decode cX0_answer 19 = .ok (.getfield 9, 3) := by decide +kernel
theorem dX0_answer_22 : decode cX0_answer 22 = .ok (.getfield 27, 3) := by decide +kernel
theorem dX0_answer_25 : decode cX0_answer 25 = .ok (.if_icmp .ge 69, 3) := by decide +kernel
theorem dX0_answer_28 : decode cX0_answer 28 = .ok (.aload_n 1, 1) := by decide +kernel
theorem dX0_answer_29 : decode cX0_answer 29 = .ok (.getfield 15, 3) := by decide +kernel
theorem dX0_answer_32 : decode cX0_answer 32 = .ok (.aload_n 0, 1) := by decide +kernel
theorem dX0_answer_33 : decode cX0_answer 33 = .ok (.getfield 9, 3) := by decide +kernel
theorem dX0_answer_36 : decode cX0_answer 36 = .ok (.getfield 30, 3) := by decide +kernel
theorem dX0_answer_39 : decode cX0_answer 39 = .ok (.iload 4, 2) := by decide +kernel
theorem dX0_answer_41 : decode cX0_answer 41 = .ok (.iaload, 1) := by decide +kernel
theorem dX0_answer_42 : decode cX0_answer 42 = .ok (.iconst (-1), 1) := by decide +kernel
theorem dX0_answer_43 : decode cX0_answer 43 = .ok (.ixor, 1) := by decide +kernel
theorem dX0_answer_44 : decode cX0_answer 44 = .ok (.iand, 1) := by decide +kernel
theorem dX0_answer_45 : decode cX0_answer 45 = .ok (.istore 5, 2) := by decide +kernel
theorem dX0_answer_47 : decode cX0_answer 47 = .ok (.aload_n 0, 1) := by decide +kernel
theorem dX0_answer_48 : decode cX0_answer 48 = .ok (.getfield 9, 3) := by decide +kernel
theorem dX0_answer_51 : decode cX0_answer 51 = .ok (.iload 5, 2) := by decide +kernel
theorem dX0_answer_53 : decode cX0_answer 53 = .ok (.aload_n 1, 1) := by decide +kernel
theorem dX0_answer_54 : decode cX0_answer 54 = .ok (.getfield 34, 3) := by decide +kernel
theorem dX0_answer_57 : decode cX0_answer 57 = .ok (.aload_n 1, 1) := by decide +kernel
theorem dX0_answer_58 : decode cX0_answer 58 = .ok (.getfield 37, 3) := by decide +kernel
theorem dX0_answer_61 : decode cX0_answer 61 = .ok (.iconst 1, 1) := by decide +kernel
theorem dX0_answer_62 : decode cX0_answer 62 = .ok (.iadd, 1) := by decide +kernel
theorem dX0_answer_63 : decode cX0_answer 63 = .ok (.invokevirtual 59, 3) := by decide +kernel
theorem dX0_answer_66 : decode cX0_answer 66 = .ok (.ifCond .ne 22, 3) := by decide +kernel
theorem dX0_answer_69 : decode cX0_answer 69 = .ok (.iload_n 3, 1) := by decide +kernel
theorem dX0_answer_70 : decode cX0_answer 70 = .ok (.iload_n 2, 1) := by decide +kernel
theorem dX0_answer_71 : decode cX0_answer 71 = .ok (.if_icmp .ne 14, 3) := by decide +kernel
theorem dX0_answer_74 : decode cX0_answer 74 = .ok (.aload_n 0, 1) := by decide +kernel
theorem dX0_answer_75 : decode cX0_answer 75 = .ok (.getfield 9, 3) := by decide +kernel
theorem dX0_answer_78 : decode cX0_answer 78 = .ok (.getfield 50, 3) := by decide +kernel
theorem dX0_answer_81 : decode cX0_answer 81 = .ok (.iload 4, 2) := by decide +kernel
theorem dX0_answer_83 : decode cX0_answer 83 = .ok (.iaload, 1) := by decide +kernel
theorem dX0_answer_84 : decode cX0_answer 84 = .ok (.ireturn, 1) := by decide +kernel
theorem dX0_answer_85 : decode cX0_answer 85 = .ok (.iinc 3 1, 3) := by decide +kernel
theorem dX0_answer_88 : decode cX0_answer 88 = .ok (.iinc 4 1, 3) := by decide +kernel
theorem dX0_answer_91 : decode cX0_answer 91 = .ok (.goto (-75), 3) := by decide +kernel
theorem dX0_answer_94 : decode cX0_answer 94 = .ok (.iload_n 2, 1) := by decide +kernel
theorem dX0_answer_95 : decode cX0_answer 95 = .ok (.iconst (-1), 1) := by decide +kernel
theorem dX0_answer_96 : decode cX0_answer 96 = .ok (.if_icmp .ne 7, 3) := by decide +kernel
theorem dX0_answer_99 : decode cX0_answer 99 = .ok (.iload_n 3, 1) := by decide +kernel
theorem dX0_answer_100 : decode cX0_answer 100 = .ok (.goto 4, 3) := by decide +kernel
theorem dX0_answer_103 : decode cX0_answer 103 = .ok (.iconst (-1), 1) := by decide +kernel
theorem dX0_answer_104 : decode cX0_answer 104 = .ok (.ireturn, 1) := by decide +kernel
theorem dX0_canHold_0 : decode cX0_canHold 0 = .ok (.aload_n 0, 1) := by decide +kernel
theorem dX0_canHold_1 : decode cX0_canHold 1 = .ok (.getfield 9, 3) := by decide +kernel
theorem dX0_canHold_4 : decode cX0_canHold 4 = .ok (.iload_n 1, 1) := by decide +kernel
theorem dX0_canHold_5 : decode cX0_canHold 5 = .ok (.iload_n 2, 1) := by decide +kernel
theorem dX0_canHold_6 : decode cX0_canHold 6 = .ok (.iload_n 3, 1) := by decide +kernel
theorem dX0_canHold_7 : decode cX0_canHold 7 = .ok (.iconst 1, 1) := by decide +kernel
theorem dX0_canHold_8 : decode cX0_canHold 8 = .ok (.iadd, 1) := by decide +kernel
theorem dX0_canHold_9 : decode cX0_canHold 9 = .ok (.invokevirtual 59, 3) := by decide +kernel
theorem dX0_canHold_12 : decode cX0_canHold 12 = .ok (.ifCond .ne 5, 3) := by decide +kernel
theorem dX0_canHold_15 : decode cX0_canHold 15 = .ok (.iconst 1, 1) := by decide +kernel
theorem dX0_canHold_16 : decode cX0_canHold 16 = .ok (.ireturn, 1) := by decide +kernel
theorem dX0_canHold_17 : decode cX0_canHold 17 = .ok (.aload_n 0, 1) := by decide +kernel
theorem dX0_canHold_18 : decode cX0_canHold 18 = .ok (.getfield 9, 3) := by decide +kernel
theorem dX0_canHold_21 : decode cX0_canHold 21 = .ok (.iload_n 1, 1) := by decide +kernel
theorem dX0_canHold_22 : decode cX0_canHold 22 = .ok (.invokevirtual 21, 3) := by decide +kernel
theorem dX0_canHold_25 : decode cX0_canHold 25 = .ok (.iconst 0, 1) := by decide +kernel
theorem dX0_canHold_26 : decode cX0_canHold 26 = .ok (.istore 4, 2) := by decide +kernel
theorem dX0_canHold_28 : decode cX0_canHold 28 = .ok (.iload 4, 2) := by decide +kernel
theorem dX0_canHold_30 : decode cX0_canHold 30 = .ok (.aload_n 0, 1) := by decide +kernel
theorem dX0_canHold_31 : decode cX0_canHold 31 = .ok (.getfield 9, 3) := by decide +kernel
theorem dX0_canHold_34 : decode cX0_canHold 34 = .ok (.getfield 27, 3) := by decide +kernel
theorem dX0_canHold_37 : decode cX0_canHold 37 = .ok (.if_icmp .ge 39, 3) := by decide +kernel
theorem dX0_canHold_40 : decode cX0_canHold 40 = .ok (.aload_n 0, 1) := by decide +kernel
theorem dX0_canHold_41 : decode cX0_canHold 41 = .ok (.getfield 9, 3) := by decide +kernel
theorem dX0_canHold_44 : decode cX0_canHold 44 = .ok (.iload_n 1, 1) := by decide +kernel
theorem dX0_canHold_45 : decode cX0_canHold 45 = .ok (.aload_n 0, 1) := by decide +kernel
theorem dX0_canHold_46 : decode cX0_canHold 46 = .ok (.getfield 9, 3) := by decide +kernel
theorem dX0_canHold_49 : decode cX0_canHold 49 = .ok (.getfield 30, 3) := by decide +kernel
theorem dX0_canHold_52 : decode cX0_canHold 52 = .ok (.iload 4, 2) := by decide +kernel
theorem dX0_canHold_54 : decode cX0_canHold 54 = .ok (.iaload, 1) := by decide +kernel
theorem dX0_canHold_55 : decode cX0_canHold 55 = .ok (.iconst (-1), 1) := by decide +kernel
theorem dX0_canHold_56 : decode cX0_canHold 56 = .ok (.ixor, 1) := by decide +kernel
theorem dX0_canHold_57 : decode cX0_canHold 57 = .ok (.iand, 1) := by decide +kernel
theorem dX0_canHold_58 : decode cX0_canHold 58 = .ok (.iload_n 2, 1) := by decide +kernel
theorem dX0_canHold_59 : decode cX0_canHold 59 = .ok (.iload_n 3, 1) := by decide +kernel
theorem dX0_canHold_60 : decode cX0_canHold 60 = .ok (.iconst 1, 1) := by decide +kernel
theorem dX0_canHold_61 : decode cX0_canHold 61 = .ok (.iadd, 1) := by decide +kernel
theorem dX0_canHold_62 : decode cX0_canHold 62 = .ok (.invokevirtual 59, 3) := by decide +kernel
theorem dX0_canHold_65 : decode cX0_canHold 65 = .ok (.ifCond .ne 5, 3) := by decide +kernel
theorem dX0_canHold_68 : decode cX0_canHold 68 = .ok (.iconst 1, 1) := by decide +kernel
theorem dX0_canHold_69 : decode cX0_canHold 69 = .ok (.ireturn, 1) := by decide +kernel
theorem dX0_canHold_70 : decode cX0_canHold 70 = .ok (.iinc 4 1, 3) := by decide +kernel
theorem dX0_canHold_73 : decode cX0_canHold 73 = .ok (.goto (-45), 3) := by decide +kernel
theorem dX0_canHold_76 : decode cX0_canHold 76 = .ok (.iconst 0, 1) := by decide +kernel
theorem dX0_canHold_77 : decode cX0_canHold 77 = .ok (.ireturn, 1) := by decide +kernel
theorem dX0_forcing_0 : decode cX0_forcing 0 = .ok (.aload_n 0, 1) := by decide +kernel
theorem dX0_forcing_1 : decode cX0_forcing 1 = .ok (.getfield 9, 3) := by decide +kernel
theorem dX0_forcing_4 : decode cX0_forcing 4 = .ok (.aload_n 1, 1) := by decide +kernel
theorem dX0_forcing_5 : decode cX0_forcing 5 = .ok (.getfield 15, 3) := by decide +kernel
theorem dX0_forcing_8 : decode cX0_forcing 8 = .ok (.aload_n 1, 1) := by decide +kernel
theorem dX0_forcing_9 : decode cX0_forcing 9 = .ok (.getfield 34, 3) := by decide +kernel
theorem dX0_forcing_12 : decode cX0_forcing 12 = .ok (.aload_n 1, 1) := by decide +kernel
theorem dX0_forcing_13 : decode cX0_forcing 13 = .ok (.getfield 37, 3) := by decide +kernel
theorem dX0_forcing_16 : decode cX0_forcing 16 = .ok (.invokevirtual 63, 3) := by decide +kernel
theorem dX0_forcing_19 : decode cX0_forcing 19 = .ok (.istore_n 2, 1) := by decide +kernel
theorem dX0_forcing_20 : decode cX0_forcing 20 = .ok (.iconst 0, 1) := by decide +kernel
theorem dX0_forcing_21 : decode cX0_forcing 21 = .ok (.istore_n 3, 1) := by decide +kernel
theorem dX0_forcing_22 : decode cX0_forcing 22 = .ok (.iload_n 3, 1) := by decide +kernel
theorem dX0_forcing_23 : decode cX0_forcing 23 = .ok (.aload_n 0, 1) := by decide +kernel
theorem dX0_forcing_24 : decode cX0_forcing 24 = .ok (.getfield 9, 3) := by decide +kernel
theorem dX0_forcing_27 : decode cX0_forcing 27 = .ok (.getfield 66, 3) := by decide +kernel
theorem dX0_forcing_30 : decode cX0_forcing 30 = .ok (.getfield 70, 3) := by decide +kernel
theorem dX0_forcing_33 : decode cX0_forcing 33 = .ok (.if_icmp .ge 61, 3) := by decide +kernel
theorem dX0_forcing_36 : decode cX0_forcing 36 = .ok (.iload_n 2, 1) := by decide +kernel
theorem dX0_forcing_37 : decode cX0_forcing 37 = .ok (.iload_n 3, 1) := by decide +kernel
theorem dX0_forcing_38 : decode cX0_forcing 38 = .ok (.ishr, 1) := by decide +kernel
theorem dX0_forcing_39 : decode cX0_forcing 39 = .ok (.iconst 1, 1) := by decide +kernel
theorem dX0_forcing_40 : decode cX0_forcing 40 = .ok (.iand, 1) := by decide +kernel
theorem dX0_forcing_41 : decode cX0_forcing 41 = .ok (.ifCond .eq 47, 3) := by decide +kernel
theorem dX0_forcing_44 : decode cX0_forcing 44 = .ok (.aload_n 1, 1) := by decide +kernel
theorem dX0_forcing_45 : decode cX0_forcing 45 = .ok (.getfield 15, 3) := by decide +kernel
theorem dX0_forcing_48 : decode cX0_forcing 48 = .ok (.iconst 1, 1) := by decide +kernel
theorem dX0_forcing_49 : decode cX0_forcing 49 = .ok (.iload_n 3, 1) := by decide +kernel
theorem dX0_forcing_50 : decode cX0_forcing 50 = .ok (.ishl, 1) := by decide +kernel
theorem dX0_forcing_51 : decode cX0_forcing 51 = .ok (.ior, 1) := by decide +kernel
theorem dX0_forcing_52 : decode cX0_forcing 52 = .ok (.istore 4, 2) := by decide +kernel
theorem dX0_forcing_54 : decode cX0_forcing 54 = .ok (.aload_n 0, 1) := by decide +kernel
theorem dX0_forcing_55 : decode cX0_forcing 55 = .ok (.getfield 9, 3) := by decide +kernel
theorem dX0_forcing_58 : decode cX0_forcing 58 = .ok (.getfield 66, 3) := by decide +kernel
theorem dX0_forcing_61 : decode cX0_forcing 61 = .ok (.iload 4, 2) := by decide +kernel
theorem dX0_forcing_63 : decode cX0_forcing 63 = .ok (.invokevirtual 75, 3) := by decide +kernel
theorem dX0_forcing_66 : decode cX0_forcing 66 = .ok (.ifCond .ne 20, 3) := by decide +kernel
theorem dX0_forcing_69 : decode cX0_forcing 69 = .ok (.aload_n 0, 1) := by decide +kernel
theorem dX0_forcing_70 : decode cX0_forcing 70 = .ok (.iload 4, 2) := by decide +kernel
theorem dX0_forcing_72 : decode cX0_forcing 72 = .ok (.aload_n 1, 1) := by decide +kernel
theorem dX0_forcing_73 : decode cX0_forcing 73 = .ok (.getfield 34, 3) := by decide +kernel
theorem dX0_forcing_76 : decode cX0_forcing 76 = .ok (.aload_n 1, 1) := by decide +kernel
theorem dX0_forcing_77 : decode cX0_forcing 77 = .ok (.getfield 37, 3) := by decide +kernel
theorem dX0_forcing_80 : decode cX0_forcing 80 = .ok (.invokevirtual 79, 3) := by decide +kernel
theorem dX0_forcing_83 : decode cX0_forcing 83 = .ok (.ifCond .ne 5, 3) := by decide +kernel
theorem dX0_forcing_86 : decode cX0_forcing 86 = .ok (.iload_n 3, 1) := by decide +kernel
theorem dX0_forcing_87 : decode cX0_forcing 87 = .ok (.ireturn, 1) := by decide +kernel
theorem dX0_forcing_88 : decode cX0_forcing 88 = .ok (.iinc 3 1, 3) := by decide +kernel
theorem dX0_forcing_91 : decode cX0_forcing 91 = .ok (.goto (-69), 3) := by decide +kernel
theorem dX0_forcing_94 : decode cX0_forcing 94 = .ok (.iconst (-1), 1) := by decide +kernel
theorem dX0_forcing_95 : decode cX0_forcing 95 = .ok (.ireturn, 1) := by decide +kernel
theorem dX7_allows_0 : decode cX7_allows 0 = .ok (.aload_n 0, 1) := by decide +kernel
theorem dX7_allows_1 : decode cX7_allows 1 = .ok (.getfield 31, 3) := by decide +kernel
theorem dX7_allows_4 : decode cX7_allows 4 = .ok (.getfield 36, 3) := by decide +kernel
theorem dX7_allows_7 : decode cX7_allows 7 = .ok (.astore 6, 2) := by decide +kernel
theorem dX7_allows_9 : decode cX7_allows 9 = .ok (.aload 6, 2) := by decide +kernel
theorem dX7_allows_11 : decode cX7_allows 11 = .ok (.getfield 42, 3) := by decide +kernel
theorem dX7_allows_14 : decode cX7_allows 14 = .ok (.ifCond .eq 10, 3) := by decide +kernel
theorem dX7_allows_17 : decode cX7_allows 17 = .ok (.aload_n 1, 1) := by decide +kernel
theorem dX7_allows_18 : decode cX7_allows 18 = .ok (.getfield 48, 3) := by decide +kernel
theorem dX7_allows_21 : decode cX7_allows 21 = .ok (.ifCond .eq 5, 3) := by decide +kernel
theorem dX7_allows_24 : decode cX7_allows 24 = .ok (.iconst 0, 1) := by decide +kernel
theorem dX7_allows_25 : decode cX7_allows 25 = .ok (.ireturn, 1) := by decide +kernel
theorem dX7_allows_26 : decode cX7_allows 26 = .ok (.iload_n 2, 1) := by decide +kernel
theorem dX7_allows_27 : decode cX7_allows 27 = .ok (.tableswitch 128 0 2 #[25, 61, 92], 25) := by decide +kernel
theorem dX7_allows_52 : decode cX7_allows 52 = .ok (.aload_n 1, 1) := by decide +kernel
theorem dX7_allows_53 : decode cX7_allows 53 = .ok (.getfield 52, 3) := by decide +kernel
theorem dX7_allows_56 : decode cX7_allows 56 = .ok (.ifCond .ne 30, 3) := by decide +kernel
theorem dX7_allows_59 : decode cX7_allows 59 = .ok (.aload_n 0, 1) := by decide +kernel
theorem dX7_allows_60 : decode cX7_allows 60 = .ok (.getfield 31, 3) := by decide +kernel
theorem dX7_allows_63 : decode cX7_allows 63 = .ok (.iload_n 3, 1) := by decide +kernel
theorem dX7_allows_64 : decode cX7_allows 64 = .ok (.aload_n 1, 1) := by decide +kernel
theorem dX7_allows_65 : decode cX7_allows 65 = .ok (.getfield 55, 3) := by decide +kernel
theorem dX7_allows_68 : decode cX7_allows 68 = .ok (.aload_n 1, 1) := by decide +kernel
theorem dX7_allows_69 : decode cX7_allows 69 = .ok (.getfield 58, 3) := by decide +kernel
theorem dX7_allows_72 : decode cX7_allows 72 = .ok (.aload_n 1, 1) := by decide +kernel
theorem dX7_allows_73 : decode cX7_allows 73 = .ok (.getfield 61, 3) := by decide +kernel
theorem dX7_allows_76 : decode cX7_allows 76 = .ok (.invokevirtual 64, 3) := by decide +kernel
theorem dX7_allows_79 : decode cX7_allows 79 = .ok (.ifCond .eq 7, 3) := by decide +kernel
theorem dX7_allows_82 : decode cX7_allows 82 = .ok (.iconst 1, 1) := by decide +kernel
theorem dX7_allows_83 : decode cX7_allows 83 = .ok (.goto 4, 3) := by decide +kernel
theorem dX7_allows_86 : decode cX7_allows 86 = .ok (.iconst 0, 1) := by decide +kernel
theorem dX7_allows_87 : decode cX7_allows 87 = .ok (.ireturn, 1) := by decide +kernel
theorem dX7_allows_88 : decode cX7_allows 88 = .ok (.aload_n 1, 1) := by decide +kernel
theorem dX7_allows_89 : decode cX7_allows 89 = .ok (.getfield 52, 3) := by decide +kernel
theorem dX7_allows_92 : decode cX7_allows 92 = .ok (.iconst 1, 1) := by decide +kernel
theorem dX7_allows_93 : decode cX7_allows 93 = .ok (.if_icmp .ne 24, 3) := by decide +kernel
theorem dX7_allows_96 : decode cX7_allows 96 = .ok (.aload 6, 2) := by decide +kernel
theorem dX7_allows_98 : decode cX7_allows 98 = .ok (.aload_n 1, 1) := by decide +kernel
theorem dX7_allows_99 : decode cX7_allows 99 = .ok (.getfield 55, 3) := by decide +kernel
theorem dX7_allows_102 : decode cX7_allows 102 = .ok (.iload_n 3, 1) := by decide +kernel
theorem dX7_allows_103 : decode cX7_allows 103 = .ok (.iload 4, 2) := by decide +kernel
theorem dX7_allows_105 : decode cX7_allows 105 = .ok (.iload 5, 2) := by decide +kernel
theorem dX7_allows_107 : decode cX7_allows 107 = .ok (.invokevirtual 68, 3) := by decide +kernel
theorem dX7_allows_110 : decode cX7_allows 110 = .ok (.ifCond .eq 7, 3) := by decide +kernel
theorem dX7_allows_113 : decode cX7_allows 113 = .ok (.iconst 1, 1) := by decide +kernel
theorem dX7_allows_114 : decode cX7_allows 114 = .ok (.goto 4, 3) := by decide +kernel
theorem dX7_allows_117 : decode cX7_allows 117 = .ok (.iconst 0, 1) := by decide +kernel
theorem dX7_allows_118 : decode cX7_allows 118 = .ok (.ireturn, 1) := by decide +kernel
theorem dX7_allows_119 : decode cX7_allows 119 = .ok (.iload_n 3, 1) := by decide +kernel
theorem dX7_allows_120 : decode cX7_allows 120 = .ok (.ifCond .lt 33, 3) := by decide +kernel
theorem dX7_allows_123 : decode cX7_allows 123 = .ok (.iload_n 3, 1) := by decide +kernel
theorem dX7_allows_124 : decode cX7_allows 124 = .ok (.aload 6, 2) := by decide +kernel
theorem dX7_allows_126 : decode cX7_allows 126 = .ok (.getfield 42, 3) := by decide +kernel
theorem dX7_allows_129 : decode cX7_allows 129 = .ok (.if_icmp .ge 24, 3) := by decide +kernel
theorem dX7_allows_132 : decode cX7_allows 132 = .ok (.aload 6, 2) := by decide +kernel
theorem dX7_allows_134 : decode cX7_allows 134 = .ok (.getfield 71, 3) := by decide +kernel
theorem dX7_allows_137 : decode cX7_allows 137 = .ok (.aload_n 1, 1) := by decide +kernel
theorem dX7_allows_138 : decode cX7_allows 138 = .ok (.getfield 58, 3) := by decide +kernel
theorem dX7_allows_141 : decode cX7_allows 141 = .ok (.ior, 1) := by decide +kernel
theorem dX7_allows_142 : decode cX7_allows 142 = .ok (.iload_n 3, 1) := by decide +kernel
theorem dX7_allows_143 : decode cX7_allows 143 = .ok (.ishr, 1) := by decide +kernel
theorem dX7_allows_144 : decode cX7_allows 144 = .ok (.iconst 1, 1) := by decide +kernel
theorem dX7_allows_145 : decode cX7_allows 145 = .ok (.iand, 1) := by decide +kernel
theorem dX7_allows_146 : decode cX7_allows 146 = .ok (.ifCond .ne 7, 3) := by decide +kernel
theorem dX7_allows_149 : decode cX7_allows 149 = .ok (.iconst 1, 1) := by decide +kernel
theorem dX7_allows_150 : decode cX7_allows 150 = .ok (.goto 4, 3) := by decide +kernel
theorem dX7_allows_153 : decode cX7_allows 153 = .ok (.iconst 0, 1) := by decide +kernel
theorem dX7_allows_154 : decode cX7_allows 154 = .ok (.ireturn, 1) := by decide +kernel
theorem dX7_allows_155 : decode cX7_allows 155 = .ok (.iconst 1, 1) := by decide +kernel
theorem dX7_allows_156 : decode cX7_allows 156 = .ok (.ireturn, 1) := by decide +kernel
theorem dX7_apply_0 : decode cX7_apply 0 = .ok (.iload_n 2, 1) := by decide +kernel
theorem dX7_apply_1 : decode cX7_apply 1 = .ok (.tableswitch 127 0 2 #[27, 65, 98], 27) := by decide +kernel
theorem dX7_apply_28 : decode cX7_apply 28 = .ok (.aload_n 1, 1) := by decide +kernel
theorem dX7_apply_29 : decode cX7_apply 29 = .ok (.dup, 1) := by decide +kernel
theorem dX7_apply_30 : decode cX7_apply 30 = .ok (.getfield 55, 3) := by decide +kernel
theorem dX7_apply_33 : decode cX7_apply 33 = .ok (.iconst 1, 1) := by decide +kernel
theorem dX7_apply_34 : decode cX7_apply 34 = .ok (.iload_n 3, 1) := by decide +kernel
theorem dX7_apply_35 : decode cX7_apply 35 = .ok (.ishl, 1) := by decide +kernel
theorem dX7_apply_36 : decode cX7_apply 36 = .ok (.ior, 1) := by decide +kernel
theorem dX7_apply_37 : decode cX7_apply 37 = .ok (.putfield 55, 3) := by decide +kernel
theorem dX7_apply_40 : decode cX7_apply 40 = .ok (.aload_n 1, 1) := by decide +kernel
theorem dX7_apply_41 : decode cX7_apply 41 = .ok (.aload_n 0, 1) := by decide +kernel
theorem dX7_apply_42 : decode cX7_apply 42 = .ok (.getfield 31, 3) := by decide +kernel
theorem dX7_apply_45 : decode cX7_apply 45 = .ok (.getfield 36, 3) := by decide +kernel
theorem dX7_apply_48 : decode cX7_apply 48 = .ok (.aload_n 1, 1) := by decide +kernel
theorem dX7_apply_49 : decode cX7_apply 49 = .ok (.getfield 55, 3) := by decide +kernel
theorem dX7_apply_52 : decode cX7_apply 52 = .ok (.invokevirtual 74, 3) := by decide +kernel
theorem dX7_apply_55 : decode cX7_apply 55 = .ok (.putfield 48, 3) := by decide +kernel
theorem dX7_apply_58 : decode cX7_apply 58 = .ok (.aload_n 1, 1) := by decide +kernel
theorem dX7_apply_59 : decode cX7_apply 59 = .ok (.iconst 1, 1) := by decide +kernel
theorem dX7_apply_60 : decode cX7_apply 60 = .ok (.putfield 52, 3) := by decide +kernel
theorem dX7_apply_63 : decode cX7_apply 63 = .ok (.goto 69, 3) := by decide +kernel
theorem dX7_apply_66 : decode cX7_apply 66 = .ok (.aload_n 1, 1) := by decide +kernel
theorem dX7_apply_67 : decode cX7_apply 67 = .ok (.dup, 1) := by decide +kernel
theorem dX7_apply_68 : decode cX7_apply 68 = .ok (.getfield 55, 3) := by decide +kernel
theorem dX7_apply_71 : decode cX7_apply 71 = .ok (.aload_n 0, 1) := by decide +kernel
theorem dX7_apply_72 : decode cX7_apply 72 = .ok (.getfield 31, 3) := by decide +kernel
theorem dX7_apply_75 : decode cX7_apply 75 = .ok (.getfield 36, 3) := by decide +kernel
theorem dX7_apply_78 : decode cX7_apply 78 = .ok (.iload_n 3, 1) := by decide +kernel
theorem dX7_apply_79 : decode cX7_apply 79 = .ok (.iload 4, 2) := by decide +kernel
theorem dX7_apply_81 : decode cX7_apply 81 = .ok (.iload 5, 2) := by decide +kernel
theorem dX7_apply_83 : decode cX7_apply 83 = .ok (.invokevirtual 78, 3) := by decide +kernel
theorem dX7_apply_86 : decode cX7_apply 86 = .ok (.iconst (-1), 1) := by decide +kernel
theorem dX7_apply_87 : decode cX7_apply 87 = .ok (.ixor, 1) := by decide +kernel
theorem dX7_apply_88 : decode cX7_apply 88 = .ok (.iand, 1) := by decide +kernel
theorem dX7_apply_89 : decode cX7_apply 89 = .ok (.putfield 55, 3) := by decide +kernel
theorem dX7_apply_92 : decode cX7_apply 92 = .ok (.aload_n 1, 1) := by decide +kernel
theorem dX7_apply_93 : decode cX7_apply 93 = .ok (.invokestatic 82, 3) := by decide +kernel
theorem dX7_apply_96 : decode cX7_apply 96 = .ok (.goto 36, 3) := by decide +kernel
theorem dX7_apply_99 : decode cX7_apply 99 = .ok (.aload_n 1, 1) := by decide +kernel
theorem dX7_apply_100 : decode cX7_apply 100 = .ok (.dup, 1) := by decide +kernel
theorem dX7_apply_101 : decode cX7_apply 101 = .ok (.getfield 55, 3) := by decide +kernel
theorem dX7_apply_104 : decode cX7_apply 104 = .ok (.iconst 1, 1) := by decide +kernel
theorem dX7_apply_105 : decode cX7_apply 105 = .ok (.iload_n 3, 1) := by decide +kernel
theorem dX7_apply_106 : decode cX7_apply 106 = .ok (.ishl, 1) := by decide +kernel
theorem dX7_apply_107 : decode cX7_apply 107 = .ok (.iconst (-1), 1) := by decide +kernel
theorem dX7_apply_108 : decode cX7_apply 108 = .ok (.ixor, 1) := by decide +kernel
theorem dX7_apply_109 : decode cX7_apply 109 = .ok (.iand, 1) := by decide +kernel
theorem dX7_apply_110 : decode cX7_apply 110 = .ok (.putfield 55, 3) := by decide +kernel
theorem dX7_apply_113 : decode cX7_apply 113 = .ok (.aload_n 1, 1) := by decide +kernel
theorem dX7_apply_114 : decode cX7_apply 114 = .ok (.dup, 1) := by decide +kernel
theorem dX7_apply_115 : decode cX7_apply 115 = .ok (.getfield 58, 3) := by decide +kernel
theorem dX7_apply_118 : decode cX7_apply 118 = .ok (.iconst 1, 1) := by decide +kernel
theorem dX7_apply_119 : decode cX7_apply 119 = .ok (.iload_n 3, 1) := by decide +kernel
theorem dX7_apply_120 : decode cX7_apply 120 = .ok (.ishl, 1) := by decide +kernel
theorem dX7_apply_121 : decode cX7_apply 121 = .ok (.ior, 1) := by decide +kernel
theorem dX7_apply_122 : decode cX7_apply 122 = .ok (.putfield 58, 3) := by decide +kernel
theorem dX7_apply_125 : decode cX7_apply 125 = .ok (.goto 7, 3) := by decide +kernel
theorem dX7_apply_128 : decode cX7_apply 128 = .ok (.aload_n 1, 1) := by decide +kernel
theorem dX7_apply_129 : decode cX7_apply 129 = .ok (.invokestatic 86, 3) := by decide +kernel
theorem dX7_apply_132 : decode cX7_apply 132 = .ok (.return_, 1) := by decide +kernel
theorem dX7_cellOf_0 : decode cX7_cellOf 0 = .ok (.iload_n 2, 1) := by decide +kernel
theorem dX7_cellOf_1 : decode cX7_cellOf 1 = .ok (.invokestatic 99, 3) := by decide +kernel
theorem dX7_cellOf_4 : decode cX7_cellOf 4 = .ok (.ifCond .eq 25, 3) := by decide +kernel
theorem dX7_cellOf_7 : decode cX7_cellOf 7 = .ok (.aload_n 0, 1) := by decide +kernel
theorem dX7_cellOf_8 : decode cX7_cellOf 8 = .ok (.getfield 31, 3) := by decide +kernel
theorem dX7_cellOf_11 : decode cX7_cellOf 11 = .ok (.aload_n 1, 1) := by decide +kernel
theorem dX7_cellOf_12 : decode cX7_cellOf 12 = .ok (.getfield 55, 3) := by decide +kernel
theorem dX7_cellOf_15 : decode cX7_cellOf 15 = .ok (.aload_n 1, 1) := by decide +kernel
theorem dX7_cellOf_16 : decode cX7_cellOf 16 = .ok (.getfield 58, 3) := by decide +kernel
theorem dX7_cellOf_19 : decode cX7_cellOf 19 = .ok (.aload_n 1, 1) := by decide +kernel
theorem dX7_cellOf_20 : decode cX7_cellOf 20 = .ok (.getfield 61, 3) := by decide +kernel
theorem dX7_cellOf_23 : decode cX7_cellOf 23 = .ok (.invokevirtual 102, 3) := by decide +kernel
theorem dX7_cellOf_26 : decode cX7_cellOf 26 = .ok (.goto 8, 3) := by decide +kernel
theorem dX7_cellOf_29 : decode cX7_cellOf 29 = .ok (.iload_n 2, 1) := by decide +kernel
theorem dX7_cellOf_30 : decode cX7_cellOf 30 = .ok (.iconst 1, 1) := by decide +kernel
theorem dX7_cellOf_31 : decode cX7_cellOf 31 = .ok (.invokestatic 95, 3) := by decide +kernel
theorem dX7_cellOf_34 : decode cX7_cellOf 34 = .ok (.ireturn, 1) := by decide +kernel
theorem dX7_endDay_0 : decode cX7_endDay 0 = .ok (.aload_n 0, 1) := by decide +kernel
theorem dX7_endDay_1 : decode cX7_endDay 1 = .ok (.iconst 0, 1) := by decide +kernel
theorem dX7_endDay_2 : decode cX7_endDay 2 = .ok (.putfield 52, 3) := by decide +kernel
theorem dX7_endDay_5 : decode cX7_endDay 5 = .ok (.aload_n 0, 1) := by decide +kernel
theorem dX7_endDay_6 : decode cX7_endDay 6 = .ok (.dup, 1) := by decide +kernel
theorem dX7_endDay_7 : decode cX7_endDay 7 = .ok (.getfield 61, 3) := by decide +kernel
theorem dX7_endDay_10 : decode cX7_endDay 10 = .ok (.iconst 1, 1) := by decide +kernel
theorem dX7_endDay_11 : decode cX7_endDay 11 = .ok (.iadd, 1) := by decide +kernel
theorem dX7_endDay_12 : decode cX7_endDay 12 = .ok (.putfield 61, 3) := by decide +kernel
theorem dX7_endDay_15 : decode cX7_endDay 15 = .ok (.return_, 1) := by decide +kernel
theorem dX7_isHopeless_0 : decode cX7_isHopeless 0 = .ok (.iload_n 1, 1) := by decide +kernel
theorem dX7_isHopeless_1 : decode cX7_isHopeless 1 = .ok (.aload_n 0, 1) := by decide +kernel
theorem dX7_isHopeless_2 : decode cX7_isHopeless 2 = .ok (.getfield 130, 3) := by decide +kernel
theorem dX7_isHopeless_5 : decode cX7_isHopeless 5 = .ok (.iconst (-1), 1) := by decide +kernel
theorem dX7_isHopeless_6 : decode cX7_isHopeless 6 = .ok (.ixor, 1) := by decide +kernel
theorem dX7_isHopeless_7 : decode cX7_isHopeless 7 = .ok (.iand, 1) := by decide +kernel
theorem dX7_isHopeless_8 : decode cX7_isHopeless 8 = .ok (.aload_n 0, 1) := by decide +kernel
theorem dX7_isHopeless_9 : decode cX7_isHopeless 9 = .ok (.getfield 19, 3) := by decide +kernel
theorem dX7_isHopeless_12 : decode cX7_isHopeless 12 = .ok (.iload_n 2, 1) := by decide +kernel
theorem dX7_isHopeless_13 : decode cX7_isHopeless 13 = .ok (.iaload, 1) := by decide +kernel
theorem dX7_isHopeless_14 : decode cX7_isHopeless 14 = .ok (.iconst (-1), 1) := by decide +kernel
theorem dX7_isHopeless_15 : decode cX7_isHopeless 15 = .ok (.ixor, 1) := by decide +kernel
theorem dX7_isHopeless_16 : decode cX7_isHopeless 16 = .ok (.iand, 1) := by decide +kernel
theorem dX7_isHopeless_17 : decode cX7_isHopeless 17 = .ok (.ifCond .ne 23, 3) := by decide +kernel
theorem dX7_isHopeless_20 : decode cX7_isHopeless 20 = .ok (.aload_n 0, 1) := by decide +kernel
theorem dX7_isHopeless_21 : decode cX7_isHopeless 21 = .ok (.getfield 130, 3) := by decide +kernel
theorem dX7_isHopeless_24 : decode cX7_isHopeless 24 = .ok (.iload_n 1, 1) := by decide +kernel
theorem dX7_isHopeless_25 : decode cX7_isHopeless 25 = .ok (.iconst (-1), 1) := by decide +kernel
theorem dX7_isHopeless_26 : decode cX7_isHopeless 26 = .ok (.ixor, 1) := by decide +kernel
theorem dX7_isHopeless_27 : decode cX7_isHopeless 27 = .ok (.iand, 1) := by decide +kernel
theorem dX7_isHopeless_28 : decode cX7_isHopeless 28 = .ok (.invokestatic 149, 3) := by decide +kernel
theorem dX7_isHopeless_31 : decode cX7_isHopeless 31 = .ok (.aload_n 0, 1) := by decide +kernel
theorem dX7_isHopeless_32 : decode cX7_isHopeless 32 = .ok (.getfield 23, 3) := by decide +kernel
theorem dX7_isHopeless_35 : decode cX7_isHopeless 35 = .ok (.iload_n 2, 1) := by decide +kernel
theorem dX7_isHopeless_36 : decode cX7_isHopeless 36 = .ok (.iaload, 1) := by decide +kernel
theorem dX7_isHopeless_37 : decode cX7_isHopeless 37 = .ok (.if_icmp .le 7, 3) := by decide +kernel
theorem dX7_isHopeless_40 : decode cX7_isHopeless 40 = .ok (.iconst 1, 1) := by decide +kernel
theorem dX7_isHopeless_41 : decode cX7_isHopeless 41 = .ok (.goto 4, 3) := by decide +kernel
theorem dX7_isHopeless_44 : decode cX7_isHopeless 44 = .ok (.iconst 0, 1) := by decide +kernel
theorem dX7_isHopeless_45 : decode cX7_isHopeless 45 = .ok (.ireturn, 1) := by decide +kernel
theorem dX7_isLeaf_0 : decode cX7_isLeaf 0 = .ok (.iload_n 0, 1) := by decide +kernel
theorem dX7_isLeaf_1 : decode cX7_isLeaf 1 = .ok (.iconst 0, 1) := by decide +kernel
theorem dX7_isLeaf_2 : decode cX7_isLeaf 2 = .ok (.invokestatic 95, 3) := by decide +kernel
theorem dX7_isLeaf_5 : decode cX7_isLeaf 5 = .ok (.ifCond .ne 16, 3) := by decide +kernel
theorem dX7_isLeaf_8 : decode cX7_isLeaf 8 = .ok (.iload_n 0, 1) := by decide +kernel
theorem dX7_isLeaf_9 : decode cX7_isLeaf 9 = .ok (.iconst 1, 1) := by decide +kernel
theorem dX7_isLeaf_10 : decode cX7_isLeaf 10 = .ok (.invokestatic 95, 3) := by decide +kernel
theorem dX7_isLeaf_13 : decode cX7_isLeaf 13 = .ok (.iconst (-1), 1) := by decide +kernel
theorem dX7_isLeaf_14 : decode cX7_isLeaf 14 = .ok (.if_icmp .ne 7, 3) := by decide +kernel
theorem dX7_isLeaf_17 : decode cX7_isLeaf 17 = .ok (.iconst 1, 1) := by decide +kernel
theorem dX7_isLeaf_18 : decode cX7_isLeaf 18 = .ok (.goto 4, 3) := by decide +kernel
theorem dX7_isLeaf_21 : decode cX7_isLeaf 21 = .ok (.iconst 0, 1) := by decide +kernel
theorem dX7_isLeaf_22 : decode cX7_isLeaf 22 = .ok (.ireturn, 1) := by decide +kernel
theorem dX7_lookOn_0 : decode cX7_lookOn 0 = .ok (.aload_n 0, 1) := by decide +kernel
theorem dX7_lookOn_1 : decode cX7_lookOn 1 = .ok (.getfield 19, 3) := by decide +kernel
theorem dX7_lookOn_4 : decode cX7_lookOn 4 = .ok (.aload_n 0, 1) := by decide +kernel
theorem dX7_lookOn_5 : decode cX7_lookOn 5 = .ok (.getfield 27, 3) := by decide +kernel
theorem dX7_lookOn_8 : decode cX7_lookOn 8 = .ok (.getfield 116, 3) := by decide +kernel
theorem dX7_lookOn_11 : decode cX7_lookOn 11 = .ok (.iconst 0, 1) := by decide +kernel
theorem dX7_lookOn_12 : decode cX7_lookOn 12 = .ok (.iastore, 1) := by decide +kernel
theorem dX7_lookOn_13 : decode cX7_lookOn 13 = .ok (.aload_n 0, 1) := by decide +kernel
theorem dX7_lookOn_14 : decode cX7_lookOn 14 = .ok (.getfield 23, 3) := by decide +kernel
theorem dX7_lookOn_17 : decode cX7_lookOn 17 = .ok (.aload_n 0, 1) := by decide +kernel
theorem dX7_lookOn_18 : decode cX7_lookOn 18 = .ok (.getfield 27, 3) := by decide +kernel
theorem dX7_lookOn_21 : decode cX7_lookOn 21 = .ok (.getfield 116, 3) := by decide +kernel
theorem dX7_lookOn_24 : decode cX7_lookOn 24 = .ok (.iconst 0, 1) := by decide +kernel
theorem dX7_lookOn_25 : decode cX7_lookOn 25 = .ok (.iastore, 1) := by decide +kernel
theorem dX7_lookOn_26 : decode cX7_lookOn 26 = .ok (.aload_n 0, 1) := by decide +kernel
theorem dX7_lookOn_27 : decode cX7_lookOn 27 = .ok (.getfield 27, 3) := by decide +kernel
theorem dX7_lookOn_30 : decode cX7_lookOn 30 = .ok (.getfield 116, 3) := by decide +kernel
theorem dX7_lookOn_33 : decode cX7_lookOn 33 = .ok (.iconst 1, 1) := by decide +kernel
theorem dX7_lookOn_34 : decode cX7_lookOn 34 = .ok (.isub, 1) := by decide +kernel
theorem dX7_lookOn_35 : decode cX7_lookOn 35 = .ok (.istore_n 1, 1) := by decide +kernel
theorem dX7_lookOn_36 : decode cX7_lookOn 36 = .ok (.iload_n 1, 1) := by decide +kernel
theorem dX7_lookOn_37 : decode cX7_lookOn 37 = .ok (.ifCond .lt 127, 3) := by decide +kernel
theorem dX7_lookOn_40 : decode cX7_lookOn 40 = .ok (.aload_n 0, 1) := by decide +kernel
theorem dX7_lookOn_41 : decode cX7_lookOn 41 = .ok (.getfield 27, 3) := by decide +kernel
theorem dX7_lookOn_44 : decode cX7_lookOn 44 = .ok (.getfield 119, 3) := by decide +kernel
theorem dX7_lookOn_47 : decode cX7_lookOn 47 = .ok (.iload_n 1, 1) := by decide +kernel
theorem dX7_lookOn_48 : decode cX7_lookOn 48 = .ok (.iaload, 1) := by decide +kernel
theorem dX7_lookOn_49 : decode cX7_lookOn 49 = .ok (.istore_n 2, 1) := by decide +kernel
theorem dX7_lookOn_50 : decode cX7_lookOn 50 = .ok (.iload_n 2, 1) := by decide +kernel
theorem dX7_lookOn_51 : decode cX7_lookOn 51 = .ok (.iconst 0, 1) := by decide +kernel
theorem dX7_lookOn_52 : decode cX7_lookOn 52 = .ok (.invokestatic 95, 3) := by decide +kernel
theorem dX7_lookOn_55 : decode cX7_lookOn 55 = .ok (.istore_n 3, 1) := by decide +kernel
theorem dX7_lookOn_56 : decode cX7_lookOn 56 = .ok (.iload_n 2, 1) := by decide +kernel
theorem dX7_lookOn_57 : decode cX7_lookOn 57 = .ok (.iconst 1, 1) := by decide +kernel
theorem dX7_lookOn_58 : decode cX7_lookOn 58 = .ok (.invokestatic 95, 3) := by decide +kernel
theorem dX7_lookOn_61 : decode cX7_lookOn 61 = .ok (.istore 4, 2) := by decide +kernel
theorem dX7_lookOn_63 : decode cX7_lookOn 63 = .ok (.aload_n 0, 1) := by decide +kernel
theorem dX7_lookOn_64 : decode cX7_lookOn 64 = .ok (.getfield 19, 3) := by decide +kernel
theorem dX7_lookOn_67 : decode cX7_lookOn 67 = .ok (.iload_n 1, 1) := by decide +kernel
theorem dX7_lookOn_68 : decode cX7_lookOn 68 = .ok (.aload_n 0, 1) := by decide +kernel
theorem dX7_lookOn_69 : decode cX7_lookOn 69 = .ok (.getfield 19, 3) := by decide +kernel
theorem dX7_lookOn_72 : decode cX7_lookOn 72 = .ok (.iload_n 1, 1) := by decide +kernel
theorem dX7_lookOn_73 : decode cX7_lookOn 73 = .ok (.iconst 1, 1) := by decide +kernel
theorem dX7_lookOn_74 : decode cX7_lookOn 74 = .ok (.iadd, 1) := by decide +kernel
theorem dX7_lookOn_75 : decode cX7_lookOn 75 = .ok (.iaload, 1) := by decide +kernel
theorem dX7_lookOn_76 : decode cX7_lookOn 76 = .ok (.iastore, 1) := by decide +kernel
theorem dX7_lookOn_77 : decode cX7_lookOn 77 = .ok (.iload_n 3, 1) := by decide +kernel
theorem dX7_lookOn_78 : decode cX7_lookOn 78 = .ok (.iconst 1, 1) := by decide +kernel
theorem dX7_lookOn_79 : decode cX7_lookOn 79 = .ok (.if_icmp .ne 37, 3) := by decide +kernel
theorem dX7_lookOn_82 : decode cX7_lookOn 82 = .ok (.aload_n 0, 1) := by decide +kernel
theorem dX7_lookOn_83 : decode cX7_lookOn 83 = .ok (.getfield 19, 3) := by decide +kernel
theorem dX7_lookOn_86 : decode cX7_lookOn 86 = .ok (.iload_n 1, 1) := by decide +kernel
theorem dX7_lookOn_87 : decode cX7_lookOn 87 = .ok (.dup2, 1) := by decide +kernel
theorem dX7_lookOn_88 : decode cX7_lookOn 88 = .ok (.iaload, 1) := by decide +kernel
theorem dX7_lookOn_89 : decode cX7_lookOn 89 = .ok (.aload_n 0, 1) := by decide +kernel
theorem dX7_lookOn_90 : decode cX7_lookOn 90 = .ok (.getfield 31, 3) := by decide +kernel
theorem dX7_lookOn_93 : decode cX7_lookOn 93 = .ok (.getfield 36, 3) := by decide +kernel
theorem dX7_lookOn_96 : decode cX7_lookOn 96 = .ok (.iload 4, 2) := by decide +kernel
theorem dX7_lookOn_98 : decode cX7_lookOn 98 = .ok (.iload_n 2, 1) := by decide +kernel
theorem dX7_lookOn_99 : decode cX7_lookOn 99 = .ok (.iconst 2, 1) := by decide +kernel
theorem dX7_lookOn_100 : decode cX7_lookOn 100 = .ok (.invokestatic 95, 3) := by decide +kernel
theorem dX7_lookOn_103 : decode cX7_lookOn 103 = .ok (.iload_n 2, 1) := by decide +kernel
theorem dX7_lookOn_104 : decode cX7_lookOn 104 = .ok (.iconst 3, 1) := by decide +kernel
theorem dX7_lookOn_105 : decode cX7_lookOn 105 = .ok (.invokestatic 95, 3) := by decide +kernel
theorem dX7_lookOn_108 : decode cX7_lookOn 108 = .ok (.invokevirtual 78, 3) := by decide +kernel
theorem dX7_lookOn_111 : decode cX7_lookOn 111 = .ok (.ior, 1) := by decide +kernel
theorem dX7_lookOn_112 : decode cX7_lookOn 112 = .ok (.iastore, 1) := by decide +kernel
theorem dX7_lookOn_113 : decode cX7_lookOn 113 = .ok (.goto 21, 3) := by decide +kernel
theorem dX7_lookOn_116 : decode cX7_lookOn 116 = .ok (.iload_n 3, 1) := by decide +kernel
theorem dX7_lookOn_117 : decode cX7_lookOn 117 = .ok (.iconst 2, 1) := by decide +kernel
theorem dX7_lookOn_118 : decode cX7_lookOn 118 = .ok (.if_icmp .ne 16, 3) := by decide +kernel
theorem dX7_lookOn_121 : decode cX7_lookOn 121 = .ok (.aload_n 0, 1) := by decide +kernel
theorem dX7_lookOn_122 : decode cX7_lookOn 122 = .ok (.getfield 19, 3) := by decide +kernel
theorem dX7_lookOn_125 : decode cX7_lookOn 125 = .ok (.iload_n 1, 1) := by decide +kernel
theorem dX7_lookOn_126 : decode cX7_lookOn 126 = .ok (.dup2, 1) := by decide +kernel
theorem dX7_lookOn_127 : decode cX7_lookOn 127 = .ok (.iaload, 1) := by decide +kernel
theorem dX7_lookOn_128 : decode cX7_lookOn 128 = .ok (.iconst 1, 1) := by decide +kernel
theorem dX7_lookOn_129 : decode cX7_lookOn 129 = .ok (.iload 4, 2) := by decide +kernel
theorem dX7_lookOn_131 : decode cX7_lookOn 131 = .ok (.ishl, 1) := by decide +kernel
theorem dX7_lookOn_132 : decode cX7_lookOn 132 = .ok (.ior, 1) := by decide +kernel
theorem dX7_lookOn_133 : decode cX7_lookOn 133 = .ok (.iastore, 1) := by decide +kernel
theorem dX7_lookOn_134 : decode cX7_lookOn 134 = .ok (.aload_n 0, 1) := by decide +kernel
theorem dX7_lookOn_135 : decode cX7_lookOn 135 = .ok (.getfield 23, 3) := by decide +kernel
theorem dX7_lookOn_138 : decode cX7_lookOn 138 = .ok (.iload_n 1, 1) := by decide +kernel
theorem dX7_lookOn_139 : decode cX7_lookOn 139 = .ok (.aload_n 0, 1) := by decide +kernel
theorem dX7_lookOn_140 : decode cX7_lookOn 140 = .ok (.getfield 23, 3) := by decide +kernel
theorem dX7_lookOn_143 : decode cX7_lookOn 143 = .ok (.iload_n 1, 1) := by decide +kernel
theorem dX7_lookOn_144 : decode cX7_lookOn 144 = .ok (.iconst 1, 1) := by decide +kernel
theorem dX7_lookOn_145 : decode cX7_lookOn 145 = .ok (.iadd, 1) := by decide +kernel
theorem dX7_lookOn_146 : decode cX7_lookOn 146 = .ok (.iaload, 1) := by decide +kernel
theorem dX7_lookOn_147 : decode cX7_lookOn 147 = .ok (.iload_n 3, 1) := by decide +kernel
theorem dX7_lookOn_148 : decode cX7_lookOn 148 = .ok (.ifCond .ne 7, 3) := by decide +kernel
theorem dX7_lookOn_151 : decode cX7_lookOn 151 = .ok (.iconst 1, 1) := by decide +kernel
theorem dX7_lookOn_152 : decode cX7_lookOn 152 = .ok (.goto 4, 3) := by decide +kernel
theorem dX7_lookOn_155 : decode cX7_lookOn 155 = .ok (.iconst 0, 1) := by decide +kernel
theorem dX7_lookOn_156 : decode cX7_lookOn 156 = .ok (.iadd, 1) := by decide +kernel
theorem dX7_lookOn_157 : decode cX7_lookOn 157 = .ok (.iastore, 1) := by decide +kernel
theorem dX7_lookOn_158 : decode cX7_lookOn 158 = .ok (.iinc 1 (-1), 3) := by decide +kernel
theorem dX7_lookOn_161 : decode cX7_lookOn 161 = .ok (.goto (-125), 3) := by decide +kernel
theorem dX7_lookOn_164 : decode cX7_lookOn 164 = .ok (.return_, 1) := by decide +kernel
theorem dX7_runApart_0 : decode cX7_runApart 0 = .ok (.aload_n 0, 1) := by decide +kernel
theorem dX7_runApart_1 : decode cX7_runApart 1 = .ok (.getfield 13, 3) := by decide +kernel
theorem dX7_runApart_4 : decode cX7_runApart 4 = .ok (.iconst 0, 1) := by decide +kernel
theorem dX7_runApart_5 : decode cX7_runApart 5 = .ok (.aaload, 1) := by decide +kernel
theorem dX7_runApart_6 : decode cX7_runApart 6 = .ok (.astore_n 3, 1) := by decide +kernel
theorem dX7_runApart_7 : decode cX7_runApart 7 = .ok (.aload_n 3, 1) := by decide +kernel
theorem dX7_runApart_8 : decode cX7_runApart 8 = .ok (.aload_n 2, 1) := by decide +kernel
theorem dX7_runApart_9 : decode cX7_runApart 9 = .ok (.invokevirtual 113, 3) := by decide +kernel
theorem dX7_runApart_12 : decode cX7_runApart 12 = .ok (.iconst 0, 1) := by decide +kernel
theorem dX7_runApart_13 : decode cX7_runApart 13 = .ok (.istore 4, 2) := by decide +kernel
theorem dX7_runApart_15 : decode cX7_runApart 15 = .ok (.iload 4, 2) := by decide +kernel
theorem dX7_runApart_17 : decode cX7_runApart 17 = .ok (.aload_n 1, 1) := by decide +kernel
theorem dX7_runApart_18 : decode cX7_runApart 18 = .ok (.getfield 116, 3) := by decide +kernel
theorem dX7_runApart_21 : decode cX7_runApart 21 = .ok (.if_icmp .ge 39, 3) := by decide +kernel
theorem dX7_runApart_24 : decode cX7_runApart 24 = .ok (.aload_n 0, 1) := by decide +kernel
theorem dX7_runApart_25 : decode cX7_runApart 25 = .ok (.aload_n 3, 1) := by decide +kernel
theorem dX7_runApart_26 : decode cX7_runApart 26 = .ok (.aload_n 1, 1) := by decide +kernel
theorem dX7_runApart_27 : decode cX7_runApart 27 = .ok (.getfield 119, 3) := by decide +kernel
theorem dX7_runApart_30 : decode cX7_runApart 30 = .ok (.iload 4, 2) := by decide +kernel
theorem dX7_runApart_32 : decode cX7_runApart 32 = .ok (.iaload, 1) := by decide +kernel
theorem dX7_runApart_33 : decode cX7_runApart 33 = .ok (.aload_n 0, 1) := by decide +kernel
theorem dX7_runApart_34 : decode cX7_runApart 34 = .ok (.aload_n 3, 1) := by decide +kernel
theorem dX7_runApart_35 : decode cX7_runApart 35 = .ok (.aload_n 1, 1) := by decide +kernel
theorem dX7_runApart_36 : decode cX7_runApart 36 = .ok (.getfield 119, 3) := by decide +kernel
theorem dX7_runApart_39 : decode cX7_runApart 39 = .ok (.iload 4, 2) := by decide +kernel
theorem dX7_runApart_41 : decode cX7_runApart 41 = .ok (.iaload, 1) := by decide +kernel
theorem dX7_runApart_42 : decode cX7_runApart 42 = .ok (.invokevirtual 122, 3) := by decide +kernel
theorem dX7_runApart_45 : decode cX7_runApart 45 = .ok (.invokevirtual 126, 3) := by decide +kernel
theorem dX7_runApart_48 : decode cX7_runApart 48 = .ok (.ifCond .ne 6, 3) := by decide +kernel
theorem dX7_runApart_51 : decode cX7_runApart 51 = .ok (.iload 4, 2) := by decide +kernel
theorem dX7_runApart_53 : decode cX7_runApart 53 = .ok (.ireturn, 1) := by decide +kernel
theorem dX7_runApart_54 : decode cX7_runApart 54 = .ok (.iinc 4 1, 3) := by decide +kernel
theorem dX7_runApart_57 : decode cX7_runApart 57 = .ok (.goto (-42), 3) := by decide +kernel
theorem dX7_runApart_60 : decode cX7_runApart 60 = .ok (.aload_n 1, 1) := by decide +kernel
theorem dX7_runApart_61 : decode cX7_runApart 61 = .ok (.getfield 116, 3) := by decide +kernel
theorem dX7_runApart_64 : decode cX7_runApart 64 = .ok (.ireturn, 1) := by decide +kernel
theorem dX7_sitOut_0 : decode cX7_sitOut 0 = .ok (.aload_n 0, 1) := by decide +kernel
theorem dX7_sitOut_1 : decode cX7_sitOut 1 = .ok (.getfield 52, 3) := by decide +kernel
theorem dX7_sitOut_4 : decode cX7_sitOut 4 = .ok (.ifCond .ne 21, 3) := by decide +kernel
theorem dX7_sitOut_7 : decode cX7_sitOut 7 = .ok (.aload_n 0, 1) := by decide +kernel
theorem dX7_sitOut_8 : decode cX7_sitOut 8 = .ok (.dup, 1) := by decide +kernel
theorem dX7_sitOut_9 : decode cX7_sitOut 9 = .ok (.getfield 89, 3) := by decide +kernel
theorem dX7_sitOut_12 : decode cX7_sitOut 12 = .ok (.iconst 1, 1) := by decide +kernel
theorem dX7_sitOut_13 : decode cX7_sitOut 13 = .ok (.iadd, 1) := by decide +kernel
theorem dX7_sitOut_14 : decode cX7_sitOut 14 = .ok (.putfield 89, 3) := by decide +kernel
theorem dX7_sitOut_17 : decode cX7_sitOut 17 = .ok (.aload_n 0, 1) := by decide +kernel
theorem dX7_sitOut_18 : decode cX7_sitOut 18 = .ok (.iconst 1, 1) := by decide +kernel
theorem dX7_sitOut_19 : decode cX7_sitOut 19 = .ok (.putfield 52, 3) := by decide +kernel
theorem dX7_sitOut_22 : decode cX7_sitOut 22 = .ok (.goto 17, 3) := by decide +kernel
theorem dX7_sitOut_25 : decode cX7_sitOut 25 = .ok (.aload_n 0, 1) := by decide +kernel
theorem dX7_sitOut_26 : decode cX7_sitOut 26 = .ok (.dup, 1) := by decide +kernel
theorem dX7_sitOut_27 : decode cX7_sitOut 27 = .ok (.getfield 92, 3) := by decide +kernel
theorem dX7_sitOut_30 : decode cX7_sitOut 30 = .ok (.iconst 1, 1) := by decide +kernel
theorem dX7_sitOut_31 : decode cX7_sitOut 31 = .ok (.iadd, 1) := by decide +kernel
theorem dX7_sitOut_32 : decode cX7_sitOut 32 = .ok (.putfield 92, 3) := by decide +kernel
theorem dX7_sitOut_35 : decode cX7_sitOut 35 = .ok (.aload_n 0, 1) := by decide +kernel
theorem dX7_sitOut_36 : decode cX7_sitOut 36 = .ok (.invokestatic 82, 3) := by decide +kernel
theorem dX7_sitOut_39 : decode cX7_sitOut 39 = .ok (.return_, 1) := by decide +kernel
theorem dX7_step_0 : decode cX7_step 0 = .ok (.iload_n 2, 1) := by decide +kernel
theorem dX7_step_1 : decode cX7_step 1 = .ok (.iconst 0, 1) := by decide +kernel
theorem dX7_step_2 : decode cX7_step 2 = .ok (.invokestatic 95, 3) := by decide +kernel
theorem dX7_step_5 : decode cX7_step 5 = .ok (.istore 4, 2) := by decide +kernel
theorem dX7_step_7 : decode cX7_step 7 = .ok (.iload_n 2, 1) := by decide +kernel
theorem dX7_step_8 : decode cX7_step 8 = .ok (.iconst 2, 1) := by decide +kernel
theorem dX7_step_9 : decode cX7_step 9 = .ok (.invokestatic 95, 3) := by decide +kernel
theorem dX7_step_12 : decode cX7_step 12 = .ok (.istore 5, 2) := by decide +kernel
theorem dX7_step_14 : decode cX7_step 14 = .ok (.iload_n 2, 1) := by decide +kernel
theorem dX7_step_15 : decode cX7_step 15 = .ok (.iconst 3, 1) := by decide +kernel
theorem dX7_step_16 : decode cX7_step 16 = .ok (.invokestatic 95, 3) := by decide +kernel
theorem dX7_step_19 : decode cX7_step 19 = .ok (.istore 6, 2) := by decide +kernel
theorem dX7_step_21 : decode cX7_step 21 = .ok (.aload_n 0, 1) := by decide +kernel
theorem dX7_step_22 : decode cX7_step 22 = .ok (.aload_n 1, 1) := by decide +kernel
theorem dX7_step_23 : decode cX7_step 23 = .ok (.iload 4, 2) := by decide +kernel
theorem dX7_step_25 : decode cX7_step 25 = .ok (.iload_n 3, 1) := by decide +kernel
theorem dX7_step_26 : decode cX7_step 26 = .ok (.iload 5, 2) := by decide +kernel
theorem dX7_step_28 : decode cX7_step 28 = .ok (.iload 6, 2) := by decide +kernel
theorem dX7_step_30 : decode cX7_step 30 = .ok (.invokevirtual 105, 3) := by decide +kernel
theorem dX7_step_33 : decode cX7_step 33 = .ok (.ifCond .ne 5, 3) := by decide +kernel
theorem dX7_step_36 : decode cX7_step 36 = .ok (.iconst 0, 1) := by decide +kernel
theorem dX7_step_37 : decode cX7_step 37 = .ok (.ireturn, 1) := by decide +kernel
theorem dX7_step_38 : decode cX7_step 38 = .ok (.aload_n 0, 1) := by decide +kernel
theorem dX7_step_39 : decode cX7_step 39 = .ok (.aload_n 1, 1) := by decide +kernel
theorem dX7_step_40 : decode cX7_step 40 = .ok (.iload 4, 2) := by decide +kernel
theorem dX7_step_42 : decode cX7_step 42 = .ok (.iload_n 3, 1) := by decide +kernel
theorem dX7_step_43 : decode cX7_step 43 = .ok (.iload 5, 2) := by decide +kernel
theorem dX7_step_45 : decode cX7_step 45 = .ok (.iload 6, 2) := by decide +kernel
theorem dX7_step_47 : decode cX7_step 47 = .ok (.invokevirtual 109, 3) := by decide +kernel
theorem dX7_step_50 : decode cX7_step 50 = .ok (.iconst 1, 1) := by decide +kernel
theorem dX7_step_51 : decode cX7_step 51 = .ok (.ireturn, 1) := by decide +kernel
theorem wl_2_84 : (.fieldLink RX7 31 "LawnAhead$Play" "sight" "LLawnAhead$Sight;" : Cond) ∈ sg_tbl := tb_2 _ (List.mem_of_getElem? (i := 84) (by decide +kernel)) (by decide +kernel)
theorem wl_2_36 : (.fieldLink RX7 36 "LawnAhead$Sight" "ground" "LLawnAhead$Ground;" : Cond) ∈ sg_tbl := tb_2 _ (List.mem_of_getElem? (i := 36) (by decide +kernel)) (by decide +kernel)
theorem wl_1_217 : (.fieldLink RX7 42 "LawnAhead$Ground" "cells" "I" : Cond) ∈ sg_tbl := tb_1 _ (List.mem_of_getElem? (i := 217) (by decide +kernel)) (by decide +kernel)
theorem wl_1_139 : (.fieldLink RX7 48 "LawnAhead$State" "won" "Z" : Cond) ∈ sg_tbl := tb_1 _ (List.mem_of_getElem? (i := 139) (by decide +kernel)) (by decide +kernel)
theorem wl_1_124 : (.fieldLink RX7 52 "LawnAhead$State" "turn" "I" : Cond) ∈ sg_tbl := tb_1 _ (List.mem_of_getElem? (i := 124) (by decide +kernel)) (by decide +kernel)
theorem wl_1_117 : (.fieldLink RX7 55 "LawnAhead$State" "tufts" "I" : Cond) ∈ sg_tbl := tb_1 _ (List.mem_of_getElem? (i := 117) (by decide +kernel)) (by decide +kernel)
theorem wl_1_121 : (.fieldLink RX7 58 "LawnAhead$State" "earth" "I" : Cond) ∈ sg_tbl := tb_1 _ (List.mem_of_getElem? (i := 121) (by decide +kernel)) (by decide +kernel)
theorem wl_1_129 : (.fieldLink RX7 61 "LawnAhead$State" "day" "I" : Cond) ∈ sg_tbl := tb_1 _ (List.mem_of_getElem? (i := 129) (by decide +kernel)) (by decide +kernel)
theorem wl_4_98 : (.methodLink RX7 64 yX8_grows : Cond) ∈ sg_tbl := tb_4 _ (List.mem_of_getElem? (i := 98) (by decide +kernel)) (by decide +kernel)
theorem wl_4_141 : (.methodLink RX7 68 yX4_canCut : Cond) ∈ sg_tbl := tb_4 _ (List.mem_of_getElem? (i := 141) (by decide +kernel)) (by decide +kernel)
theorem wl_1_229 : (.fieldLink RX7 71 "LawnAhead$Ground" "beds" "I" : Cond) ∈ sg_tbl := tb_1 _ (List.mem_of_getElem? (i := 229) (by decide +kernel)) (by decide +kernel)
theorem wl_1_135 : (.fieldLink RX7 92 "LawnAhead$State" "houseThistles" "I" : Cond) ∈ sg_tbl := tb_1 _ (List.mem_of_getElem? (i := 135) (by decide +kernel)) (by decide +kernel)
theorem wl_4_175 : (.methodLink RX7 82 yX7_endDay : Cond) ∈ sg_tbl := tb_4 _ (List.mem_of_getElem? (i := 175) (by decide +kernel)) (by decide +kernel)
theorem wl_1_132 : (.fieldLink RX7 89 "LawnAhead$State" "lawnThistles" "I" : Cond) ∈ sg_tbl := tb_1 _ (List.mem_of_getElem? (i := 132) (by decide +kernel)) (by decide +kernel)
theorem wl_4_173 : (.methodLink RX7 74 yX4_hasLine : Cond) ∈ sg_tbl := tb_4 _ (List.mem_of_getElem? (i := 173) (by decide +kernel)) (by decide +kernel)
theorem wl_4_174 : (.methodLink RX7 78 yX4_cutBits : Cond) ∈ sg_tbl := tb_4 _ (List.mem_of_getElem? (i := 174) (by decide +kernel)) (by decide +kernel)
theorem wl_4_178 : (.methodLink RX7 86 yX7_sitOut : Cond) ∈ sg_tbl := tb_4 _ (List.mem_of_getElem? (i := 178) (by decide +kernel)) (by decide +kernel)
theorem wl_5_41 : (.methodLink RX7 95 yX3_unpacked : Cond) ∈ sg_tbl := tb_5 _ (List.mem_of_getElem? (i := 41) (by decide +kernel)) (by decide +kernel)
theorem wl_5_38 : (.methodLink RX7 99 yX7_isLeaf : Cond) ∈ sg_tbl := tb_5 _ (List.mem_of_getElem? (i := 38) (by decide +kernel)) (by decide +kernel)
theorem wl_5_42 : (.methodLink RX7 102 yX8_lowest : Cond) ∈ sg_tbl := tb_5 _ (List.mem_of_getElem? (i := 42) (by decide +kernel)) (by decide +kernel)
theorem wl_5_50 : (.methodLink RX7 105 yX7_allows : Cond) ∈ sg_tbl := tb_5 _ (List.mem_of_getElem? (i := 50) (by decide +kernel)) (by decide +kernel)
theorem wl_5_51 : (.methodLink RX7 109 yX7_apply : Cond) ∈ sg_tbl := tb_5 _ (List.mem_of_getElem? (i := 51) (by decide +kernel)) (by decide +kernel)
theorem wl_2_85 : (.fieldLink RX7 13 "LawnAhead$Play" "levels" "[LLawnAhead$State;" : Cond) ∈ sg_tbl := tb_2 _ (List.mem_of_getElem? (i := 85) (by decide +kernel)) (by decide +kernel)
theorem wl_5_33 : (.methodLink RX7 113 yX9_takeFrom : Cond) ∈ sg_tbl := tb_5 _ (List.mem_of_getElem? (i := 33) (by decide +kernel)) (by decide +kernel)
theorem wl_1_98 : (.fieldLink RX7 116 "LawnAhead$Game" "count" "I" : Cond) ∈ sg_tbl := tb_1 _ (List.mem_of_getElem? (i := 98) (by decide +kernel)) (by decide +kernel)
theorem wl_1_95 : (.fieldLink RX7 119 "LawnAhead$Game" "moves" "[I" : Cond) ∈ sg_tbl := tb_1 _ (List.mem_of_getElem? (i := 95) (by decide +kernel)) (by decide +kernel)
theorem wl_5_34 : (.methodLink RX7 122 yX7_cellOf : Cond) ∈ sg_tbl := tb_5 _ (List.mem_of_getElem? (i := 34) (by decide +kernel)) (by decide +kernel)
theorem wl_5_46 : (.methodLink RX7 126 yX7_step : Cond) ∈ sg_tbl := tb_5 _ (List.mem_of_getElem? (i := 46) (by decide +kernel)) (by decide +kernel)
theorem wl_2_86 : (.fieldLink RX7 19 "LawnAhead$Play" "taken" "[I" : Cond) ∈ sg_tbl := tb_2 _ (List.mem_of_getElem? (i := 86) (by decide +kernel)) (by decide +kernel)
theorem wl_2_88 : (.fieldLink RX7 27 "LawnAhead$Play" "game" "LLawnAhead$Game;" : Cond) ∈ sg_tbl := tb_2 _ (List.mem_of_getElem? (i := 88) (by decide +kernel)) (by decide +kernel)
theorem wl_2_87 : (.fieldLink RX7 23 "LawnAhead$Play" "grown" "[I" : Cond) ∈ sg_tbl := tb_2 _ (List.mem_of_getElem? (i := 87) (by decide +kernel)) (by decide +kernel)
theorem wl_2_89 : (.fieldLink RX7 130 "LawnAhead$Play" "aim" "I" : Cond) ∈ sg_tbl := tb_2 _ (List.mem_of_getElem? (i := 89) (by decide +kernel)) (by decide +kernel)
theorem wl_5_77 : (.methodLink RX7 149 yJ6_bitCount_0f7a4 : Cond) ∈ sg_tbl := tb_5 _ (List.mem_of_getElem? (i := 77) (by decide +kernel)) (by decide +kernel)
theorem wl_2_120 : (.fieldLink RX0 9 "LawnAhead$Ahead" "sight" "LLawnAhead$Sight;" : Cond) ∈ sg_tbl := tb_2 _ (List.mem_of_getElem? (i := 120) (by decide +kernel)) (by decide +kernel)
theorem wl_1_116 : (.fieldLink RX0 15 "LawnAhead$State" "tufts" "I" : Cond) ∈ sg_tbl := tb_1 _ (List.mem_of_getElem? (i := 116) (by decide +kernel)) (by decide +kernel)
theorem wl_4_219 : (.methodLink RX0 21 yX8_listCuts : Cond) ∈ sg_tbl := tb_4 _ (List.mem_of_getElem? (i := 219) (by decide +kernel)) (by decide +kernel)
theorem wl_2_51 : (.fieldLink RX0 27 "LawnAhead$Sight" "listed" "I" : Cond) ∈ sg_tbl := tb_2 _ (List.mem_of_getElem? (i := 51) (by decide +kernel)) (by decide +kernel)
theorem wl_2_49 : (.fieldLink RX0 30 "LawnAhead$Sight" "taken" "[I" : Cond) ∈ sg_tbl := tb_2 _ (List.mem_of_getElem? (i := 49) (by decide +kernel)) (by decide +kernel)
theorem wl_1_120 : (.fieldLink RX0 34 "LawnAhead$State" "earth" "I" : Cond) ∈ sg_tbl := tb_1 _ (List.mem_of_getElem? (i := 120) (by decide +kernel)) (by decide +kernel)
theorem wl_1_128 : (.fieldLink RX0 37 "LawnAhead$State" "day" "I" : Cond) ∈ sg_tbl := tb_1 _ (List.mem_of_getElem? (i := 128) (by decide +kernel)) (by decide +kernel)
theorem wl_4_228 : (.methodLink RX0 40 yX8_threatBits : Cond) ∈ sg_tbl := tb_4 _ (List.mem_of_getElem? (i := 228) (by decide +kernel)) (by decide +kernel)
theorem wl_4_232 : (.methodLink RX0 44 yJ6_bitCount_0f7a4 : Cond) ∈ sg_tbl := tb_4 _ (List.mem_of_getElem? (i := 232) (by decide +kernel)) (by decide +kernel)
theorem wl_2_45 : (.fieldLink RX0 50 "LawnAhead$Sight" "codes" "[I" : Cond) ∈ sg_tbl := tb_2 _ (List.mem_of_getElem? (i := 45) (by decide +kernel)) (by decide +kernel)
theorem wl_2_123 : (.fieldLink RX0 56 "LawnAhead$Ahead" "bestCode" "I" : Cond) ∈ sg_tbl := tb_2 _ (List.mem_of_getElem? (i := 123) (by decide +kernel)) (by decide +kernel)
theorem wl_2_125 : (.fieldLink RX0 53 "LawnAhead$Ahead" "bestThreats" "I" : Cond) ∈ sg_tbl := tb_2 _ (List.mem_of_getElem? (i := 125) (by decide +kernel)) (by decide +kernel)
theorem wl_5_100 : (.methodLink RX0 59 yX8_threatened : Cond) ∈ sg_tbl := tb_5 _ (List.mem_of_getElem? (i := 100) (by decide +kernel)) (by decide +kernel)
theorem wl_5_121 : (.methodLink RX0 63 yX8_growing : Cond) ∈ sg_tbl := tb_5 _ (List.mem_of_getElem? (i := 121) (by decide +kernel)) (by decide +kernel)
theorem wl_2_38 : (.fieldLink RX0 66 "LawnAhead$Sight" "ground" "LLawnAhead$Ground;" : Cond) ∈ sg_tbl := tb_2 _ (List.mem_of_getElem? (i := 38) (by decide +kernel)) (by decide +kernel)
theorem wl_1_219 : (.fieldLink RX0 70 "LawnAhead$Ground" "cells" "I" : Cond) ∈ sg_tbl := tb_1 _ (List.mem_of_getElem? (i := 219) (by decide +kernel)) (by decide +kernel)
theorem wl_5_122 : (.methodLink RX0 75 yX4_hasLine : Cond) ∈ sg_tbl := tb_5 _ (List.mem_of_getElem? (i := 122) (by decide +kernel)) (by decide +kernel)
theorem wl_5_123 : (.methodLink RX0 79 yX0_canHold : Cond) ∈ sg_tbl := tb_5 _ (List.mem_of_getElem? (i := 123) (by decide +kernel)) (by decide +kernel)
theorem wl_1_9 : (.initialized RX7 : Cond) ∈ sg_tbl := tb_1 _ (List.mem_of_getElem? (i := 9) (by decide +kernel)) (by decide +kernel)
theorem wl_4_97 : (.code yX7_allows cX7_allows 7 (some .boolean) : Cond) ∈ sg_tbl := tb_4 _ (List.mem_of_getElem? (i := 97) (by decide +kernel)) (by decide +kernel)
theorem wl_4_95 : (.instanceMethod yX7_allows : Cond) ∈ sg_tbl := tb_4 _ (List.mem_of_getElem? (i := 95) (by decide +kernel)) (by decide +kernel)
theorem wl_4_96 : (.selects RX7 yX7_allows yX7_allows : Cond) ∈ sg_tbl := tb_4 _ (List.mem_of_getElem? (i := 96) (by decide +kernel)) (by decide +kernel)
theorem wl_4_177 : (.code yX7_endDay cX7_endDay 1 none : Cond) ∈ sg_tbl := tb_4 _ (List.mem_of_getElem? (i := 177) (by decide +kernel)) (by decide +kernel)
theorem wl_4_176 : (.static yX7_endDay : Cond) ∈ sg_tbl := tb_4 _ (List.mem_of_getElem? (i := 176) (by decide +kernel)) (by decide +kernel)
theorem wl_4_180 : (.code yX7_sitOut cX7_sitOut 1 none : Cond) ∈ sg_tbl := tb_4 _ (List.mem_of_getElem? (i := 180) (by decide +kernel)) (by decide +kernel)
theorem wl_4_179 : (.static yX7_sitOut : Cond) ∈ sg_tbl := tb_4 _ (List.mem_of_getElem? (i := 179) (by decide +kernel)) (by decide +kernel)
theorem wl_4_172 : (.code yX7_apply cX7_apply 6 none : Cond) ∈ sg_tbl := tb_4 _ (List.mem_of_getElem? (i := 172) (by decide +kernel)) (by decide +kernel)
theorem wl_4_170 : (.instanceMethod yX7_apply : Cond) ∈ sg_tbl := tb_4 _ (List.mem_of_getElem? (i := 170) (by decide +kernel)) (by decide +kernel)
theorem wl_4_171 : (.selects RX7 yX7_apply yX7_apply : Cond) ∈ sg_tbl := tb_4 _ (List.mem_of_getElem? (i := 171) (by decide +kernel)) (by decide +kernel)
theorem wl_5_40 : (.code yX7_isLeaf cX7_isLeaf 1 (some .boolean) : Cond) ∈ sg_tbl := tb_5 _ (List.mem_of_getElem? (i := 40) (by decide +kernel)) (by decide +kernel)
theorem wl_5_39 : (.static yX7_isLeaf : Cond) ∈ sg_tbl := tb_5 _ (List.mem_of_getElem? (i := 39) (by decide +kernel)) (by decide +kernel)
theorem wl_5_37 : (.code yX7_cellOf cX7_cellOf 3 (some .int) : Cond) ∈ sg_tbl := tb_5 _ (List.mem_of_getElem? (i := 37) (by decide +kernel)) (by decide +kernel)
theorem wl_5_35 : (.instanceMethod yX7_cellOf : Cond) ∈ sg_tbl := tb_5 _ (List.mem_of_getElem? (i := 35) (by decide +kernel)) (by decide +kernel)
theorem wl_5_36 : (.selects RX7 yX7_cellOf yX7_cellOf : Cond) ∈ sg_tbl := tb_5 _ (List.mem_of_getElem? (i := 36) (by decide +kernel)) (by decide +kernel)
theorem wl_5_49 : (.code yX7_step cX7_step 7 (some .boolean) : Cond) ∈ sg_tbl := tb_5 _ (List.mem_of_getElem? (i := 49) (by decide +kernel)) (by decide +kernel)
theorem wl_5_48 : (.instanceMethod yX7_step : Cond) ∈ sg_tbl := tb_5 _ (List.mem_of_getElem? (i := 48) (by decide +kernel)) (by decide +kernel)
theorem wl_0_29 : (.selects RX7 yX7_step yX7_step : Cond) ∈ sg_tbl := tb_0 _ (List.mem_of_getElem? (i := 29) (by decide +kernel)) (by decide +kernel)
theorem wl_5_32 : (.code yX7_runApart cX7_runApart 5 (some .int) : Cond) ∈ sg_tbl := tb_5 _ (List.mem_of_getElem? (i := 32) (by decide +kernel)) (by decide +kernel)
theorem wl_5_30 : (.instanceMethod yX7_runApart : Cond) ∈ sg_tbl := tb_5 _ (List.mem_of_getElem? (i := 30) (by decide +kernel)) (by decide +kernel)
theorem wl_5_31 : (.selects RX7 yX7_runApart yX7_runApart : Cond) ∈ sg_tbl := tb_5 _ (List.mem_of_getElem? (i := 31) (by decide +kernel)) (by decide +kernel)
theorem wl_5_68 : (.code yX7_lookOn cX7_lookOn 5 none : Cond) ∈ sg_tbl := tb_5 _ (List.mem_of_getElem? (i := 68) (by decide +kernel)) (by decide +kernel)
theorem wl_5_67 : (.instanceMethod yX7_lookOn : Cond) ∈ sg_tbl := tb_5 _ (List.mem_of_getElem? (i := 67) (by decide +kernel)) (by decide +kernel)
theorem wl_0_30 : (.selects RX7 yX7_lookOn yX7_lookOn : Cond) ∈ sg_tbl := tb_0 _ (List.mem_of_getElem? (i := 30) (by decide +kernel)) (by decide +kernel)
theorem wl_5_76 : (.code yX7_isHopeless cX7_isHopeless 3 (some .boolean) : Cond) ∈ sg_tbl := tb_5 _ (List.mem_of_getElem? (i := 76) (by decide +kernel)) (by decide +kernel)
theorem wl_5_75 : (.instanceMethod yX7_isHopeless : Cond) ∈ sg_tbl := tb_5 _ (List.mem_of_getElem? (i := 75) (by decide +kernel)) (by decide +kernel)
theorem wl_0_32 : (.selects RX7 yX7_isHopeless yX7_isHopeless : Cond) ∈ sg_tbl := tb_0 _ (List.mem_of_getElem? (i := 32) (by decide +kernel)) (by decide +kernel)
theorem wl_1_10 : (.initialized RX0 : Cond) ∈ sg_tbl := tb_1 _ (List.mem_of_getElem? (i := 10) (by decide +kernel)) (by decide +kernel)
theorem wl_4_218 : (.code yX0_advise cX0_advise 7 (some .boolean) : Cond) ∈ sg_tbl := tb_4 _ (List.mem_of_getElem? (i := 218) (by decide +kernel)) (by decide +kernel)
theorem wl_4_216 : (.instanceMethod yX0_advise : Cond) ∈ sg_tbl := tb_4 _ (List.mem_of_getElem? (i := 216) (by decide +kernel)) (by decide +kernel)
theorem wl_4_217 : (.selects RX0 yX0_advise yX0_advise : Cond) ∈ sg_tbl := tb_4 _ (List.mem_of_getElem? (i := 217) (by decide +kernel)) (by decide +kernel)
theorem wl_5_99 : (.code yX0_answer cX0_answer 6 (some .int) : Cond) ∈ sg_tbl := tb_5 _ (List.mem_of_getElem? (i := 99) (by decide +kernel)) (by decide +kernel)
theorem wl_5_97 : (.instanceMethod yX0_answer : Cond) ∈ sg_tbl := tb_5 _ (List.mem_of_getElem? (i := 97) (by decide +kernel)) (by decide +kernel)
theorem wl_5_98 : (.selects RX0 yX0_answer yX0_answer : Cond) ∈ sg_tbl := tb_5 _ (List.mem_of_getElem? (i := 98) (by decide +kernel)) (by decide +kernel)
theorem wl_5_116 : (.code yX0_canHold cX0_canHold 5 (some .boolean) : Cond) ∈ sg_tbl := tb_5 _ (List.mem_of_getElem? (i := 116) (by decide +kernel)) (by decide +kernel)
theorem wl_5_114 : (.instanceMethod yX0_canHold : Cond) ∈ sg_tbl := tb_5 _ (List.mem_of_getElem? (i := 114) (by decide +kernel)) (by decide +kernel)
theorem wl_5_115 : (.selects RX0 yX0_canHold yX0_canHold : Cond) ∈ sg_tbl := tb_5 _ (List.mem_of_getElem? (i := 115) (by decide +kernel)) (by decide +kernel)
theorem wl_5_120 : (.code yX0_forcing cX0_forcing 5 (some .int) : Cond) ∈ sg_tbl := tb_5 _ (List.mem_of_getElem? (i := 120) (by decide +kernel)) (by decide +kernel)
theorem wl_5_118 : (.instanceMethod yX0_forcing : Cond) ∈ sg_tbl := tb_5 _ (List.mem_of_getElem? (i := 118) (by decide +kernel)) (by decide +kernel)
theorem wl_5_119 : (.selects RX0 yX0_forcing yX0_forcing : Cond) ∈ sg_tbl := tb_5 _ (List.mem_of_getElem? (i := 119) (by decide +kernel)) (by decide +kernel)
section
variable {p : Program} {l : Launch} {e : Env} {R : Room} {s : State} {m : MethodId} {args : Array Value} {below : List Frame} {meth : Method} {c : Code} {H : Heap} {locs : List Loc} {cells slots : Nat} {Q : State → Prop} {cc : ByteArray} {nL pc : Nat} {ls : Array Slot} {rest : List Value} {own : String} {D : va_G} {A : Nat → Prop} {tys : List (ClassId × FieldType)} {ad ks : List Nat} {P : sgPm} {H0 : Heap} {index : Nat} {base : Nat} {st0 : List Value} {a : Nat}
theorem gf_X0_0   (X : CallFix p m c cc nL s args sg_tbl own) (hK : va_K D vwCl tys s) (hG : sgG (KT P) D vwCl A tys ad ks H) (ha : isK ad ks 0 a) (hl : Cond.fieldLink own index "LawnAhead$Ahead" "sight" "LLawnAhead$Sight;" ∈ sg_tbl) (hdg : decode cc pc = .ok (.getfield index, 3)) (kk : ∀ x : Nat, isK ad ks 8 x → fld D H 0 a 0 (.ref x) → W p l e R s m args below meth c H locs cells slots Q (F0 m (pc + 3) ls (.ref x :: rest))) : W p l e R s m args below meth c H locs cells slots Q (F0 m pc ls (.ref a :: rest)) :=
  sg_get X hK hG ha (k := 0) (ci := 0) rfl (C := RX0) (T := TX0) (N := 5) rfl inL_X0 0 (by decide) rfl hl (fun _ h => h) hdg (fun v hv hf => by
    obtain ⟨h1, -⟩ | ⟨x, rfl, hx⟩ := hv
    · cases h1
    · exact kk x hx hf)
theorem gf_X0_4   (X : CallFix p m c cc nL s args sg_tbl own) (hK : va_K D vwCl tys s) (hG : sgG (KT P) D vwCl A tys ad ks H) (ha : isK ad ks 0 a) (hl : Cond.fieldLink own index "LawnAhead$Ahead" "bestThreats" "I" ∈ sg_tbl) (hdg : decode cc pc = .ok (.getfield index, 3)) (kk : ∀ x : Int32, iv (-2147483648) 2147483647 x → fld D H 0 a 4 (.int x) → W p l e R s m args below meth c H locs cells slots Q (F0 m (pc + 3) ls (.int x :: rest))) : W p l e R s m args below meth c H locs cells slots Q (F0 m pc ls (.ref a :: rest)) :=
  sg_get X hK hG ha (k := 0) (ci := 0) rfl (C := RX0) (T := TX0) (N := 5) rfl inL_X0 4 (by decide) rfl hl (fun _ h => h) hdg (fun v hv hf => by obtain ⟨x, rfl, hx⟩ := hv; exact kk x hx hf)
theorem gf_X3_0   (X : CallFix p m c cc nL s args sg_tbl own) (hK : va_K D vwCl tys s) (hG : sgG (KT P) D vwCl A tys ad ks H) (ha : isK ad ks 3 a) (hl : Cond.fieldLink own index "LawnAhead$Game" "moves" "[I" ∈ sg_tbl) (hdg : decode cc pc = .ok (.getfield index, 3)) (kk : ∀ x : Nat, isK ad ks 20 x → fld D H 3 a 0 (.ref x) → W p l e R s m args below meth c H locs cells slots Q (F0 m (pc + 3) ls (.ref x :: rest))) : W p l e R s m args below meth c H locs cells slots Q (F0 m pc ls (.ref a :: rest)) :=
  sg_get X hK hG ha (k := 3) (ci := 3) rfl (C := RX3) (T := TX3) (N := 3) rfl inL_X3 0 (by decide) rfl hl (fun _ h => h) hdg (fun v hv hf => by
    obtain ⟨h1, -⟩ | ⟨x, rfl, hx⟩ := hv
    · cases h1
    · exact kk x hx hf)
theorem gf_X3_1   (X : CallFix p m c cc nL s args sg_tbl own) (hK : va_K D vwCl tys s) (hG : sgG (KT P) D vwCl A tys ad ks H) (ha : isK ad ks 3 a) (hl : Cond.fieldLink own index "LawnAhead$Game" "count" "I" ∈ sg_tbl) (hdg : decode cc pc = .ok (.getfield index, 3)) (kk : ∀ x : Int32, iv 0 16 x → fld D H 3 a 1 (.int x) → W p l e R s m args below meth c H locs cells slots Q (F0 m (pc + 3) ls (.int x :: rest))) : W p l e R s m args below meth c H locs cells slots Q (F0 m pc ls (.ref a :: rest)) :=
  sg_get X hK hG ha (k := 3) (ci := 3) rfl (C := RX3) (T := TX3) (N := 3) rfl inL_X3 1 (by decide) rfl hl (fun _ h => h) hdg (fun v hv hf => by obtain ⟨x, rfl, hx⟩ := hv; exact kk x hx hf)
theorem gf_X7_0   (X : CallFix p m c cc nL s args sg_tbl own) (hK : va_K D vwCl tys s) (hG : sgG (KT P) D vwCl A tys ad ks H) (ha : isK ad ks 7 a) (hl : Cond.fieldLink own index "LawnAhead$Play" "sight" "LLawnAhead$Sight;" ∈ sg_tbl) (hdg : decode cc pc = .ok (.getfield index, 3)) (kk : ∀ x : Nat, isK ad ks 8 x → fld D H 7 a 0 (.ref x) → W p l e R s m args below meth c H locs cells slots Q (F0 m (pc + 3) ls (.ref x :: rest))) : W p l e R s m args below meth c H locs cells slots Q (F0 m pc ls (.ref a :: rest)) :=
  sg_get X hK hG ha (k := 7) (ci := 7) rfl (C := RX7) (T := TX7) (N := 9) rfl inL_X7 0 (by decide) rfl hl (fun _ h => h) hdg (fun v hv hf => by
    obtain ⟨h1, -⟩ | ⟨x, rfl, hx⟩ := hv
    · cases h1
    · exact kk x hx hf)
theorem gf_X7_1   (X : CallFix p m c cc nL s args sg_tbl own) (hK : va_K D vwCl tys s) (hG : sgG (KT P) D vwCl A tys ad ks H) (ha : isK ad ks 7 a) (hl : Cond.fieldLink own index "LawnAhead$Play" "levels" "[LLawnAhead$State;" ∈ sg_tbl) (hdg : decode cc pc = .ok (.getfield index, 3)) (kk : ∀ x : Nat, isK ad ks 33 x → fld D H 7 a 1 (.ref x) → W p l e R s m args below meth c H locs cells slots Q (F0 m (pc + 3) ls (.ref x :: rest))) : W p l e R s m args below meth c H locs cells slots Q (F0 m pc ls (.ref a :: rest)) :=
  sg_get X hK hG ha (k := 7) (ci := 7) rfl (C := RX7) (T := TX7) (N := 9) rfl inL_X7 1 (by decide) rfl hl (fun _ h => h) hdg (fun v hv hf => by
    obtain ⟨h1, -⟩ | ⟨x, rfl, hx⟩ := hv
    · cases h1
    · exact kk x hx hf)
theorem gf_X7_2   (X : CallFix p m c cc nL s args sg_tbl own) (hK : va_K D vwCl tys s) (hG : sgG (KT P) D vwCl A tys ad ks H) (ha : isK ad ks 7 a) (hl : Cond.fieldLink own index "LawnAhead$Play" "taken" "[I" ∈ sg_tbl) (hdg : decode cc pc = .ok (.getfield index, 3)) (kk : ∀ x : Nat, isK ad ks 34 x → fld D H 7 a 2 (.ref x) → W p l e R s m args below meth c H locs cells slots Q (F0 m (pc + 3) ls (.ref x :: rest))) : W p l e R s m args below meth c H locs cells slots Q (F0 m pc ls (.ref a :: rest)) :=
  sg_get X hK hG ha (k := 7) (ci := 7) rfl (C := RX7) (T := TX7) (N := 9) rfl inL_X7 2 (by decide) rfl hl (fun _ h => h) hdg (fun v hv hf => by
    obtain ⟨h1, -⟩ | ⟨x, rfl, hx⟩ := hv
    · cases h1
    · exact kk x hx hf)
theorem gf_X7_3   (X : CallFix p m c cc nL s args sg_tbl own) (hK : va_K D vwCl tys s) (hG : sgG (KT P) D vwCl A tys ad ks H) (ha : isK ad ks 7 a) (hl : Cond.fieldLink own index "LawnAhead$Play" "grown" "[I" ∈ sg_tbl) (hdg : decode cc pc = .ok (.getfield index, 3)) (kk : ∀ x : Nat, isK ad ks 35 x → fld D H 7 a 3 (.ref x) → W p l e R s m args below meth c H locs cells slots Q (F0 m (pc + 3) ls (.ref x :: rest))) : W p l e R s m args below meth c H locs cells slots Q (F0 m pc ls (.ref a :: rest)) :=
  sg_get X hK hG ha (k := 7) (ci := 7) rfl (C := RX7) (T := TX7) (N := 9) rfl inL_X7 3 (by decide) rfl hl (fun _ h => h) hdg (fun v hv hf => by
    obtain ⟨h1, -⟩ | ⟨x, rfl, hx⟩ := hv
    · cases h1
    · exact kk x hx hf)
theorem gf_X7_4   (X : CallFix p m c cc nL s args sg_tbl own) (hK : va_K D vwCl tys s) (hG : sgG (KT P) D vwCl A tys ad ks H) (ha : isK ad ks 7 a) (hl : Cond.fieldLink own index "LawnAhead$Play" "game" "LLawnAhead$Game;" ∈ sg_tbl) (hdg : decode cc pc = .ok (.getfield index, 3)) (kk : ∀ x : Nat, isK ad ks 3 x → fld D H 7 a 4 (.ref x) → W p l e R s m args below meth c H locs cells slots Q (F0 m (pc + 3) ls (.ref x :: rest))) : W p l e R s m args below meth c H locs cells slots Q (F0 m pc ls (.ref a :: rest)) :=
  sg_get X hK hG ha (k := 7) (ci := 7) rfl (C := RX7) (T := TX7) (N := 9) rfl inL_X7 4 (by decide) rfl hl (fun _ h => h) hdg (fun v hv hf => by
    obtain ⟨h1, -⟩ | ⟨x, rfl, hx⟩ := hv
    · cases h1
    · exact kk x hx hf)
theorem gf_X7_5   (X : CallFix p m c cc nL s args sg_tbl own) (hK : va_K D vwCl tys s) (hG : sgG (KT P) D vwCl A tys ad ks H) (ha : isK ad ks 7 a) (hl : Cond.fieldLink own index "LawnAhead$Play" "aim" "I" ∈ sg_tbl) (hdg : decode cc pc = .ok (.getfield index, 3)) (kk : ∀ x : Int32, iv (-2147483648) 2147483647 x → fld D H 7 a 5 (.int x) → W p l e R s m args below meth c H locs cells slots Q (F0 m (pc + 3) ls (.int x :: rest))) : W p l e R s m args below meth c H locs cells slots Q (F0 m pc ls (.ref a :: rest)) :=
  sg_get X hK hG ha (k := 7) (ci := 7) rfl (C := RX7) (T := TX7) (N := 9) rfl inL_X7 5 (by decide) rfl hl (fun _ h => h) hdg (fun v hv hf => by obtain ⟨x, rfl, hx⟩ := hv; exact kk x hx hf)
theorem gg_X0_0   (X : CallFix p m c cc nL s args sg_tbl own) (hK : va_K D vwCl tys s) (hG : sgG (KT P) D vwCl A tys ad ks H) (ha : isK ad ks 0 a) (hl : Cond.fieldLink own index "LawnAhead$Ahead" "sight" "LLawnAhead$Sight;" ∈ sg_tbl) {v : Value} (hf : fld D H 0 a 0 v) (hdg : decode cc pc = .ok (.getfield index, 3)) (kk : W p l e R s m args below meth c H locs cells slots Q (F0 m (pc + 3) ls (v :: rest))) : W p l e R s m args below meth c H locs cells slots Q (F0 m pc ls (.ref a :: rest)) :=
  sg_getf X hK hG ha (k := 0) (ci := 0) rfl (C := RX0) (T := TX0) (N := 5) rfl inL_X0 0 (by decide) (show 0 < 5 by decide) hl (fun _ h => h) hf hdg kk
theorem gg_X0_4   (X : CallFix p m c cc nL s args sg_tbl own) (hK : va_K D vwCl tys s) (hG : sgG (KT P) D vwCl A tys ad ks H) (ha : isK ad ks 0 a) (hl : Cond.fieldLink own index "LawnAhead$Ahead" "bestThreats" "I" ∈ sg_tbl) {v : Value} (hf : fld D H 0 a 4 v) (hdg : decode cc pc = .ok (.getfield index, 3)) (kk : W p l e R s m args below meth c H locs cells slots Q (F0 m (pc + 3) ls (v :: rest))) : W p l e R s m args below meth c H locs cells slots Q (F0 m pc ls (.ref a :: rest)) :=
  sg_getf X hK hG ha (k := 0) (ci := 0) rfl (C := RX0) (T := TX0) (N := 5) rfl inL_X0 4 (by decide) (show 4 < 5 by decide) hl (fun _ h => h) hf hdg kk
theorem gg_X3_0   (X : CallFix p m c cc nL s args sg_tbl own) (hK : va_K D vwCl tys s) (hG : sgG (KT P) D vwCl A tys ad ks H) (ha : isK ad ks 3 a) (hl : Cond.fieldLink own index "LawnAhead$Game" "moves" "[I" ∈ sg_tbl) {v : Value} (hf : fld D H 3 a 0 v) (hdg : decode cc pc = .ok (.getfield index, 3)) (kk : W p l e R s m args below meth c H locs cells slots Q (F0 m (pc + 3) ls (v :: rest))) : W p l e R s m args below meth c H locs cells slots Q (F0 m pc ls (.ref a :: rest)) :=
  sg_getf X hK hG ha (k := 3) (ci := 3) rfl (C := RX3) (T := TX3) (N := 3) rfl inL_X3 0 (by decide) (show 0 < 3 by decide) hl (fun _ h => h) hf hdg kk
theorem gg_X3_1   (X : CallFix p m c cc nL s args sg_tbl own) (hK : va_K D vwCl tys s) (hG : sgG (KT P) D vwCl A tys ad ks H) (ha : isK ad ks 3 a) (hl : Cond.fieldLink own index "LawnAhead$Game" "count" "I" ∈ sg_tbl) {v : Value} (hf : fld D H 3 a 1 v) (hdg : decode cc pc = .ok (.getfield index, 3)) (kk : W p l e R s m args below meth c H locs cells slots Q (F0 m (pc + 3) ls (v :: rest))) : W p l e R s m args below meth c H locs cells slots Q (F0 m pc ls (.ref a :: rest)) :=
  sg_getf X hK hG ha (k := 3) (ci := 3) rfl (C := RX3) (T := TX3) (N := 3) rfl inL_X3 1 (by decide) (show 1 < 3 by decide) hl (fun _ h => h) hf hdg kk
theorem gg_X4_5   (X : CallFix p m c cc nL s args sg_tbl own) (hK : va_K D vwCl tys s) (hG : sgG (KT P) D vwCl A tys ad ks H) (ha : isK ad ks 4 a) (hl : Cond.fieldLink own index "LawnAhead$Ground" "cells" "I" ∈ sg_tbl) {v : Value} (hf : fld D H 4 a 5 v) (hdg : decode cc pc = .ok (.getfield index, 3)) (kk : W p l e R s m args below meth c H locs cells slots Q (F0 m (pc + 3) ls (v :: rest))) : W p l e R s m args below meth c H locs cells slots Q (F0 m pc ls (.ref a :: rest)) :=
  sg_getf X hK hG ha (k := 4) (ci := 4) rfl (C := RX4) (T := TX4) (N := 15) rfl inL_X4 5 (by decide) (show 5 < 15 by decide) hl (fun _ h => h) hf hdg kk
theorem gg_X7_0   (X : CallFix p m c cc nL s args sg_tbl own) (hK : va_K D vwCl tys s) (hG : sgG (KT P) D vwCl A tys ad ks H) (ha : isK ad ks 7 a) (hl : Cond.fieldLink own index "LawnAhead$Play" "sight" "LLawnAhead$Sight;" ∈ sg_tbl) {v : Value} (hf : fld D H 7 a 0 v) (hdg : decode cc pc = .ok (.getfield index, 3)) (kk : W p l e R s m args below meth c H locs cells slots Q (F0 m (pc + 3) ls (v :: rest))) : W p l e R s m args below meth c H locs cells slots Q (F0 m pc ls (.ref a :: rest)) :=
  sg_getf X hK hG ha (k := 7) (ci := 7) rfl (C := RX7) (T := TX7) (N := 9) rfl inL_X7 0 (by decide) (show 0 < 9 by decide) hl (fun _ h => h) hf hdg kk
theorem gg_X7_2   (X : CallFix p m c cc nL s args sg_tbl own) (hK : va_K D vwCl tys s) (hG : sgG (KT P) D vwCl A tys ad ks H) (ha : isK ad ks 7 a) (hl : Cond.fieldLink own index "LawnAhead$Play" "taken" "[I" ∈ sg_tbl) {v : Value} (hf : fld D H 7 a 2 v) (hdg : decode cc pc = .ok (.getfield index, 3)) (kk : W p l e R s m args below meth c H locs cells slots Q (F0 m (pc + 3) ls (v :: rest))) : W p l e R s m args below meth c H locs cells slots Q (F0 m pc ls (.ref a :: rest)) :=
  sg_getf X hK hG ha (k := 7) (ci := 7) rfl (C := RX7) (T := TX7) (N := 9) rfl inL_X7 2 (by decide) (show 2 < 9 by decide) hl (fun _ h => h) hf hdg kk
theorem gg_X7_3   (X : CallFix p m c cc nL s args sg_tbl own) (hK : va_K D vwCl tys s) (hG : sgG (KT P) D vwCl A tys ad ks H) (ha : isK ad ks 7 a) (hl : Cond.fieldLink own index "LawnAhead$Play" "grown" "[I" ∈ sg_tbl) {v : Value} (hf : fld D H 7 a 3 v) (hdg : decode cc pc = .ok (.getfield index, 3)) (kk : W p l e R s m args below meth c H locs cells slots Q (F0 m (pc + 3) ls (v :: rest))) : W p l e R s m args below meth c H locs cells slots Q (F0 m pc ls (.ref a :: rest)) :=
  sg_getf X hK hG ha (k := 7) (ci := 7) rfl (C := RX7) (T := TX7) (N := 9) rfl inL_X7 3 (by decide) (show 3 < 9 by decide) hl (fun _ h => h) hf hdg kk
theorem gg_X7_4   (X : CallFix p m c cc nL s args sg_tbl own) (hK : va_K D vwCl tys s) (hG : sgG (KT P) D vwCl A tys ad ks H) (ha : isK ad ks 7 a) (hl : Cond.fieldLink own index "LawnAhead$Play" "game" "LLawnAhead$Game;" ∈ sg_tbl) {v : Value} (hf : fld D H 7 a 4 v) (hdg : decode cc pc = .ok (.getfield index, 3)) (kk : W p l e R s m args below meth c H locs cells slots Q (F0 m (pc + 3) ls (v :: rest))) : W p l e R s m args below meth c H locs cells slots Q (F0 m pc ls (.ref a :: rest)) :=
  sg_getf X hK hG ha (k := 7) (ci := 7) rfl (C := RX7) (T := TX7) (N := 9) rfl inL_X7 4 (by decide) (show 4 < 9 by decide) hl (fun _ h => h) hf hdg kk
theorem gg_X7_5   (X : CallFix p m c cc nL s args sg_tbl own) (hK : va_K D vwCl tys s) (hG : sgG (KT P) D vwCl A tys ad ks H) (ha : isK ad ks 7 a) (hl : Cond.fieldLink own index "LawnAhead$Play" "aim" "I" ∈ sg_tbl) {v : Value} (hf : fld D H 7 a 5 v) (hdg : decode cc pc = .ok (.getfield index, 3)) (kk : W p l e R s m args below meth c H locs cells slots Q (F0 m (pc + 3) ls (v :: rest))) : W p l e R s m args below meth c H locs cells slots Q (F0 m pc ls (.ref a :: rest)) :=
  sg_getf X hK hG ha (k := 7) (ci := 7) rfl (C := RX7) (T := TX7) (N := 9) rfl inL_X7 5 (by decide) (show 5 < 9 by decide) hl (fun _ h => h) hf hdg kk
theorem gg_X8_6   (X : CallFix p m c cc nL s args sg_tbl own) (hK : va_K D vwCl tys s) (hG : sgG (KT P) D vwCl A tys ad ks H) (ha : isK ad ks 8 a) (hl : Cond.fieldLink own index "LawnAhead$Sight" "codes" "[I" ∈ sg_tbl) {v : Value} (hf : fld D H 8 a 6 v) (hdg : decode cc pc = .ok (.getfield index, 3)) (kk : W p l e R s m args below meth c H locs cells slots Q (F0 m (pc + 3) ls (v :: rest))) : W p l e R s m args below meth c H locs cells slots Q (F0 m pc ls (.ref a :: rest)) :=
  sg_getf X hK hG ha (k := 8) (ci := 8) rfl (C := RX8) (T := TX8) (N := 9) rfl inL_X8 6 (by decide) (show 6 < 9 by decide) hl (fun _ h => h) hf hdg kk
theorem gg_X9_0   (X : CallFix p m c cc nL s args sg_tbl own) (hK : va_K D vwCl tys s) (hG : sgG (KT P) D vwCl A tys ad ks H) (ha : isK ad ks 9 a) (hl : Cond.fieldLink own index "LawnAhead$State" "tufts" "I" ∈ sg_tbl) {v : Value} (hf : fld D H 9 a 0 v) (hdg : decode cc pc = .ok (.getfield index, 3)) (kk : W p l e R s m args below meth c H locs cells slots Q (F0 m (pc + 3) ls (v :: rest))) : W p l e R s m args below meth c H locs cells slots Q (F0 m pc ls (.ref a :: rest)) :=
  sg_getf X hK hG ha (k := 9) (ci := 9) rfl (C := RX9) (T := TX9) (N := 8) rfl inL_X9 0 (by decide) (show 0 < 8 by decide) hl (fun _ h => h) hf hdg kk
theorem pf_X0_3  {x : Int32}  (X : CallFix p m c cc nL s args sg_tbl own) (hK : va_K D vwCl tys s) (hG : sgG (KT P) D vwCl A tys ad ks H) (hS : va_S A H0 H locs) (ha : isK ad ks 0 a) (hl : Cond.fieldLink own index "LawnAhead$Ahead" "bestCode" "I" ∈ sg_tbl) (hv : okV ad ks (.inl ((-2147483648), 2147483647)) (.int x)) (hdg : decode cc pc = .ok (.putfield index, 3)) (kk : ∀ (H1 : Heap) (locs1 : List Loc), sgG (KT P) D vwCl A tys ad ks H1 → va_S A H0 H1 locs1 → fld D H1 0 a 3 (.int x) → sgFr (KT P) D vwCl ad ks H H1 (fun a' j' => a' = a ∧ j' = 3) → W p l e R s m args below meth c H1 locs1 cells slots Q (F0 m (pc + 3) ls rest)) : W p l e R s m args below meth c H locs cells slots Q (F0 m pc ls (.int x :: .ref a :: rest)) :=
  sg_put X hK hG hS ha (k := 0) (ci := 0) rfl (C := RX0) (T := TX0) (N := 5) rfl inL_X0 tyX0 tyX0_ok nmX0 3 (by decide) rfl hl (fun _ h => h) rfl (ty := .int) rfl rfl rfl hv hdg kk
theorem pf_X0_4  {x : Int32}  (X : CallFix p m c cc nL s args sg_tbl own) (hK : va_K D vwCl tys s) (hG : sgG (KT P) D vwCl A tys ad ks H) (hS : va_S A H0 H locs) (ha : isK ad ks 0 a) (hl : Cond.fieldLink own index "LawnAhead$Ahead" "bestThreats" "I" ∈ sg_tbl) (hv : okV ad ks (.inl ((-2147483648), 2147483647)) (.int x)) (hdg : decode cc pc = .ok (.putfield index, 3)) (kk : ∀ (H1 : Heap) (locs1 : List Loc), sgG (KT P) D vwCl A tys ad ks H1 → va_S A H0 H1 locs1 → fld D H1 0 a 4 (.int x) → sgFr (KT P) D vwCl ad ks H H1 (fun a' j' => a' = a ∧ j' = 4) → W p l e R s m args below meth c H1 locs1 cells slots Q (F0 m (pc + 3) ls rest)) : W p l e R s m args below meth c H locs cells slots Q (F0 m pc ls (.int x :: .ref a :: rest)) :=
  sg_put X hK hG hS ha (k := 0) (ci := 0) rfl (C := RX0) (T := TX0) (N := 5) rfl inL_X0 tyX0 tyX0_ok nmX0 4 (by decide) rfl hl (fun _ h => h) rfl (ty := .int) rfl rfl rfl hv hdg kk
theorem al_20  {i : Int32}  (X : CallFix p m c cc nL s args sg_tbl own) (hK : va_K D vwCl tys s) (hG : sgG (KT P) D vwCl A tys ad ks H) (ha : isK ad ks 20 a) (hin : vp_in i 16) (hdg : decode cc pc = .ok (.iaload, 1)) (kk : ∀ x : Int32, iv (-2147483648) 2147483647 x → W p l e R s m args below meth c H locs cells slots Q (F0 m (pc + 1) ls (.int x :: rest))) : W p l e R s m args below meth c H locs cells slots Q (F0 m pc ls (.int i :: .ref a :: rest)) :=
  sg_iald X hK hG ha (k := 20) rfl hin hdg (fun x hx => by obtain ⟨y, h1, h2⟩ := hx; cases h1; exact kk _ h2)
theorem al_33  {i : Int32}  (X : CallFix p m c cc nL s args sg_tbl own) (hK : va_K D vwCl tys s) (hG : sgG (KT P) D vwCl A tys ad ks H) (ha : isK ad ks 33 a) (hin : vp_in i 4) (hdg : decode cc pc = .ok (.aaload, 1)) (kk : ∀ x : Nat, isK ad ks 9 x → W p l e R s m args below meth c H locs cells slots Q (F0 m (pc + 1) ls (.ref x :: rest))) : W p l e R s m args below meth c H locs cells slots Q (F0 m pc ls (.int i :: .ref a :: rest)) :=
  sg_aald X hK hG ha (k := 33) rfl hin hdg (fun v hv => by rcases hv with ⟨h1, -⟩ | ⟨x, rfl, hx⟩ <;> first | (cases h1; done) | exact kk x hx)
theorem al_34  {i : Int32}  (X : CallFix p m c cc nL s args sg_tbl own) (hK : va_K D vwCl tys s) (hG : sgG (KT P) D vwCl A tys ad ks H) (ha : isK ad ks 34 a) (hin : vp_in i 17) (hdg : decode cc pc = .ok (.iaload, 1)) (kk : ∀ x : Int32, iv (-2147483648) 2147483647 x → W p l e R s m args below meth c H locs cells slots Q (F0 m (pc + 1) ls (.int x :: rest))) : W p l e R s m args below meth c H locs cells slots Q (F0 m pc ls (.int i :: .ref a :: rest)) :=
  sg_iald X hK hG ha (k := 34) rfl hin hdg (fun x hx => by obtain ⟨y, h1, h2⟩ := hx; cases h1; exact kk _ h2)
theorem al_35  {i : Int32}  (X : CallFix p m c cc nL s args sg_tbl own) (hK : va_K D vwCl tys s) (hG : sgG (KT P) D vwCl A tys ad ks H) (ha : isK ad ks 35 a) (hin : vp_in i 17) (hdg : decode cc pc = .ok (.iaload, 1)) (kk : ∀ x : Int32, iv (-2147483648) 2147483647 x → W p l e R s m args below meth c H locs cells slots Q (F0 m (pc + 1) ls (.int x :: rest))) : W p l e R s m args below meth c H locs cells slots Q (F0 m pc ls (.int i :: .ref a :: rest)) :=
  sg_iald X hK hG ha (k := 35) rfl hin hdg (fun x hx => by obtain ⟨y, h1, h2⟩ := hx; cases h1; exact kk _ h2)
theorem al_40  {i : Int32}  (X : CallFix p m c cc nL s args sg_tbl own) (hK : va_K D vwCl tys s) (hG : sgG (KT P) D vwCl A tys ad ks H) (ha : isK ad ks 40 a) (hin : vp_in i 270) (hdg : decode cc pc = .ok (.iaload, 1)) (kk : ∀ x : Int32, iv (-2147483648) 2147483647 x → W p l e R s m args below meth c H locs cells slots Q (F0 m (pc + 1) ls (.int x :: rest))) : W p l e R s m args below meth c H locs cells slots Q (F0 m pc ls (.int i :: .ref a :: rest)) :=
  sg_iald X hK hG ha (k := 40) rfl hin hdg (fun x hx => by obtain ⟨y, h1, h2⟩ := hx; cases h1; exact kk _ h2)
theorem al_41  {i : Int32}  (X : CallFix p m c cc nL s args sg_tbl own) (hK : va_K D vwCl tys s) (hG : sgG (KT P) D vwCl A tys ad ks H) (ha : isK ad ks 41 a) (hin : vp_in i 270) (hdg : decode cc pc = .ok (.iaload, 1)) (kk : ∀ x : Int32, iv (-2147483648) 2147483647 x → W p l e R s m args below meth c H locs cells slots Q (F0 m (pc + 1) ls (.int x :: rest))) : W p l e R s m args below meth c H locs cells slots Q (F0 m pc ls (.int i :: .ref a :: rest)) :=
  sg_iald X hK hG ha (k := 41) rfl hin hdg (fun x hx => by obtain ⟨y, h1, h2⟩ := hx; cases h1; exact kk _ h2)
theorem as_34  {i : Int32} {x : Int32}  (X : CallFix p m c cc nL s args sg_tbl own) (hK : va_K D vwCl tys s) (hG : sgG (KT P) D vwCl A tys ad ks H) (hS : va_S A H0 H locs) (ha : isK ad ks 34 a) (hin : vp_in i 17) (hv : okV ad ks (.inl ((-2147483648), 2147483647)) (.int x)) (hdg : decode cc pc = .ok (.iastore, 1)) (kk : ∀ (H1 : Heap) (locs1 : List Loc), sgG (KT P) D vwCl A tys ad ks H1 → va_S A H0 H1 locs1 → sgFr (KT P) D vwCl ad ks H H1 (fun _ _ => False) → W p l e R s m args below meth c H1 locs1 cells slots Q (F0 m (pc + 1) ls rest)) : W p l e R s m args below meth c H locs cells slots Q (F0 m pc ls (.int x :: .int i :: .ref a :: rest)) :=
  sg_iast X hK hG hS ha (k := 34) rfl hin hv hdg kk
theorem as_35  {i : Int32} {x : Int32}  (X : CallFix p m c cc nL s args sg_tbl own) (hK : va_K D vwCl tys s) (hG : sgG (KT P) D vwCl A tys ad ks H) (hS : va_S A H0 H locs) (ha : isK ad ks 35 a) (hin : vp_in i 17) (hv : okV ad ks (.inl ((-2147483648), 2147483647)) (.int x)) (hdg : decode cc pc = .ok (.iastore, 1)) (kk : ∀ (H1 : Heap) (locs1 : List Loc), sgG (KT P) D vwCl A tys ad ks H1 → va_S A H0 H1 locs1 → sgFr (KT P) D vwCl ad ks H H1 (fun _ _ => False) → W p l e R s m args below meth c H1 locs1 cells slots Q (F0 m (pc + 1) ls rest)) : W p l e R s m args below meth c H locs cells slots Q (F0 m pc ls (.int x :: .int i :: .ref a :: rest)) :=
  sg_iast X hK hG hS ha (k := 35) rfl hin hv hdg kk
set_option maxHeartbeats 8000000 in
set_option maxRecDepth 100000 in
theorem m_X7_allows (l : Launch) {D : va_G} {base : Nat} {tys : List (ClassId × FieldType)} {ad ks : List Nat} {P : sgPm} (a0 : Nat) (h0 : isK ad ks 7 a0) (a1 : Nat) (h1 : isK ad ks 9 a1) (x2 : Int32) (x3 : Int32) (x4 : Int32) (x5 : Int32) : sgMi l (KT P) D vwCl base tys ad ks yX7_allows cX7_allows 7 (some .boolean) ({ frames := 4, cells := 0, slots := 0, locals := 104 }) [.ref a0, .ref a1, .int x2, .int x3, .int x4, .int x5] (fun r : Int32 => iv 0 1 r ∧ (¬ r = 0 → x2 = 0 → iv 0 29 x3)) := by
  refine sg_ofW (by decide +kernel) (Nat.le_of_ble_eq_true rfl) (fun p e s m below meth c X hr hlk hb hK hC hG ls hl => ?_)
  have hS : va_S (fun q : Nat => base ≤ q) s.heap s.heap [] := va_S.rf
  have hl : lv_has ls 7 [(0, .ref a0), (1, .ref a1), (2, .int x2), (3, .int x3), (4, .int x4), (5, .int x5)] := hl
  refine lv_aload_n X.1 X.2.1 dX7_allows_0 rfl (lv_at hl 0 rfl) ?_
  refine gf_X7_0 X hK hG h0 wl_2_84 dX7_allows_1 (fun q1 hq1 kq1 => ?_)
  refine gf_X8_0 X hK hG hq1 wl_2_36 dX7_allows_4 (fun q2 hq2 kq2 => ?_)
  refine lv_astore (lv' := [(6, .ref q2), (0, .ref a0), (1, .ref a1), (2, .int x2), (3, .int x3), (4, .int x4), (5, .int x5)]) X.1 X.2.1 dX7_allows_7 hl (by decide) rfl (fun ls hl => ?_)
  refine lv_aload X.1 X.2.1 dX7_allows_9 (lv_at hl 0 rfl) ?_
  refine gf_X4_5 X hK hG hq2 wl_1_217 dX7_allows_11 (fun f3 hf3 kf3 => ?_)
  refine lv_if_eq (tgt := 24) X.1 X.2.1 dX7_allows_14 (by decide) (fun c4 => ?_) (fun c4 => ?_)
  · refine lv_iconst (v := 0) X.1 X.2.1 dX7_allows_24 (by decide +kernel) ?_
    exact sg_zret X hr (sg_zn (iv_of (iv_c 0 (a := 0) (b := 0) (by decide +kernel)) (a' := 0) (b' := 1) (by decide +kernel))) hlk hb hK hC hG hS ⟨(iv_of (iv_c 0 (a := 0) (b := 0) (by decide +kernel)) (a' := 0) (b' := 1) (by decide +kernel)), fun h => absurd rfl h⟩ dX7_allows_25
  · refine lv_aload_n X.1 X.2.1 dX7_allows_17 rfl (lv_at hl 2 rfl) ?_
    refine gf_X9_7 X hK hG h1 wl_1_139 dX7_allows_18 (fun f5 hf5 kf5 => ?_)
    refine lv_if_eq (tgt := 26) X.1 X.2.1 dX7_allows_21 (by decide) (fun c6 => ?_) (fun c6 => ?_)
    · refine lv_iload_n X.1 X.2.1 dX7_allows_26 rfl (lv_at hl 3 rfl) ?_
      by_cases c7 : x2 = 0
      · refine lv_tableIn (tgt := 52) (off := 25) X.1 X.2.1 dX7_allows_27 (by rw [c7]; decide +kernel) (by rw [c7]; decide +kernel) (by rw [c7]; rfl) (by decide) ?_
        refine lv_aload_n X.1 X.2.1 dX7_allows_52 rfl (lv_at hl 2 rfl) ?_
        refine gf_X9_2 X hK hG h1 wl_1_124 dX7_allows_53 (fun f8 hf8 kf8 => ?_)
        have B10_86 : ∀ (H : Heap) (locs : List Loc) (ls : Array Slot), sgG (KT P) D vwCl (fun q : Nat => base ≤ q) tys ad ks H → va_S (fun q : Nat => base ≤ q) s.heap H locs → lv_has ls 7 [(3, .int x3)] → W p l e (headSpec (Cond.code yX7_allows cX7_allows 7 (some .boolean) :: sg_tbl) ({ frames := 4, cells := 0, slots := 0, locals := 104 })).room s m #[.ref a0, .ref a1, .int x2, .int x3, .int x4, .int x5] below meth c H locs 0 0 (MQ below (va_Qi (fun r (_ : Unit) => (fun r : Int32 => iv 0 1 r ∧ (¬ r = 0 → x2 = 0 → iv 0 29 x3)) r) (fun _ => sgB (KT P) D vwCl base tys ad ks) (fun q : Nat => base ≤ q)) #[.ref a0, .ref a1, .int x2, .int x3, .int x4, .int x5] s 0 0 (fun q : Nat => base ≤ q)) (F0 m 86 ls []) := by
          intro H locs ls hG hS hl
          refine lv_iconst (v := 0) X.1 X.2.1 dX7_allows_86 (by decide +kernel) ?_
          exact sg_zret X hr (sg_zn (iv_of (iv_c 0 (a := 0) (b := 0) (by decide +kernel)) (a' := 0) (b' := 1) (by decide +kernel))) hlk hb hK hC hG hS ⟨(iv_of (iv_c 0 (a := 0) (b := 0) (by decide +kernel)) (a' := 0) (b' := 1) (by decide +kernel)), fun h => absurd rfl h⟩ dX7_allows_87
        refine lv_if_ne (tgt := 86) X.1 X.2.1 dX7_allows_56 (by decide) (fun c9 => ?_) (fun c9 => ?_)
        · exact B10_86 s.heap _ _ hG hS (lv_sub hl [4] rfl)
        · refine lv_aload_n X.1 X.2.1 dX7_allows_59 rfl (lv_at hl 1 rfl) ?_
          refine gg_X7_0 X hK hG h0 wl_2_84 kq1 dX7_allows_60 ?_
          refine lv_iload_n X.1 X.2.1 dX7_allows_63 rfl (lv_at hl 4 rfl) ?_
          refine lv_aload_n X.1 X.2.1 dX7_allows_64 rfl (lv_at hl 2 rfl) ?_
          refine gf_X9_0 X hK hG h1 wl_1_117 dX7_allows_65 (fun f11 hf11 kf11 => ?_)
          refine lv_aload_n X.1 X.2.1 dX7_allows_68 rfl (lv_at hl 2 rfl) ?_
          refine gf_X9_1 X hK hG h1 wl_1_121 dX7_allows_69 (fun f12 hf12 kf12 => ?_)
          refine lv_aload_n X.1 X.2.1 dX7_allows_72 rfl (lv_at hl 2 rfl) ?_
          refine gf_X9_3 X hK hG h1 wl_1_129 dX7_allows_73 (fun f13 hf13 kf13 => ?_)
          refine ca_X8_grows X hK hG hC hS hb q1 hq1 x3 f11 f12 f13 wl_4_98 hl.1 (rest := []) rfl (Nat.le_of_ble_eq_true rfl) ⟨Nat.le_of_ble_eq_true rfl, Nat.le_of_ble_eq_true rfl⟩ ⟨Nat.le_of_ble_eq_true rfl, Nat.le_of_ble_eq_true rfl⟩ dX7_allows_76 (fun f14 H locs hf14 hG hS => ?_)
          refine lv_if_eq (tgt := 86) X.1 X.2.1 dX7_allows_79 (by decide) (fun c15 => ?_) (fun c15 => ?_)
          · exact B10_86 H _ _ hG hS (lv_sub hl [4] rfl)
          · refine lv_iconst (v := 1) X.1 X.2.1 dX7_allows_82 (by decide +kernel) ?_
            refine lv_goto (tgt := 87) X.1 X.2.1 dX7_allows_83 (by decide) ?_
            exact sg_zret X hr (sg_zn (iv_of (iv_c 1 (a := 1) (b := 1) (by decide +kernel)) (a' := 0) (b' := 1) (by decide +kernel))) hlk hb hK hC hG hS ⟨(iv_of (iv_c 1 (a := 1) (b := 1) (by decide +kernel)) (a' := 0) (b' := 1) (by decide +kernel)), fun _ _ => (hf14.2 c15)⟩ dX7_allows_87
      by_cases c16 : x2 = 1
      · refine lv_tableIn (tgt := 88) (off := 61) X.1 X.2.1 dX7_allows_27 (by rw [c16]; decide +kernel) (by rw [c16]; decide +kernel) (by rw [c16]; rfl) (by decide) ?_
        refine lv_aload_n X.1 X.2.1 dX7_allows_88 rfl (lv_at hl 2 rfl) ?_
        refine gf_X9_2 X hK hG h1 wl_1_124 dX7_allows_89 (fun f17 hf17 kf17 => ?_)
        refine lv_iconst (v := 1) X.1 X.2.1 dX7_allows_92 (by decide +kernel) ?_
        have B19_117 : ∀ (locs : List Loc) (ls : Array Slot), va_S (fun q : Nat => base ≤ q) s.heap s.heap locs → lv_has ls 7 [(3, .int x3)] → W p l e (headSpec (Cond.code yX7_allows cX7_allows 7 (some .boolean) :: sg_tbl) ({ frames := 4, cells := 0, slots := 0, locals := 104 })).room s m #[.ref a0, .ref a1, .int x2, .int x3, .int x4, .int x5] below meth c s.heap locs 0 0 (MQ below (va_Qi (fun r (_ : Unit) => (fun r : Int32 => iv 0 1 r ∧ (¬ r = 0 → x2 = 0 → iv 0 29 x3)) r) (fun _ => sgB (KT P) D vwCl base tys ad ks) (fun q : Nat => base ≤ q)) #[.ref a0, .ref a1, .int x2, .int x3, .int x4, .int x5] s 0 0 (fun q : Nat => base ≤ q)) (F0 m 117 ls []) := by
          intro locs ls hS hl
          refine lv_iconst (v := 0) X.1 X.2.1 dX7_allows_117 (by decide +kernel) ?_
          exact sg_zret X hr (sg_zn (iv_of (iv_c 0 (a := 0) (b := 0) (by decide +kernel)) (a' := 0) (b' := 1) (by decide +kernel))) hlk hb hK hC hG hS ⟨(iv_of (iv_c 0 (a := 0) (b := 0) (by decide +kernel)) (a' := 0) (b' := 1) (by decide +kernel)), fun h => absurd rfl h⟩ dX7_allows_118
        refine lv_icmp_ne (tgt := 117) X.1 X.2.1 dX7_allows_93 (by decide) (fun c18 => ?_) (fun c18 => ?_)
        · exact B19_117 _ _ hS (lv_sub hl [4] rfl)
        · refine lv_aload X.1 X.2.1 dX7_allows_96 (lv_at hl 0 rfl) ?_
          refine lv_aload_n X.1 X.2.1 dX7_allows_98 rfl (lv_at hl 2 rfl) ?_
          refine gf_X9_0 X hK hG h1 wl_1_117 dX7_allows_99 (fun f20 hf20 kf20 => ?_)
          refine lv_iload_n X.1 X.2.1 dX7_allows_102 rfl (lv_at hl 4 rfl) ?_
          refine lv_iload X.1 X.2.1 dX7_allows_103 (lv_at hl 5 rfl) ?_
          refine lv_iload X.1 X.2.1 dX7_allows_105 (lv_at hl 6 rfl) ?_
          refine ca_X4_canCut X hK hG hC (fun _ h => h) hS hb q2 hq2 f20 x3 x4 x5 wl_4_141 hl.1 (rest := []) rfl (Nat.le_of_ble_eq_true rfl) ⟨Nat.le_of_ble_eq_true rfl, Nat.le_of_ble_eq_true rfl⟩ ⟨Nat.le_of_ble_eq_true rfl, Nat.le_of_ble_eq_true rfl⟩ dX7_allows_107 (fun f21 locs hf21 hS => ?_)
          refine lv_if_eq (tgt := 117) X.1 X.2.1 dX7_allows_110 (by decide) (fun c22 => ?_) (fun c22 => ?_)
          · exact B19_117 _ _ hS (lv_sub hl [4] rfl)
          · refine lv_iconst (v := 1) X.1 X.2.1 dX7_allows_113 (by decide +kernel) ?_
            refine lv_goto (tgt := 118) X.1 X.2.1 dX7_allows_114 (by decide) ?_
            exact sg_zret X hr (sg_zn (iv_of (iv_c 1 (a := 1) (b := 1) (by decide +kernel)) (a' := 0) (b' := 1) (by decide +kernel))) hlk hb hK hC hG hS ⟨(iv_of (iv_c 1 (a := 1) (b := 1) (by decide +kernel)) (a' := 0) (b' := 1) (by decide +kernel)), fun _ h => absurd (h.symm.trans c16) (by decide)⟩ dX7_allows_118
      by_cases c23 : x2 = 2
      · refine lv_tableIn (tgt := 119) (off := 92) X.1 X.2.1 dX7_allows_27 (by rw [c23]; decide +kernel) (by rw [c23]; decide +kernel) (by rw [c23]; rfl) (by decide) ?_
        refine lv_iload_n X.1 X.2.1 dX7_allows_119 rfl (lv_at hl 4 rfl) ?_
        have B25_153 : ∀ (locs : List Loc) (ls : Array Slot), va_S (fun q : Nat => base ≤ q) s.heap s.heap locs → lv_has ls 7 [(3, .int x3)] → W p l e (headSpec (Cond.code yX7_allows cX7_allows 7 (some .boolean) :: sg_tbl) ({ frames := 4, cells := 0, slots := 0, locals := 104 })).room s m #[.ref a0, .ref a1, .int x2, .int x3, .int x4, .int x5] below meth c s.heap locs 0 0 (MQ below (va_Qi (fun r (_ : Unit) => (fun r : Int32 => iv 0 1 r ∧ (¬ r = 0 → x2 = 0 → iv 0 29 x3)) r) (fun _ => sgB (KT P) D vwCl base tys ad ks) (fun q : Nat => base ≤ q)) #[.ref a0, .ref a1, .int x2, .int x3, .int x4, .int x5] s 0 0 (fun q : Nat => base ≤ q)) (F0 m 153 ls []) := by
          intro locs ls hS hl
          refine lv_iconst (v := 0) X.1 X.2.1 dX7_allows_153 (by decide +kernel) ?_
          exact sg_zret X hr (sg_zn (iv_of (iv_c 0 (a := 0) (b := 0) (by decide +kernel)) (a' := 0) (b' := 1) (by decide +kernel))) hlk hb hK hC hG hS ⟨(iv_of (iv_c 0 (a := 0) (b := 0) (by decide +kernel)) (a' := 0) (b' := 1) (by decide +kernel)), fun h => absurd rfl h⟩ dX7_allows_154
        refine lv_if_lt (tgt := 153) X.1 X.2.1 dX7_allows_120 (by decide) (fun c24 => ?_) (fun c24 => ?_)
        · exact B25_153 _ _ hS (lv_sub hl [4] rfl)
        · refine lv_iload_n X.1 X.2.1 dX7_allows_123 rfl (lv_at hl 4 rfl) ?_
          refine lv_aload X.1 X.2.1 dX7_allows_124 (lv_at hl 0 rfl) ?_
          refine gg_X4_5 X hK hG hq2 wl_1_217 kf3 dX7_allows_126 ?_
          refine lv_icmp_ge (tgt := 153) X.1 X.2.1 dX7_allows_129 (by decide) (fun c26 => ?_) (fun c26 => ?_)
          · exact B25_153 _ _ hS (lv_sub hl [4] rfl)
          · refine lv_aload X.1 X.2.1 dX7_allows_132 (lv_at hl 0 rfl) ?_
            refine gf_X4_10 X hK hG hq2 wl_1_229 dX7_allows_134 (fun f27 hf27 kf27 => ?_)
            refine lv_aload_n X.1 X.2.1 dX7_allows_137 rfl (lv_at hl 2 rfl) ?_
            refine gf_X9_1 X hK hG h1 wl_1_121 dX7_allows_138 (fun f28 hf28 kf28 => ?_)
            refine lv_ior X.1 X.2.1 dX7_allows_141 ?_
            refine lv_topi (fun f29 ef29 => ?_)
            refine lv_iload_n X.1 X.2.1 dX7_allows_142 rfl (lv_at hl 4 rfl) ?_
            refine lv_ishr X.1 X.2.1 dX7_allows_143 ?_
            refine lv_topi (fun f30 ef30 => ?_)
            refine lv_iconst (v := 1) X.1 X.2.1 dX7_allows_144 (by decide +kernel) ?_
            refine lv_iand X.1 X.2.1 dX7_allows_145 ?_
            refine lv_topi (fun f31 ef31 => ?_)
            refine lv_if_ne (tgt := 153) X.1 X.2.1 dX7_allows_146 (by decide) (fun c32 => ?_) (fun c32 => ?_)
            · exact B25_153 _ _ hS (lv_sub hl [4] rfl)
            · refine lv_iconst (v := 1) X.1 X.2.1 dX7_allows_149 (by decide +kernel) ?_
              refine lv_goto (tgt := 154) X.1 X.2.1 dX7_allows_150 (by decide) ?_
              exact sg_zret X hr (sg_zn (iv_of (iv_c 1 (a := 1) (b := 1) (by decide +kernel)) (a' := 0) (b' := 1) (by decide +kernel))) hlk hb hK hC hG hS ⟨(iv_of (iv_c 1 (a := 1) (b := 1) (by decide +kernel)) (a' := 0) (b' := 1) (by decide +kernel)), fun _ h => absurd (h.symm.trans c23) (by decide)⟩ dX7_allows_154
      refine lv_tableOut (tgt := 155) X.1 X.2.1 dX7_allows_27 (by have tc7 := iv_nt 0 c7 (by decide +kernel); have tc16 := iv_nt 1 c16 (by decide +kernel); have tc23 := iv_nt 2 c23 (by decide +kernel); have b1 := ((iv_top x2)).1; have b2 := ((iv_top x2)).2; omega) (by decide) ?_
      refine lv_iconst (v := 1) X.1 X.2.1 dX7_allows_155 (by decide +kernel) ?_
      exact sg_zret X hr (sg_zn (iv_of (iv_c 1 (a := 1) (b := 1) (by decide +kernel)) (a' := 0) (b' := 1) (by decide +kernel))) hlk hb hK hC hG hS ⟨(iv_of (iv_c 1 (a := 1) (b := 1) (by decide +kernel)) (a' := 0) (b' := 1) (by decide +kernel)), fun _ h => absurd h c7⟩ dX7_allows_156
    · refine lv_iconst (v := 0) X.1 X.2.1 dX7_allows_24 (by decide +kernel) ?_
      exact sg_zret X hr (sg_zn (iv_of (iv_c 0 (a := 0) (b := 0) (by decide +kernel)) (a' := 0) (b' := 1) (by decide +kernel))) hlk hb hK hC hG hS ⟨(iv_of (iv_c 0 (a := 0) (b := 0) (by decide +kernel)) (a' := 0) (b' := 1) (by decide +kernel)), fun h => absurd rfl h⟩ dX7_allows_25

theorem ca_X7_allows   (X : CallFix p m c cc nL s args sg_tbl own) (hK : va_K D vwCl tys s) (hG : sgG (KT P) D vwCl (fun q : Nat => base ≤ q) tys ad ks H) (hC : sgC base s) (hS : va_S (fun q : Nat => base ≤ q) s.heap H locs) (hb : base ≤ s.heap.size) (a0 : Nat) (h0 : isK ad ks 7 a0) (a1 : Nat) (h1 : isK ad ks 9 a1) (x2 : Int32) (x3 : Int32) (x4 : Int32) (x5 : Int32) (hl : Cond.methodLink own index yX7_allows ∈ sg_tbl) (hsize : ls.size = nL) (hst : st0 = [.ref a1, .int x2, .int x3, .int x4, .int x5].reverse ++ .ref a0 :: rest) (hW : (rest.map fun v => v.category).sum ≤ 8) (hR : 5 ≤ R.frames ∧ 130 ≤ R.locals) (hf : cells ≤ R.cells ∧ slots ≤ R.slots) (hdg : decode cc pc = .ok (.invokevirtual index, 3)) (kk : ∀ (r : Int32) (H1 : Heap) (locs1 : List Loc), (fun r : Int32 => iv 0 1 r ∧ (¬ r = 0 → x2 = 0 → iv 0 29 x3)) r → sgG (KT P) D vwCl (fun q : Nat => base ≤ q) tys ad ks H1 → va_S (fun q : Nat => base ≤ q) s.heap H1 locs1 → W p l e R s m args below meth c H1 locs1 cells slots Q (F0 m (pc + 3) ls (.int r :: rest))) : W p l e R s m args below meth c H locs cells slots Q (F0 m pc ls st0) :=
  sg_callVi X hK hG hC hS hb (m_X7_allows l a0 h0 a1 h1 x2 x3 x4 x5) h0 (k := 7) (ci := 7) rfl (C := RX7) (T := TX7) (N := 9) rfl wl_4_97 wl_1_9 wl_4_95 wl_4_96 (n := 5) (by decide +kernel) rfl rfl rfl hl hsize hst hW hR hf hdg kk

set_option maxHeartbeats 8000000 in
set_option maxRecDepth 100000 in
theorem m_X7_endDay (l : Launch) {D : va_G} {base : Nat} {tys : List (ClassId × FieldType)} {ad ks : List Nat} {P : sgPm} (a0 : Nat) (h0 : isK ad ks 9 a0) : sgMv l (KT P) D vwCl base tys ad ks yX7_endDay cX7_endDay 1 none ({ frames := 0, cells := 0, slots := 0, locals := 0 }) [.ref a0] := by
  refine sg_ofW (by decide +kernel) (Nat.le_of_ble_eq_true rfl) (fun p e s m below meth c X hr hlk hb hK hC hG ls hl => ?_)
  have hS : va_S (fun q : Nat => base ≤ q) s.heap s.heap [] := va_S.rf
  have hl : lv_has ls 1 [(0, .ref a0)] := hl
  refine lv_aload_n X.1 X.2.1 dX7_endDay_0 rfl (lv_at hl 0 rfl) ?_
  refine lv_iconst (v := 0) X.1 X.2.1 dX7_endDay_1 (by decide +kernel) ?_
  refine pf_X9_2 X hK hG hS h0 wl_1_124 ⟨_, rfl, (iv_top _)⟩ dX7_endDay_2 (fun H locs hG hS ku1 ru1 => ?_)
  refine lv_aload_n X.1 X.2.1 dX7_endDay_5 rfl (lv_at hl 0 rfl) ?_
  refine lv_dup X.1 X.2.1 dX7_endDay_6 rfl ?_
  refine gf_X9_3 X hK hG h0 wl_1_129 dX7_endDay_7 (fun f2 hf2 kf2 => ?_)
  refine lv_iconst (v := 1) X.1 X.2.1 dX7_endDay_10 (by decide +kernel) ?_
  refine lv_iadd X.1 X.2.1 dX7_endDay_11 ?_
  refine lv_topi (fun f3 ef3 => ?_)
  refine pf_X9_3 X hK hG hS h0 wl_1_129 ⟨_, rfl, (iv_top _)⟩ dX7_endDay_12 (fun H locs hG hS ku4 ru4 => ?_)
  exact sg_vret X hr hlk hb hK hC hG hS dX7_endDay_15

theorem ca_X7_endDay   (X : CallFix p m c cc nL s args sg_tbl own) (hK : va_K D vwCl tys s) (hG : sgG (KT P) D vwCl (fun q : Nat => base ≤ q) tys ad ks H) (hC : sgC base s) (hS : va_S (fun q : Nat => base ≤ q) s.heap H locs) (hb : base ≤ s.heap.size) (a0 : Nat) (h0 : isK ad ks 9 a0) (hl : Cond.methodLink own index yX7_endDay ∈ sg_tbl) (hsize : ls.size = nL) (hst : st0 = [.ref a0].reverse ++ rest) (hW : (rest.map fun v => v.category).sum ≤ 8) (hR : 1 ≤ R.frames ∧ 20 ≤ R.locals) (hf : cells ≤ R.cells ∧ slots ≤ R.slots) (hdg : decode cc pc = .ok (.invokestatic index, 3)) (kk : ∀ (H1 : Heap) (locs1 : List Loc), sgG (KT P) D vwCl (fun q : Nat => base ≤ q) tys ad ks H1 → va_S (fun q : Nat => base ≤ q) s.heap H1 locs1 → W p l e R s m args below meth c H1 locs1 cells slots Q (F0 m (pc + 3) ls rest)) : W p l e R s m args below meth c H locs cells slots Q (F0 m pc ls st0) :=
  sg_callSv X hK hG hC hS hb (m_X7_endDay l a0 h0) wl_4_177 wl_1_9 wl_4_176 (n := 1) (by decide +kernel) rfl rfl rfl hl hsize hst hW hR hf hdg kk

set_option maxHeartbeats 8000000 in
set_option maxRecDepth 100000 in
theorem m_X7_sitOut (l : Launch) {D : va_G} {base : Nat} {tys : List (ClassId × FieldType)} {ad ks : List Nat} {P : sgPm} (a0 : Nat) (h0 : isK ad ks 9 a0) : sgMv l (KT P) D vwCl base tys ad ks yX7_sitOut cX7_sitOut 1 none ({ frames := 1, cells := 0, slots := 0, locals := 20 }) [.ref a0] := by
  refine sg_ofW (by decide +kernel) (Nat.le_of_ble_eq_true rfl) (fun p e s m below meth c X hr hlk hb hK hC hG ls hl => ?_)
  have hS : va_S (fun q : Nat => base ≤ q) s.heap s.heap [] := va_S.rf
  have hl : lv_has ls 1 [(0, .ref a0)] := hl
  refine lv_aload_n X.1 X.2.1 dX7_sitOut_0 rfl (lv_at hl 0 rfl) ?_
  refine gf_X9_2 X hK hG h0 wl_1_124 dX7_sitOut_1 (fun f1 hf1 kf1 => ?_)
  refine lv_if_ne (tgt := 25) X.1 X.2.1 dX7_sitOut_4 (by decide) (fun c2 => ?_) (fun c2 => ?_)
  · refine lv_aload_n X.1 X.2.1 dX7_sitOut_25 rfl (lv_at hl 0 rfl) ?_
    refine lv_dup X.1 X.2.1 dX7_sitOut_26 rfl ?_
    refine gf_X9_5 X hK hG h0 wl_1_135 dX7_sitOut_27 (fun f3 hf3 kf3 => ?_)
    refine lv_iconst (v := 1) X.1 X.2.1 dX7_sitOut_30 (by decide +kernel) ?_
    refine lv_iadd X.1 X.2.1 dX7_sitOut_31 ?_
    refine lv_topi (fun f4 ef4 => ?_)
    refine pf_X9_5 X hK hG hS h0 wl_1_135 ⟨_, rfl, (iv_top _)⟩ dX7_sitOut_32 (fun H locs hG hS ku5 ru5 => ?_)
    refine lv_aload_n X.1 X.2.1 dX7_sitOut_35 rfl (lv_at hl 0 rfl) ?_
    refine ca_X7_endDay X hK hG hC hS hb a0 h0 wl_4_175 hl.1 (rest := []) rfl (Nat.le_of_ble_eq_true rfl) ⟨Nat.le_of_ble_eq_true rfl, Nat.le_of_ble_eq_true rfl⟩ ⟨Nat.le_of_ble_eq_true rfl, Nat.le_of_ble_eq_true rfl⟩ dX7_sitOut_36 (fun H locs hG hS => ?_)
    exact sg_vret X hr hlk hb hK hC hG hS dX7_sitOut_39
  · refine lv_aload_n X.1 X.2.1 dX7_sitOut_7 rfl (lv_at hl 0 rfl) ?_
    refine lv_dup X.1 X.2.1 dX7_sitOut_8 rfl ?_
    refine gf_X9_4 X hK hG h0 wl_1_132 dX7_sitOut_9 (fun f7 hf7 kf7 => ?_)
    refine lv_iconst (v := 1) X.1 X.2.1 dX7_sitOut_12 (by decide +kernel) ?_
    refine lv_iadd X.1 X.2.1 dX7_sitOut_13 ?_
    refine lv_topi (fun f8 ef8 => ?_)
    refine pf_X9_4 X hK hG hS h0 wl_1_132 ⟨_, rfl, (iv_top _)⟩ dX7_sitOut_14 (fun H locs hG hS ku9 ru9 => ?_)
    refine lv_aload_n X.1 X.2.1 dX7_sitOut_17 rfl (lv_at hl 0 rfl) ?_
    refine lv_iconst (v := 1) X.1 X.2.1 dX7_sitOut_18 (by decide +kernel) ?_
    refine pf_X9_2 X hK hG hS h0 wl_1_124 ⟨_, rfl, (iv_top _)⟩ dX7_sitOut_19 (fun H locs hG hS ku10 ru10 => ?_)
    refine lv_goto (tgt := 39) X.1 X.2.1 dX7_sitOut_22 (by decide) ?_
    exact sg_vret X hr hlk hb hK hC hG hS dX7_sitOut_39

theorem ca_X7_sitOut   (X : CallFix p m c cc nL s args sg_tbl own) (hK : va_K D vwCl tys s) (hG : sgG (KT P) D vwCl (fun q : Nat => base ≤ q) tys ad ks H) (hC : sgC base s) (hS : va_S (fun q : Nat => base ≤ q) s.heap H locs) (hb : base ≤ s.heap.size) (a0 : Nat) (h0 : isK ad ks 9 a0) (hl : Cond.methodLink own index yX7_sitOut ∈ sg_tbl) (hsize : ls.size = nL) (hst : st0 = [.ref a0].reverse ++ rest) (hW : (rest.map fun v => v.category).sum ≤ 8) (hR : 2 ≤ R.frames ∧ 40 ≤ R.locals) (hf : cells ≤ R.cells ∧ slots ≤ R.slots) (hdg : decode cc pc = .ok (.invokestatic index, 3)) (kk : ∀ (H1 : Heap) (locs1 : List Loc), sgG (KT P) D vwCl (fun q : Nat => base ≤ q) tys ad ks H1 → va_S (fun q : Nat => base ≤ q) s.heap H1 locs1 → W p l e R s m args below meth c H1 locs1 cells slots Q (F0 m (pc + 3) ls rest)) : W p l e R s m args below meth c H locs cells slots Q (F0 m pc ls st0) :=
  sg_callSv X hK hG hC hS hb (m_X7_sitOut l a0 h0) wl_4_180 wl_1_9 wl_4_179 (n := 1) (by decide +kernel) rfl rfl rfl hl hsize hst hW hR hf hdg kk

set_option maxHeartbeats 8000000 in
set_option maxRecDepth 100000 in
theorem m_X7_apply (l : Launch) {D : va_G} {base : Nat} {tys : List (ClassId × FieldType)} {ad ks : List Nat} {P : sgPm} (a0 : Nat) (h0 : isK ad ks 7 a0) (a1 : Nat) (h1 : isK ad ks 9 a1) (x2 : Int32) (x3 : Int32) (x4 : Int32) (x5 : Int32) (hgc : x2 = 0 → iv 0 29 x3) : sgMv l (KT P) D vwCl base tys ad ks yX7_apply cX7_apply 6 none ({ frames := 2, cells := 0, slots := 0, locals := 47 }) [.ref a0, .ref a1, .int x2, .int x3, .int x4, .int x5] := by
  refine sg_ofW (by decide +kernel) (Nat.le_of_ble_eq_true rfl) (fun p e s m below meth c X hr hlk hb hK hC hG ls hl => ?_)
  have hS : va_S (fun q : Nat => base ≤ q) s.heap s.heap [] := va_S.rf
  have hl : lv_has ls 6 [(0, .ref a0), (1, .ref a1), (2, .int x2), (3, .int x3), (4, .int x4), (5, .int x5)] := hl
  refine lv_iload_n X.1 X.2.1 dX7_apply_0 rfl (lv_at hl 2 rfl) ?_
  by_cases c1 : x2 = 0
  · refine lv_tableIn (tgt := 28) (off := 27) X.1 X.2.1 dX7_apply_1 (by rw [c1]; decide +kernel) (by rw [c1]; decide +kernel) (by rw [c1]; rfl) (by decide) ?_
    refine lv_aload_n X.1 X.2.1 dX7_apply_28 rfl (lv_at hl 1 rfl) ?_
    refine lv_dup X.1 X.2.1 dX7_apply_29 rfl ?_
    refine gf_X9_0 X hK hG h1 wl_1_117 dX7_apply_30 (fun f2 hf2 kf2 => ?_)
    refine lv_iconst (v := 1) X.1 X.2.1 dX7_apply_33 (by decide +kernel) ?_
    refine lv_iload_n X.1 X.2.1 dX7_apply_34 rfl (lv_at hl 3 rfl) ?_
    refine lv_ishl X.1 X.2.1 dX7_apply_35 ?_
    refine lv_topi (fun f3 ef3 => ?_)
    refine lv_ior X.1 X.2.1 dX7_apply_36 ?_
    refine lv_topi (fun f4 ef4 => ?_)
    refine pf_X9_0 X hK hG hS h1 wl_1_117 ⟨_, rfl, (iv_of (iv_or 30 ef4 hf2 (sg_shl1 ef3 (hgc c1) (by decide +kernel)) (by decide +kernel)) (a' := 0) (b' := 1073741823) (by decide +kernel))⟩ dX7_apply_37 (fun H locs hG hS ku5 ru5 => ?_)
    refine lv_aload_n X.1 X.2.1 dX7_apply_40 rfl (lv_at hl 1 rfl) ?_
    refine lv_aload_n X.1 X.2.1 dX7_apply_41 rfl (lv_at hl 0 rfl) ?_
    refine gf_X7_0 X hK hG h0 wl_2_84 dX7_apply_42 (fun q6 hq6 kq6 => ?_)
    refine gf_X8_0 X hK hG hq6 wl_2_36 dX7_apply_45 (fun q7 hq7 kq7 => ?_)
    refine lv_aload_n X.1 X.2.1 dX7_apply_48 rfl (lv_at hl 1 rfl) ?_
    refine gg_X9_0 X hK hG h1 wl_1_117 ku5 dX7_apply_49 ?_
    refine ca_X4_hasLine X hK hG hC (fun _ h => h) hS hb q7 hq7 f4 wl_4_173 hl.1 (rest := [.ref a1]) rfl (Nat.le_of_ble_eq_true rfl) ⟨Nat.le_of_ble_eq_true rfl, Nat.le_of_ble_eq_true rfl⟩ ⟨Nat.le_of_ble_eq_true rfl, Nat.le_of_ble_eq_true rfl⟩ dX7_apply_52 (fun f8 locs hf8 hS => ?_)
    refine pf_X9_7 X hK hG hS h1 wl_1_139 ⟨_, rfl, hf8⟩ dX7_apply_55 (fun H locs hG hS ku9 ru9 => ?_)
    refine lv_aload_n X.1 X.2.1 dX7_apply_58 rfl (lv_at hl 1 rfl) ?_
    refine lv_iconst (v := 1) X.1 X.2.1 dX7_apply_59 (by decide +kernel) ?_
    refine pf_X9_2 X hK hG hS h1 wl_1_124 ⟨_, rfl, (iv_top _)⟩ dX7_apply_60 (fun H locs hG hS ku10 ru10 => ?_)
    refine lv_goto (tgt := 132) X.1 X.2.1 dX7_apply_63 (by decide) ?_
    exact sg_vret X hr hlk hb hK hC hG hS dX7_apply_132
  by_cases c11 : x2 = 1
  · refine lv_tableIn (tgt := 66) (off := 65) X.1 X.2.1 dX7_apply_1 (by rw [c11]; decide +kernel) (by rw [c11]; decide +kernel) (by rw [c11]; rfl) (by decide) ?_
    refine lv_aload_n X.1 X.2.1 dX7_apply_66 rfl (lv_at hl 1 rfl) ?_
    refine lv_dup X.1 X.2.1 dX7_apply_67 rfl ?_
    refine gf_X9_0 X hK hG h1 wl_1_117 dX7_apply_68 (fun f12 hf12 kf12 => ?_)
    refine lv_aload_n X.1 X.2.1 dX7_apply_71 rfl (lv_at hl 0 rfl) ?_
    refine gf_X7_0 X hK hG h0 wl_2_84 dX7_apply_72 (fun q13 hq13 kq13 => ?_)
    refine gf_X8_0 X hK hG hq13 wl_2_36 dX7_apply_75 (fun q14 hq14 kq14 => ?_)
    refine lv_iload_n X.1 X.2.1 dX7_apply_78 rfl (lv_at hl 3 rfl) ?_
    refine lv_iload X.1 X.2.1 dX7_apply_79 (lv_at hl 4 rfl) ?_
    refine lv_iload X.1 X.2.1 dX7_apply_81 (lv_at hl 5 rfl) ?_
    refine ca_X4_cutBits X hK hG hC (fun _ h => h) hS hb q14 hq14 x3 x4 x5 wl_4_174 hl.1 (rest := [.int f12, .ref a1]) rfl (Nat.le_of_ble_eq_true rfl) ⟨Nat.le_of_ble_eq_true rfl, Nat.le_of_ble_eq_true rfl⟩ ⟨Nat.le_of_ble_eq_true rfl, Nat.le_of_ble_eq_true rfl⟩ dX7_apply_83 (fun f15 locs hf15 hS => ?_)
    refine lv_iconst (v := (-1)) X.1 X.2.1 dX7_apply_86 (by decide +kernel) ?_
    refine lv_ixor X.1 X.2.1 dX7_apply_87 ?_
    refine lv_topi (fun f16 ef16 => ?_)
    refine lv_iand X.1 X.2.1 dX7_apply_88 ?_
    refine lv_topi (fun f17 ef17 => ?_)
    refine pf_X9_0 X hK hG hS h1 wl_1_117 ⟨_, rfl, (iv_and' (b' := 1073741823) ef17 hf12 (by decide +kernel))⟩ dX7_apply_89 (fun H locs hG hS ku18 ru18 => ?_)
    refine lv_aload_n X.1 X.2.1 dX7_apply_92 rfl (lv_at hl 1 rfl) ?_
    refine ca_X7_endDay X hK hG hC hS hb a1 h1 wl_4_175 hl.1 (rest := []) rfl (Nat.le_of_ble_eq_true rfl) ⟨Nat.le_of_ble_eq_true rfl, Nat.le_of_ble_eq_true rfl⟩ ⟨Nat.le_of_ble_eq_true rfl, Nat.le_of_ble_eq_true rfl⟩ dX7_apply_93 (fun H locs hG hS => ?_)
    refine lv_goto (tgt := 132) X.1 X.2.1 dX7_apply_96 (by decide) ?_
    exact sg_vret X hr hlk hb hK hC hG hS dX7_apply_132
  by_cases c20 : x2 = 2
  · refine lv_tableIn (tgt := 99) (off := 98) X.1 X.2.1 dX7_apply_1 (by rw [c20]; decide +kernel) (by rw [c20]; decide +kernel) (by rw [c20]; rfl) (by decide) ?_
    refine lv_aload_n X.1 X.2.1 dX7_apply_99 rfl (lv_at hl 1 rfl) ?_
    refine lv_dup X.1 X.2.1 dX7_apply_100 rfl ?_
    refine gf_X9_0 X hK hG h1 wl_1_117 dX7_apply_101 (fun f21 hf21 kf21 => ?_)
    refine lv_iconst (v := 1) X.1 X.2.1 dX7_apply_104 (by decide +kernel) ?_
    refine lv_iload_n X.1 X.2.1 dX7_apply_105 rfl (lv_at hl 3 rfl) ?_
    refine lv_ishl X.1 X.2.1 dX7_apply_106 ?_
    refine lv_topi (fun f22 ef22 => ?_)
    refine lv_iconst (v := (-1)) X.1 X.2.1 dX7_apply_107 (by decide +kernel) ?_
    refine lv_ixor X.1 X.2.1 dX7_apply_108 ?_
    refine lv_topi (fun f23 ef23 => ?_)
    refine lv_iand X.1 X.2.1 dX7_apply_109 ?_
    refine lv_topi (fun f24 ef24 => ?_)
    refine pf_X9_0 X hK hG hS h1 wl_1_117 ⟨_, rfl, (iv_and' (b' := 1073741823) ef24 hf21 (by decide +kernel))⟩ dX7_apply_110 (fun H locs hG hS ku25 ru25 => ?_)
    refine lv_aload_n X.1 X.2.1 dX7_apply_113 rfl (lv_at hl 1 rfl) ?_
    refine lv_dup X.1 X.2.1 dX7_apply_114 rfl ?_
    refine gf_X9_1 X hK hG h1 wl_1_121 dX7_apply_115 (fun f26 hf26 kf26 => ?_)
    refine lv_iconst (v := 1) X.1 X.2.1 dX7_apply_118 (by decide +kernel) ?_
    refine lv_iload_n X.1 X.2.1 dX7_apply_119 rfl (lv_at hl 3 rfl) ?_
    refine lv_ishl X.1 X.2.1 dX7_apply_120 ?_
    refine lv_topi (fun f27 ef27 => ?_)
    refine lv_ior X.1 X.2.1 dX7_apply_121 ?_
    refine lv_topi (fun f28 ef28 => ?_)
    refine pf_X9_1 X hK hG hS h1 wl_1_121 ⟨_, rfl, (iv_top _)⟩ dX7_apply_122 (fun H locs hG hS ku29 ru29 => ?_)
    refine lv_goto (tgt := 132) X.1 X.2.1 dX7_apply_125 (by decide) ?_
    exact sg_vret X hr hlk hb hK hC hG hS dX7_apply_132
  refine lv_tableOut (tgt := 128) X.1 X.2.1 dX7_apply_1 (by have tc1 := iv_nt 0 c1 (by decide +kernel); have tc11 := iv_nt 1 c11 (by decide +kernel); have tc20 := iv_nt 2 c20 (by decide +kernel); have b1 := ((iv_top x2)).1; have b2 := ((iv_top x2)).2; omega) (by decide) ?_
  refine lv_aload_n X.1 X.2.1 dX7_apply_128 rfl (lv_at hl 1 rfl) ?_
  refine ca_X7_sitOut X hK hG hC hS hb a1 h1 wl_4_178 hl.1 (rest := []) rfl (Nat.le_of_ble_eq_true rfl) ⟨Nat.le_of_ble_eq_true rfl, Nat.le_of_ble_eq_true rfl⟩ ⟨Nat.le_of_ble_eq_true rfl, Nat.le_of_ble_eq_true rfl⟩ dX7_apply_129 (fun H locs hG hS => ?_)
  exact sg_vret X hr hlk hb hK hC hG hS dX7_apply_132

theorem ca_X7_apply   (X : CallFix p m c cc nL s args sg_tbl own) (hK : va_K D vwCl tys s) (hG : sgG (KT P) D vwCl (fun q : Nat => base ≤ q) tys ad ks H) (hC : sgC base s) (hS : va_S (fun q : Nat => base ≤ q) s.heap H locs) (hb : base ≤ s.heap.size) (a0 : Nat) (h0 : isK ad ks 7 a0) (a1 : Nat) (h1 : isK ad ks 9 a1) (x2 : Int32) (x3 : Int32) (x4 : Int32) (x5 : Int32) (hgc : x2 = 0 → iv 0 29 x3) (hl : Cond.methodLink own index yX7_apply ∈ sg_tbl) (hsize : ls.size = nL) (hst : st0 = [.ref a1, .int x2, .int x3, .int x4, .int x5].reverse ++ .ref a0 :: rest) (hW : (rest.map fun v => v.category).sum ≤ 8) (hR : 3 ≤ R.frames ∧ 72 ≤ R.locals) (hf : cells ≤ R.cells ∧ slots ≤ R.slots) (hdg : decode cc pc = .ok (.invokevirtual index, 3)) (kk : ∀ (H1 : Heap) (locs1 : List Loc), sgG (KT P) D vwCl (fun q : Nat => base ≤ q) tys ad ks H1 → va_S (fun q : Nat => base ≤ q) s.heap H1 locs1 → W p l e R s m args below meth c H1 locs1 cells slots Q (F0 m (pc + 3) ls rest)) : W p l e R s m args below meth c H locs cells slots Q (F0 m pc ls st0) :=
  sg_callVv X hK hG hC hS hb (m_X7_apply l a0 h0 a1 h1 x2 x3 x4 x5 hgc) h0 (k := 7) (ci := 7) rfl (C := RX7) (T := TX7) (N := 9) rfl wl_4_172 wl_1_9 wl_4_170 wl_4_171 (n := 5) (by decide +kernel) rfl rfl rfl hl hsize hst hW hR hf hdg kk

set_option maxHeartbeats 8000000 in
set_option maxRecDepth 100000 in
theorem m_X7_isLeaf (l : Launch) {D : va_G} {base : Nat} {tys : List (ClassId × FieldType)} {ad ks : List Nat} {P : sgPm} {Hx : Heap} (x0 : Int32) : sgPi l (KT P) D vwCl base tys ad ks Hx yX7_isLeaf cX7_isLeaf 1 (some .boolean) ({ frames := 1, cells := 0, slots := 0, locals := 21 }) [.int x0] (fun r : Int32 => iv 0 1 r) := by
  refine sg_ofP (Pq := fun Hx => va_Qi (fun r (_ : Unit) => (fun r : Int32 => iv 0 1 r) r) (fun _ t => t.heap = Hx) (fun _ : Nat => False)) (by decide +kernel) (Nat.le_of_ble_eq_true rfl) (fun p e s m below meth c X hr hlk hb hK hC hG ls hl => ?_)
  have hS : va_S (fun _ : Nat => False) s.heap s.heap [] := va_S.rf
  have hl : lv_has ls 1 [(0, .int x0)] := hl
  refine lv_iload_n X.1 X.2.1 dX7_isLeaf_0 rfl (lv_at hl 0 rfl) ?_
  refine lv_iconst (v := 0) X.1 X.2.1 dX7_isLeaf_1 (by decide +kernel) ?_
  refine ca_X3_unpacked X hK hG hC (fun _ h => h.elim) hS hb x0 0 wl_5_41 hl.1 (rest := []) rfl (Nat.le_of_ble_eq_true rfl) ⟨Nat.le_of_ble_eq_true rfl, Nat.le_of_ble_eq_true rfl⟩ ⟨Nat.le_of_ble_eq_true rfl, Nat.le_of_ble_eq_true rfl⟩ dX7_isLeaf_2 (fun f1 locs hf1 hS => ?_)
  have B3_21 : ∀ (locs : List Loc) (ls : Array Slot), va_S (fun _ : Nat => False) s.heap s.heap locs → lv_has ls 1 [] → W p l e (headSpec (Cond.code yX7_isLeaf cX7_isLeaf 1 (some .boolean) :: sg_tbl) ({ frames := 1, cells := 0, slots := 0, locals := 21 })).room s m #[.int x0] below meth c s.heap locs 0 0 (MQ below (va_Qi (fun r (_ : Unit) => (fun r : Int32 => iv 0 1 r) r) (fun _ t => t.heap = s.heap) (fun _ : Nat => False)) #[.int x0] s 0 0 (fun _ : Nat => False)) (F0 m 21 ls []) := by
    intro locs ls hS hl
    refine lv_iconst (v := 0) X.1 X.2.1 dX7_isLeaf_21 (by decide +kernel) ?_
    exact sg_zretP X hr (sg_zn (iv_of (iv_c 0 (a := 0) (b := 0) (by decide +kernel)) (a' := 0) (b' := 1) (by decide +kernel))) hlk hS (iv_of (iv_c 0 (a := 0) (b := 0) (by decide +kernel)) (a' := 0) (b' := 1) (by decide +kernel)) dX7_isLeaf_22
  refine lv_if_ne (tgt := 21) X.1 X.2.1 dX7_isLeaf_5 (by decide) (fun c2 => ?_) (fun c2 => ?_)
  · exact B3_21 _ _ hS (lv_sub hl [] rfl)
  · refine lv_iload_n X.1 X.2.1 dX7_isLeaf_8 rfl (lv_at hl 0 rfl) ?_
    refine lv_iconst (v := 1) X.1 X.2.1 dX7_isLeaf_9 (by decide +kernel) ?_
    refine ca_X3_unpacked X hK hG hC (fun _ h => h.elim) hS hb x0 1 wl_5_41 hl.1 (rest := []) rfl (Nat.le_of_ble_eq_true rfl) ⟨Nat.le_of_ble_eq_true rfl, Nat.le_of_ble_eq_true rfl⟩ ⟨Nat.le_of_ble_eq_true rfl, Nat.le_of_ble_eq_true rfl⟩ dX7_isLeaf_10 (fun f4 locs hf4 hS => ?_)
    refine lv_iconst (v := (-1)) X.1 X.2.1 dX7_isLeaf_13 (by decide +kernel) ?_
    refine lv_icmp_ne (tgt := 21) X.1 X.2.1 dX7_isLeaf_14 (by decide) (fun c5 => ?_) (fun c5 => ?_)
    · exact B3_21 _ _ hS (lv_sub hl [] rfl)
    · refine lv_iconst (v := 1) X.1 X.2.1 dX7_isLeaf_17 (by decide +kernel) ?_
      refine lv_goto (tgt := 22) X.1 X.2.1 dX7_isLeaf_18 (by decide) ?_
      exact sg_zretP X hr (sg_zn (iv_of (iv_c 1 (a := 1) (b := 1) (by decide +kernel)) (a' := 0) (b' := 1) (by decide +kernel))) hlk hS (iv_of (iv_c 1 (a := 1) (b := 1) (by decide +kernel)) (a' := 0) (b' := 1) (by decide +kernel)) dX7_isLeaf_22

theorem ca_X7_isLeaf   (X : CallFix p m c cc nL s args sg_tbl own) (hK : va_K D vwCl tys s) (hG : sgG (KT P) D vwCl (fun q : Nat => base ≤ q) tys ad ks H) (hC : sgC base s) (hA : ∀ q : Nat, A q → base ≤ q) (hS : va_S A s.heap H locs) (hb : base ≤ s.heap.size) (x0 : Int32) (hl : Cond.methodLink own index yX7_isLeaf ∈ sg_tbl) (hsize : ls.size = nL) (hst : st0 = [.int x0].reverse ++ rest) (hW : (rest.map fun v => v.category).sum ≤ 8) (hR : 2 ≤ R.frames ∧ 41 ≤ R.locals) (hf : cells ≤ R.cells ∧ slots ≤ R.slots) (hdg : decode cc pc = .ok (.invokestatic index, 3)) (kk : ∀ (r : Int32) (locs1 : List Loc), (fun r : Int32 => iv 0 1 r) r → va_S A s.heap H locs1 → W p l e R s m args below meth c H locs1 cells slots Q (F0 m (pc + 3) ls (.int r :: rest))) : W p l e R s m args below meth c H locs cells slots Q (F0 m pc ls st0) :=
  sg_callPSi X hK hG hC hA hS hb (m_X7_isLeaf l x0) wl_5_40 wl_1_9 wl_5_39 (n := 1) (by decide +kernel) rfl rfl rfl hl hsize hst hW hR hf hdg kk

set_option maxHeartbeats 8000000 in
set_option maxRecDepth 100000 in
theorem m_X7_cellOf (l : Launch) {D : va_G} {base : Nat} {tys : List (ClassId × FieldType)} {ad ks : List Nat} {P : sgPm} (a0 : Nat) (h0 : isK ad ks 7 a0) (a1 : Nat) (h1 : isK ad ks 9 a1) (x2 : Int32) : sgMi l (KT P) D vwCl base tys ad ks yX7_cellOf cX7_cellOf 3 (some .int) ({ frames := 5, cells := 0, slots := 0, locals := 128 }) [.ref a0, .ref a1, .int x2] (fun r : Int32 => True) := by
  refine sg_ofW (by decide +kernel) (Nat.le_of_ble_eq_true rfl) (fun p e s m below meth c X hr hlk hb hK hC hG ls hl => ?_)
  have hS : va_S (fun q : Nat => base ≤ q) s.heap s.heap [] := va_S.rf
  have hl : lv_has ls 3 [(0, .ref a0), (1, .ref a1), (2, .int x2)] := hl
  refine lv_iload_n X.1 X.2.1 dX7_cellOf_0 rfl (lv_at hl 2 rfl) ?_
  refine ca_X7_isLeaf X hK hG hC (fun _ h => h) hS hb x2 wl_5_38 hl.1 (rest := []) rfl (Nat.le_of_ble_eq_true rfl) ⟨Nat.le_of_ble_eq_true rfl, Nat.le_of_ble_eq_true rfl⟩ ⟨Nat.le_of_ble_eq_true rfl, Nat.le_of_ble_eq_true rfl⟩ dX7_cellOf_1 (fun f1 locs hf1 hS => ?_)
  refine lv_if_eq (tgt := 29) X.1 X.2.1 dX7_cellOf_4 (by decide) (fun c2 => ?_) (fun c2 => ?_)
  · refine lv_iload_n X.1 X.2.1 dX7_cellOf_29 rfl (lv_at hl 2 rfl) ?_
    refine lv_iconst (v := 1) X.1 X.2.1 dX7_cellOf_30 (by decide +kernel) ?_
    refine ca_X3_unpacked X hK hG hC (fun _ h => h) hS hb x2 1 wl_5_41 hl.1 (rest := []) rfl (Nat.le_of_ble_eq_true rfl) ⟨Nat.le_of_ble_eq_true rfl, Nat.le_of_ble_eq_true rfl⟩ ⟨Nat.le_of_ble_eq_true rfl, Nat.le_of_ble_eq_true rfl⟩ dX7_cellOf_31 (fun f3 locs hf3 hS => ?_)
    exact sg_iret X hr hlk hb hK hC hG hS trivial dX7_cellOf_34
  · refine lv_aload_n X.1 X.2.1 dX7_cellOf_7 rfl (lv_at hl 0 rfl) ?_
    refine gf_X7_0 X hK hG h0 wl_2_84 dX7_cellOf_8 (fun q4 hq4 kq4 => ?_)
    refine lv_aload_n X.1 X.2.1 dX7_cellOf_11 rfl (lv_at hl 1 rfl) ?_
    refine gf_X9_0 X hK hG h1 wl_1_117 dX7_cellOf_12 (fun f5 hf5 kf5 => ?_)
    refine lv_aload_n X.1 X.2.1 dX7_cellOf_15 rfl (lv_at hl 1 rfl) ?_
    refine gf_X9_1 X hK hG h1 wl_1_121 dX7_cellOf_16 (fun f6 hf6 kf6 => ?_)
    refine lv_aload_n X.1 X.2.1 dX7_cellOf_19 rfl (lv_at hl 1 rfl) ?_
    refine gf_X9_3 X hK hG h1 wl_1_129 dX7_cellOf_20 (fun f7 hf7 kf7 => ?_)
    refine ca_X8_lowest X hK hG hC hS hb q4 hq4 f5 f6 f7 wl_5_42 hl.1 (rest := []) rfl (Nat.le_of_ble_eq_true rfl) ⟨Nat.le_of_ble_eq_true rfl, Nat.le_of_ble_eq_true rfl⟩ ⟨Nat.le_of_ble_eq_true rfl, Nat.le_of_ble_eq_true rfl⟩ dX7_cellOf_23 (fun f8 H locs hf8 hG hS => ?_)
    refine lv_goto (tgt := 34) X.1 X.2.1 dX7_cellOf_26 (by decide) ?_
    exact sg_iret X hr hlk hb hK hC hG hS trivial dX7_cellOf_34

theorem ca_X7_cellOf   (X : CallFix p m c cc nL s args sg_tbl own) (hK : va_K D vwCl tys s) (hG : sgG (KT P) D vwCl (fun q : Nat => base ≤ q) tys ad ks H) (hC : sgC base s) (hS : va_S (fun q : Nat => base ≤ q) s.heap H locs) (hb : base ≤ s.heap.size) (a0 : Nat) (h0 : isK ad ks 7 a0) (a1 : Nat) (h1 : isK ad ks 9 a1) (x2 : Int32) (hl : Cond.methodLink own index yX7_cellOf ∈ sg_tbl) (hsize : ls.size = nL) (hst : st0 = [.ref a1, .int x2].reverse ++ .ref a0 :: rest) (hW : (rest.map fun v => v.category).sum ≤ 8) (hR : 6 ≤ R.frames ∧ 150 ≤ R.locals) (hf : cells ≤ R.cells ∧ slots ≤ R.slots) (hdg : decode cc pc = .ok (.invokevirtual index, 3)) (kk : ∀ (r : Int32) (H1 : Heap) (locs1 : List Loc), (fun r : Int32 => True) r → sgG (KT P) D vwCl (fun q : Nat => base ≤ q) tys ad ks H1 → va_S (fun q : Nat => base ≤ q) s.heap H1 locs1 → W p l e R s m args below meth c H1 locs1 cells slots Q (F0 m (pc + 3) ls (.int r :: rest))) : W p l e R s m args below meth c H locs cells slots Q (F0 m pc ls st0) :=
  sg_callVi X hK hG hC hS hb (m_X7_cellOf l a0 h0 a1 h1 x2) h0 (k := 7) (ci := 7) rfl (C := RX7) (T := TX7) (N := 9) rfl wl_5_37 wl_1_9 wl_5_35 wl_5_36 (n := 2) (by decide +kernel) rfl rfl rfl hl hsize hst hW hR hf hdg kk

set_option maxHeartbeats 8000000 in
set_option maxRecDepth 100000 in
theorem m_X7_step (l : Launch) {D : va_G} {base : Nat} {tys : List (ClassId × FieldType)} {ad ks : List Nat} {P : sgPm} (a0 : Nat) (h0 : isK ad ks 7 a0) (a1 : Nat) (h1 : isK ad ks 9 a1) (x2 : Int32) (x3 : Int32) : sgMi l (KT P) D vwCl base tys ad ks yX7_step cX7_step 7 (some .boolean) ({ frames := 5, cells := 0, slots := 0, locals := 130 }) [.ref a0, .ref a1, .int x2, .int x3] (fun r : Int32 => iv 0 1 r) := by
  refine sg_ofW (by decide +kernel) (Nat.le_of_ble_eq_true rfl) (fun p e s m below meth c X hr hlk hb hK hC hG ls hl => ?_)
  have hS : va_S (fun q : Nat => base ≤ q) s.heap s.heap [] := va_S.rf
  have hl : lv_has ls 7 [(0, .ref a0), (1, .ref a1), (2, .int x2), (3, .int x3)] := hl
  refine lv_iload_n X.1 X.2.1 dX7_step_0 rfl (lv_at hl 2 rfl) ?_
  refine lv_iconst (v := 0) X.1 X.2.1 dX7_step_1 (by decide +kernel) ?_
  refine ca_X3_unpacked X hK hG hC (fun _ h => h) hS hb x2 0 wl_5_41 hl.1 (rest := []) rfl (Nat.le_of_ble_eq_true rfl) ⟨Nat.le_of_ble_eq_true rfl, Nat.le_of_ble_eq_true rfl⟩ ⟨Nat.le_of_ble_eq_true rfl, Nat.le_of_ble_eq_true rfl⟩ dX7_step_2 (fun f1 locs hf1 hS => ?_)
  refine lv_istore (lv' := [(4, .int f1), (0, .ref a0), (1, .ref a1), (2, .int x2), (3, .int x3)]) X.1 X.2.1 dX7_step_5 hl (by decide) rfl (fun ls hl => ?_)
  refine lv_iload_n X.1 X.2.1 dX7_step_7 rfl (lv_at hl 3 rfl) ?_
  refine lv_iconst (v := 2) X.1 X.2.1 dX7_step_8 (by decide +kernel) ?_
  refine ca_X3_unpacked X hK hG hC (fun _ h => h) hS hb x2 2 wl_5_41 hl.1 (rest := []) rfl (Nat.le_of_ble_eq_true rfl) ⟨Nat.le_of_ble_eq_true rfl, Nat.le_of_ble_eq_true rfl⟩ ⟨Nat.le_of_ble_eq_true rfl, Nat.le_of_ble_eq_true rfl⟩ dX7_step_9 (fun f2 locs hf2 hS => ?_)
  refine lv_istore (lv' := [(5, .int f2), (4, .int f1), (0, .ref a0), (1, .ref a1), (2, .int x2), (3, .int x3)]) X.1 X.2.1 dX7_step_12 hl (by decide) rfl (fun ls hl => ?_)
  refine lv_iload_n X.1 X.2.1 dX7_step_14 rfl (lv_at hl 4 rfl) ?_
  refine lv_iconst (v := 3) X.1 X.2.1 dX7_step_15 (by decide +kernel) ?_
  refine ca_X3_unpacked X hK hG hC (fun _ h => h) hS hb x2 3 wl_5_41 hl.1 (rest := []) rfl (Nat.le_of_ble_eq_true rfl) ⟨Nat.le_of_ble_eq_true rfl, Nat.le_of_ble_eq_true rfl⟩ ⟨Nat.le_of_ble_eq_true rfl, Nat.le_of_ble_eq_true rfl⟩ dX7_step_16 (fun f3 locs hf3 hS => ?_)
  refine lv_istore (lv' := [(6, .int f3), (5, .int f2), (4, .int f1), (0, .ref a0), (1, .ref a1), (2, .int x2), (3, .int x3)]) X.1 X.2.1 dX7_step_19 hl (by decide) rfl (fun ls hl => ?_)
  refine lv_aload_n X.1 X.2.1 dX7_step_21 rfl (lv_at hl 3 rfl) ?_
  refine lv_aload_n X.1 X.2.1 dX7_step_22 rfl (lv_at hl 4 rfl) ?_
  refine lv_iload X.1 X.2.1 dX7_step_23 (lv_at hl 2 rfl) ?_
  refine lv_iload_n X.1 X.2.1 dX7_step_25 rfl (lv_at hl 6 rfl) ?_
  refine lv_iload X.1 X.2.1 dX7_step_26 (lv_at hl 1 rfl) ?_
  refine lv_iload X.1 X.2.1 dX7_step_28 (lv_at hl 0 rfl) ?_
  refine ca_X7_allows X hK hG hC hS hb a0 h0 a1 h1 f1 x3 f2 f3 wl_5_50 hl.1 (rest := []) rfl (Nat.le_of_ble_eq_true rfl) ⟨Nat.le_of_ble_eq_true rfl, Nat.le_of_ble_eq_true rfl⟩ ⟨Nat.le_of_ble_eq_true rfl, Nat.le_of_ble_eq_true rfl⟩ dX7_step_30 (fun f4 H locs hf4 hG hS => ?_)
  refine lv_if_ne (tgt := 38) X.1 X.2.1 dX7_step_33 (by decide) (fun c5 => ?_) (fun c5 => ?_)
  · refine lv_aload_n X.1 X.2.1 dX7_step_38 rfl (lv_at hl 3 rfl) ?_
    refine lv_aload_n X.1 X.2.1 dX7_step_39 rfl (lv_at hl 4 rfl) ?_
    refine lv_iload X.1 X.2.1 dX7_step_40 (lv_at hl 2 rfl) ?_
    refine lv_iload_n X.1 X.2.1 dX7_step_42 rfl (lv_at hl 6 rfl) ?_
    refine lv_iload X.1 X.2.1 dX7_step_43 (lv_at hl 1 rfl) ?_
    refine lv_iload X.1 X.2.1 dX7_step_45 (lv_at hl 0 rfl) ?_
    refine ca_X7_apply X hK hG hC hS hb a0 h0 a1 h1 f1 x3 f2 f3 (hf4.2 c5) wl_5_51 hl.1 (rest := []) rfl (Nat.le_of_ble_eq_true rfl) ⟨Nat.le_of_ble_eq_true rfl, Nat.le_of_ble_eq_true rfl⟩ ⟨Nat.le_of_ble_eq_true rfl, Nat.le_of_ble_eq_true rfl⟩ dX7_step_47 (fun H locs hG hS => ?_)
    refine lv_iconst (v := 1) X.1 X.2.1 dX7_step_50 (by decide +kernel) ?_
    exact sg_zret X hr (sg_zn (iv_of (iv_c 1 (a := 1) (b := 1) (by decide +kernel)) (a' := 0) (b' := 1) (by decide +kernel))) hlk hb hK hC hG hS (iv_of (iv_c 1 (a := 1) (b := 1) (by decide +kernel)) (a' := 0) (b' := 1) (by decide +kernel)) dX7_step_51
  · refine lv_iconst (v := 0) X.1 X.2.1 dX7_step_36 (by decide +kernel) ?_
    exact sg_zret X hr (sg_zn (iv_of (iv_c 0 (a := 0) (b := 0) (by decide +kernel)) (a' := 0) (b' := 1) (by decide +kernel))) hlk hb hK hC hG hS (iv_of (iv_c 0 (a := 0) (b := 0) (by decide +kernel)) (a' := 0) (b' := 1) (by decide +kernel)) dX7_step_37

theorem ca_X7_step   (X : CallFix p m c cc nL s args sg_tbl own) (hK : va_K D vwCl tys s) (hG : sgG (KT P) D vwCl (fun q : Nat => base ≤ q) tys ad ks H) (hC : sgC base s) (hS : va_S (fun q : Nat => base ≤ q) s.heap H locs) (hb : base ≤ s.heap.size) (a0 : Nat) (h0 : isK ad ks 7 a0) (a1 : Nat) (h1 : isK ad ks 9 a1) (x2 : Int32) (x3 : Int32) (hl : Cond.methodLink own index yX7_step ∈ sg_tbl) (hsize : ls.size = nL) (hst : st0 = [.ref a1, .int x2, .int x3].reverse ++ .ref a0 :: rest) (hW : (rest.map fun v => v.category).sum ≤ 8) (hR : 6 ≤ R.frames ∧ 156 ≤ R.locals) (hf : cells ≤ R.cells ∧ slots ≤ R.slots) (hdg : decode cc pc = .ok (.invokevirtual index, 3)) (kk : ∀ (r : Int32) (H1 : Heap) (locs1 : List Loc), (fun r : Int32 => iv 0 1 r) r → sgG (KT P) D vwCl (fun q : Nat => base ≤ q) tys ad ks H1 → va_S (fun q : Nat => base ≤ q) s.heap H1 locs1 → W p l e R s m args below meth c H1 locs1 cells slots Q (F0 m (pc + 3) ls (.int r :: rest))) : W p l e R s m args below meth c H locs cells slots Q (F0 m pc ls st0) :=
  sg_callVi X hK hG hC hS hb (m_X7_step l a0 h0 a1 h1 x2 x3) h0 (k := 7) (ci := 7) rfl (C := RX7) (T := TX7) (N := 9) rfl wl_5_49 wl_1_9 wl_5_48 wl_0_29 (n := 3) (by decide +kernel) rfl rfl rfl hl hsize hst hW hR hf hdg kk

set_option maxHeartbeats 8000000 in
set_option maxRecDepth 100000 in
theorem m_X7_runApart (l : Launch) {D : va_G} {base : Nat} {tys : List (ClassId × FieldType)} {ad ks : List Nat} {P : sgPm} (a0 : Nat) (h0 : isK ad ks 7 a0) (a1 : Nat) (h1 : isK ad ks 3 a1) (a2 : Nat) (h2 : isK ad ks 9 a2) : sgMi l (KT P) D vwCl base tys ad ks yX7_runApart cX7_runApart 5 (some .int) ({ frames := 6, cells := 0, slots := 0, locals := 156 }) [.ref a0, .ref a1, .ref a2] (fun r : Int32 => True) := by
  refine sg_ofW (by decide +kernel) (Nat.le_of_ble_eq_true rfl) (fun p e s m below meth c X hr hlk hb hK hC hG ls hl => ?_)
  have hS : va_S (fun q : Nat => base ≤ q) s.heap s.heap [] := va_S.rf
  have hl : lv_has ls 5 [(0, .ref a0), (1, .ref a1), (2, .ref a2)] := hl
  refine lv_aload_n X.1 X.2.1 dX7_runApart_0 rfl (lv_at hl 0 rfl) ?_
  refine gf_X7_1 X hK hG h0 wl_2_85 dX7_runApart_1 (fun q1 hq1 kq1 => ?_)
  refine lv_iconst (v := 0) X.1 X.2.1 dX7_runApart_4 (by decide +kernel) ?_
  refine al_33 X hK hG hq1 (iv_vpin (iv_c 0 (a := 0) (b := 0) (by decide +kernel)) (by decide +kernel)) dX7_runApart_5 (fun q2 hq2 => ?_)
  refine lv_astore_n (lv' := [(3, .ref q2), (0, .ref a0), (1, .ref a1), (2, .ref a2)]) X.1 X.2.1 dX7_runApart_6 rfl hl (by decide) rfl (fun ls hl => ?_)
  refine lv_aload_n X.1 X.2.1 dX7_runApart_7 rfl (lv_at hl 0 rfl) ?_
  refine lv_aload_n X.1 X.2.1 dX7_runApart_8 rfl (lv_at hl 3 rfl) ?_
  refine ca_X9_takeFrom X hK hG hC hS hb q2 hq2 a2 h2 wl_5_33 hl.1 (rest := []) rfl (Nat.le_of_ble_eq_true rfl) ⟨Nat.le_of_ble_eq_true rfl, Nat.le_of_ble_eq_true rfl⟩ ⟨Nat.le_of_ble_eq_true rfl, Nat.le_of_ble_eq_true rfl⟩ dX7_runApart_9 (fun H locs hG hS => ?_)
  refine lv_iconst (v := 0) X.1 X.2.1 dX7_runApart_12 (by decide +kernel) ?_
  refine lv_istore (lv' := [(4, .int 0), (3, .ref q2), (0, .ref a0), (1, .ref a1), (2, .ref a2)]) X.1 X.2.1 dX7_runApart_13 hl (by decide) rfl (fun ls hl => ?_)
  have B4_15 : ∀ (N : Nat) (H : Heap) (locs : List Loc) (ls : Array Slot) (z4_4 : Int32), sgG (KT P) D vwCl (fun q : Nat => base ≤ q) tys ad ks H → va_S (fun q : Nat => base ≤ q) s.heap H locs → lv_has ls 5 [(0, .ref a0), (1, .ref a1), (3, .ref q2), (4, .int z4_4)] → iv 0 16 z4_4 → (17 - z4_4.toInt).toNat ≤ N → W p l e (headSpec (Cond.code yX7_runApart cX7_runApart 5 (some .int) :: sg_tbl) ({ frames := 6, cells := 0, slots := 0, locals := 156 })).room s m #[.ref a0, .ref a1, .ref a2] below meth c H locs 0 0 (MQ below (va_Qi (fun r (_ : Unit) => (fun r : Int32 => True) r) (fun _ => sgB (KT P) D vwCl base tys ad ks) (fun q : Nat => base ≤ q)) #[.ref a0, .ref a1, .ref a2] s 0 0 (fun q : Nat => base ≤ q)) (F0 m 15 ls []) := by
    intro N; induction N with
    | zero =>
      intro H locs ls z4_4 hG hS hl hz4_4 hN
      exact absurd hN (by have := iv_up hz4_4; omega)
    | succ N ih4 =>
      intro H locs ls z4_4 hG hS hl hz4_4 hN4
      refine lv_iload X.1 X.2.1 dX7_runApart_15 (lv_at hl 3 rfl) ?_
      refine lv_aload_n X.1 X.2.1 dX7_runApart_17 rfl (lv_at hl 1 rfl) ?_
      refine gf_X3_1 X hK hG h1 wl_1_98 dX7_runApart_18 (fun f5 hf5 kf5 => ?_)
      refine lv_icmp_ge (tgt := 60) X.1 X.2.1 dX7_runApart_21 (by decide) (fun c6 => ?_) (fun c6 => ?_)
      · refine lv_aload_n X.1 X.2.1 dX7_runApart_60 rfl (lv_at hl 1 rfl) ?_
        refine gg_X3_1 X hK hG h1 wl_1_98 kf5 dX7_runApart_61 ?_
        exact sg_iret X hr hlk hb hK hC hG hS trivial dX7_runApart_64
      · refine lv_aload_n X.1 X.2.1 dX7_runApart_24 rfl (lv_at hl 0 rfl) ?_
        refine lv_aload_n X.1 X.2.1 dX7_runApart_25 rfl (lv_at hl 2 rfl) ?_
        refine lv_aload_n X.1 X.2.1 dX7_runApart_26 rfl (lv_at hl 1 rfl) ?_
        refine gf_X3_0 X hK hG h1 wl_1_95 dX7_runApart_27 (fun q7 hq7 kq7 => ?_)
        refine lv_iload X.1 X.2.1 dX7_runApart_30 (lv_at hl 3 rfl) ?_
        refine al_20 X hK hG hq7 (iv_vpin (iv_lt (b' := 15) (iv_gt_of c6) hz4_4 hf5 (by decide +kernel)) (by decide +kernel)) dX7_runApart_32 (fun f8 hf8 => ?_)
        refine lv_aload_n X.1 X.2.1 dX7_runApart_33 rfl (lv_at hl 0 rfl) ?_
        refine lv_aload_n X.1 X.2.1 dX7_runApart_34 rfl (lv_at hl 2 rfl) ?_
        refine lv_aload_n X.1 X.2.1 dX7_runApart_35 rfl (lv_at hl 1 rfl) ?_
        refine gg_X3_0 X hK hG h1 wl_1_95 kq7 dX7_runApart_36 ?_
        refine lv_iload X.1 X.2.1 dX7_runApart_39 (lv_at hl 3 rfl) ?_
        refine al_20 X hK hG hq7 (iv_vpin (iv_lt (b' := 15) (iv_gt_of c6) hz4_4 hf5 (by decide +kernel)) (by decide +kernel)) dX7_runApart_41 (fun f9 hf9 => ?_)
        refine ca_X7_cellOf X hK hG hC hS hb a0 h0 q2 hq2 f9 wl_5_34 hl.1 (rest := [.int f8, .ref q2, .ref a0]) rfl (Nat.le_of_ble_eq_true rfl) ⟨Nat.le_of_ble_eq_true rfl, Nat.le_of_ble_eq_true rfl⟩ ⟨Nat.le_of_ble_eq_true rfl, Nat.le_of_ble_eq_true rfl⟩ dX7_runApart_42 (fun f10 H locs hf10 hG hS => ?_)
        refine ca_X7_step X hK hG hC hS hb a0 h0 q2 hq2 f8 f10 wl_5_46 hl.1 (rest := []) rfl (Nat.le_of_ble_eq_true rfl) ⟨Nat.le_of_ble_eq_true rfl, Nat.le_of_ble_eq_true rfl⟩ ⟨Nat.le_of_ble_eq_true rfl, Nat.le_of_ble_eq_true rfl⟩ dX7_runApart_45 (fun f11 H locs hf11 hG hS => ?_)
        refine lv_if_ne (tgt := 54) X.1 X.2.1 dX7_runApart_48 (by decide) (fun c12 => ?_) (fun c12 => ?_)
        · obtain ⟨y13, ey13⟩ : ∃ y : Int32, y = z4_4 + Int32.ofInt 1 := ⟨_, rfl⟩
          refine lv_iinc (v := y13) (lv' := [(4, .int y13), (0, .ref a0), (1, .ref a1), (3, .ref q2)]) X.1 X.2.1 dX7_runApart_54 hl (k := 3) rfl ey13.symm (by decide) rfl (fun ls hl => ?_)
          refine lv_goto (tgt := 15) X.1 X.2.1 dX7_runApart_57 (by decide) ?_
          exact ih4 H _ _ y13 hG hS (lv_sub hl [1, 2, 3, 0] rfl) (iv_of (iv_add (a' := 1) (b' := 16) ey13 (iv_lt (b' := 15) (iv_gt_of c6) hz4_4 hf5 (by decide +kernel)) (iv_c _ (a := 1) (b := 1) (by decide +kernel)) (by decide +kernel)) (a' := 0) (b' := 16) (by decide +kernel)) (iv_stepU ey13 (iv_lt (b' := 15) (iv_gt_of c6) hz4_4 hf5 (by decide +kernel)) (by decide +kernel) hN4)
        · refine lv_iload X.1 X.2.1 dX7_runApart_51 (lv_at hl 3 rfl) ?_
          exact sg_iret X hr hlk hb hK hC hG hS trivial dX7_runApart_53
  exact B4_15 _ H _ _ 0 hG hS (lv_sub hl [2, 3, 1, 0] rfl) (iv_of (iv_c 0 (a := 0) (b := 0) (by decide +kernel)) (a' := 0) (b' := 16) (by decide +kernel)) (Nat.le_refl _)

theorem ca_X7_runApart   (X : CallFix p m c cc nL s args sg_tbl own) (hK : va_K D vwCl tys s) (hG : sgG (KT P) D vwCl (fun q : Nat => base ≤ q) tys ad ks H) (hC : sgC base s) (hS : va_S (fun q : Nat => base ≤ q) s.heap H locs) (hb : base ≤ s.heap.size) (a0 : Nat) (h0 : isK ad ks 7 a0) (a1 : Nat) (h1 : isK ad ks 3 a1) (a2 : Nat) (h2 : isK ad ks 9 a2) (hl : Cond.methodLink own index yX7_runApart ∈ sg_tbl) (hsize : ls.size = nL) (hst : st0 = [.ref a1, .ref a2].reverse ++ .ref a0 :: rest) (hW : (rest.map fun v => v.category).sum ≤ 8) (hR : 7 ≤ R.frames ∧ 180 ≤ R.locals) (hf : cells ≤ R.cells ∧ slots ≤ R.slots) (hdg : decode cc pc = .ok (.invokevirtual index, 3)) (kk : ∀ (r : Int32) (H1 : Heap) (locs1 : List Loc), (fun r : Int32 => True) r → sgG (KT P) D vwCl (fun q : Nat => base ≤ q) tys ad ks H1 → va_S (fun q : Nat => base ≤ q) s.heap H1 locs1 → W p l e R s m args below meth c H1 locs1 cells slots Q (F0 m (pc + 3) ls (.int r :: rest))) : W p l e R s m args below meth c H locs cells slots Q (F0 m pc ls st0) :=
  sg_callVi X hK hG hC hS hb (m_X7_runApart l a0 h0 a1 h1 a2 h2) h0 (k := 7) (ci := 7) rfl (C := RX7) (T := TX7) (N := 9) rfl wl_5_32 wl_1_9 wl_5_30 wl_5_31 (n := 2) (by decide +kernel) rfl rfl rfl hl hsize hst hW hR hf hdg kk

set_option maxHeartbeats 8000000 in
set_option maxRecDepth 100000 in
theorem m_X7_lookOn (l : Launch) {D : va_G} {base : Nat} {tys : List (ClassId × FieldType)} {ad ks : List Nat} {P : sgPm} (a0 : Nat) (h0 : isK ad ks 7 a0) : sgMv l (KT P) D vwCl base tys ad ks yX7_lookOn cX7_lookOn 5 none ({ frames := 2, cells := 0, slots := 0, locals := 46 }) [.ref a0] := by
  refine sg_ofW (by decide +kernel) (Nat.le_of_ble_eq_true rfl) (fun p e s m below meth c X hr hlk hb hK hC hG ls hl => ?_)
  have hS : va_S (fun q : Nat => base ≤ q) s.heap s.heap [] := va_S.rf
  have hl : lv_has ls 5 [(0, .ref a0)] := hl
  refine lv_aload_n X.1 X.2.1 dX7_lookOn_0 rfl (lv_at hl 0 rfl) ?_
  refine gf_X7_2 X hK hG h0 wl_2_86 dX7_lookOn_1 (fun q1 hq1 kq1 => ?_)
  refine lv_aload_n X.1 X.2.1 dX7_lookOn_4 rfl (lv_at hl 0 rfl) ?_
  refine gf_X7_4 X hK hG h0 wl_2_88 dX7_lookOn_5 (fun q2 hq2 kq2 => ?_)
  refine gf_X3_1 X hK hG hq2 wl_1_98 dX7_lookOn_8 (fun f3 hf3 kf3 => ?_)
  refine lv_iconst (v := 0) X.1 X.2.1 dX7_lookOn_11 (by decide +kernel) ?_
  refine as_34 X hK hG hS hq1 (iv_vpin hf3 (by decide +kernel)) ⟨_, rfl, (iv_top _)⟩ dX7_lookOn_12 (fun H locs hG hS ru4 => ?_)
  refine lv_aload_n X.1 X.2.1 dX7_lookOn_13 rfl (lv_at hl 0 rfl) ?_
  refine gf_X7_3 X hK hG h0 wl_2_87 dX7_lookOn_14 (fun q5 hq5 kq5 => ?_)
  refine lv_aload_n X.1 X.2.1 dX7_lookOn_17 rfl (lv_at hl 0 rfl) ?_
  refine gg_X7_4 X hK hG h0 wl_2_88 (ru4 _ _ _ _ _ _ _ h0 rfl rfl (by decide) (fun z => z.elim) kq2) dX7_lookOn_18 ?_
  refine gg_X3_1 X hK hG hq2 wl_1_98 (ru4 _ _ _ _ _ _ _ hq2 rfl rfl (by decide) (fun z => z.elim) kf3) dX7_lookOn_21 ?_
  refine lv_iconst (v := 0) X.1 X.2.1 dX7_lookOn_24 (by decide +kernel) ?_
  refine as_35 X hK hG hS hq5 (iv_vpin hf3 (by decide +kernel)) ⟨_, rfl, (iv_top _)⟩ dX7_lookOn_25 (fun H locs hG hS ru6 => ?_)
  refine lv_aload_n X.1 X.2.1 dX7_lookOn_26 rfl (lv_at hl 0 rfl) ?_
  refine gg_X7_4 X hK hG h0 wl_2_88 (ru6 _ _ _ _ _ _ _ h0 rfl rfl (by decide) (fun z => z.elim) (ru4 _ _ _ _ _ _ _ h0 rfl rfl (by decide) (fun z => z.elim) kq2)) dX7_lookOn_27 ?_
  refine gg_X3_1 X hK hG hq2 wl_1_98 (ru6 _ _ _ _ _ _ _ hq2 rfl rfl (by decide) (fun z => z.elim) (ru4 _ _ _ _ _ _ _ hq2 rfl rfl (by decide) (fun z => z.elim) kf3)) dX7_lookOn_30 ?_
  refine lv_iconst (v := 1) X.1 X.2.1 dX7_lookOn_33 (by decide +kernel) ?_
  refine lv_isub X.1 X.2.1 dX7_lookOn_34 ?_
  refine lv_topi (fun f7 ef7 => ?_)
  refine lv_istore_n (lv' := [(1, .int f7), (0, .ref a0)]) X.1 X.2.1 dX7_lookOn_35 rfl hl (by decide) rfl (fun ls hl => ?_)
  have B8_36 : ∀ (N : Nat) (H : Heap) (locs : List Loc) (ls : Array Slot) (z8_1 : Int32), sgG (KT P) D vwCl (fun q : Nat => base ≤ q) tys ad ks H → va_S (fun q : Nat => base ≤ q) s.heap H locs → lv_has ls 5 [(0, .ref a0), (1, .int z8_1)] → iv (-1) 15 z8_1 → (z8_1.toInt - (-2)).toNat ≤ N → W p l e (headSpec (Cond.code yX7_lookOn cX7_lookOn 5 none :: sg_tbl) ({ frames := 2, cells := 0, slots := 0, locals := 46 })).room s m #[.ref a0] below meth c H locs 0 0 (MQ below (va_Qv (fun (_ : Unit) => True) (fun _ => sgB (KT P) D vwCl base tys ad ks) (fun q : Nat => base ≤ q)) #[.ref a0] s 0 0 (fun q : Nat => base ≤ q)) (F0 m 36 ls []) := by
    intro N; induction N with
    | zero =>
      intro H locs ls z8_1 hG hS hl hz8_1 hN
      exact absurd hN (by have := iv_dn hz8_1; omega)
    | succ N ih8 =>
      intro H locs ls z8_1 hG hS hl hz8_1 hN8
      refine lv_iload_n X.1 X.2.1 dX7_lookOn_36 rfl (lv_at hl 1 rfl) ?_
      refine lv_if_lt (tgt := 164) X.1 X.2.1 dX7_lookOn_37 (by decide) (fun c9 => ?_) (fun c9 => ?_)
      · exact sg_vret X hr hlk hb hK hC hG hS dX7_lookOn_164
      · refine lv_aload_n X.1 X.2.1 dX7_lookOn_40 rfl (lv_at hl 0 rfl) ?_
        refine gf_X7_4 X hK hG h0 wl_2_88 dX7_lookOn_41 (fun q10 hq10 kq10 => ?_)
        refine gf_X3_0 X hK hG hq10 wl_1_95 dX7_lookOn_44 (fun q11 hq11 kq11 => ?_)
        refine lv_iload_n X.1 X.2.1 dX7_lookOn_47 rfl (lv_at hl 1 rfl) ?_
        refine al_20 X hK hG hq11 (iv_vpin (iv_ler (c' := 0) (iv_ge_of c9) (iv_c 0 (a := 0) (b := 0) (by decide +kernel)) hz8_1 (by decide +kernel)) (by decide +kernel)) dX7_lookOn_48 (fun f12 hf12 => ?_)
        refine lv_istore_n (lv' := [(2, .int f12), (0, .ref a0), (1, .int z8_1)]) X.1 X.2.1 dX7_lookOn_49 rfl hl (by decide) rfl (fun ls hl => ?_)
        refine lv_iload_n X.1 X.2.1 dX7_lookOn_50 rfl (lv_at hl 0 rfl) ?_
        refine lv_iconst (v := 0) X.1 X.2.1 dX7_lookOn_51 (by decide +kernel) ?_
        refine ca_X3_unpacked X hK hG hC (fun _ h => h) hS hb f12 0 wl_5_41 hl.1 (rest := []) rfl (Nat.le_of_ble_eq_true rfl) ⟨Nat.le_of_ble_eq_true rfl, Nat.le_of_ble_eq_true rfl⟩ ⟨Nat.le_of_ble_eq_true rfl, Nat.le_of_ble_eq_true rfl⟩ dX7_lookOn_52 (fun f13 locs hf13 hS => ?_)
        refine lv_istore_n (lv' := [(3, .int f13), (2, .int f12), (0, .ref a0), (1, .int z8_1)]) X.1 X.2.1 dX7_lookOn_55 rfl hl (by decide) rfl (fun ls hl => ?_)
        refine lv_iload_n X.1 X.2.1 dX7_lookOn_56 rfl (lv_at hl 1 rfl) ?_
        refine lv_iconst (v := 1) X.1 X.2.1 dX7_lookOn_57 (by decide +kernel) ?_
        refine ca_X3_unpacked X hK hG hC (fun _ h => h) hS hb f12 1 wl_5_41 hl.1 (rest := []) rfl (Nat.le_of_ble_eq_true rfl) ⟨Nat.le_of_ble_eq_true rfl, Nat.le_of_ble_eq_true rfl⟩ ⟨Nat.le_of_ble_eq_true rfl, Nat.le_of_ble_eq_true rfl⟩ dX7_lookOn_58 (fun f14 locs hf14 hS => ?_)
        refine lv_istore (lv' := [(4, .int f14), (3, .int f13), (2, .int f12), (0, .ref a0), (1, .int z8_1)]) X.1 X.2.1 dX7_lookOn_61 hl (by decide) rfl (fun ls hl => ?_)
        refine lv_aload_n X.1 X.2.1 dX7_lookOn_63 rfl (lv_at hl 3 rfl) ?_
        refine gf_X7_2 X hK hG h0 wl_2_86 dX7_lookOn_64 (fun q15 hq15 kq15 => ?_)
        refine lv_iload_n X.1 X.2.1 dX7_lookOn_67 rfl (lv_at hl 4 rfl) ?_
        refine lv_aload_n X.1 X.2.1 dX7_lookOn_68 rfl (lv_at hl 3 rfl) ?_
        refine gg_X7_2 X hK hG h0 wl_2_86 kq15 dX7_lookOn_69 ?_
        refine lv_iload_n X.1 X.2.1 dX7_lookOn_72 rfl (lv_at hl 4 rfl) ?_
        refine lv_iconst (v := 1) X.1 X.2.1 dX7_lookOn_73 (by decide +kernel) ?_
        refine lv_iadd X.1 X.2.1 dX7_lookOn_74 ?_
        refine lv_topi (fun f16 ef16 => ?_)
        refine al_34 X hK hG hq15 (iv_vpin (iv_add (a' := 1) (b' := 16) ef16 (iv_ler (c' := 0) (iv_ge_of c9) (iv_c 0 (a := 0) (b := 0) (by decide +kernel)) hz8_1 (by decide +kernel)) (iv_c 1 (a := 1) (b := 1) (by decide +kernel)) (by decide +kernel)) (by decide +kernel)) dX7_lookOn_75 (fun f17 hf17 => ?_)
        refine as_34 X hK hG hS hq15 (iv_vpin (iv_ler (c' := 0) (iv_ge_of c9) (iv_c 0 (a := 0) (b := 0) (by decide +kernel)) hz8_1 (by decide +kernel)) (by decide +kernel)) ⟨_, rfl, (iv_top _)⟩ dX7_lookOn_76 (fun H locs hG hS ru18 => ?_)
        refine lv_iload_n X.1 X.2.1 dX7_lookOn_77 rfl (lv_at hl 1 rfl) ?_
        refine lv_iconst (v := 1) X.1 X.2.1 dX7_lookOn_78 (by decide +kernel) ?_
        have B20_134 : ∀ (H : Heap) (locs : List Loc) (ls : Array Slot), sgG (KT P) D vwCl (fun q : Nat => base ≤ q) tys ad ks H → va_S (fun q : Nat => base ≤ q) s.heap H locs → lv_has ls 5 [(0, .ref a0), (1, .int z8_1), (3, .int f13)] → W p l e (headSpec (Cond.code yX7_lookOn cX7_lookOn 5 none :: sg_tbl) ({ frames := 2, cells := 0, slots := 0, locals := 46 })).room s m #[.ref a0] below meth c H locs 0 0 (MQ below (va_Qv (fun (_ : Unit) => True) (fun _ => sgB (KT P) D vwCl base tys ad ks) (fun q : Nat => base ≤ q)) #[.ref a0] s 0 0 (fun q : Nat => base ≤ q)) (F0 m 134 ls []) := by
          intro H locs ls hG hS hl
          refine lv_aload_n X.1 X.2.1 dX7_lookOn_134 rfl (lv_at hl 0 rfl) ?_
          refine gf_X7_3 X hK hG h0 wl_2_87 dX7_lookOn_135 (fun q21 hq21 kq21 => ?_)
          refine lv_iload_n X.1 X.2.1 dX7_lookOn_138 rfl (lv_at hl 1 rfl) ?_
          refine lv_aload_n X.1 X.2.1 dX7_lookOn_139 rfl (lv_at hl 0 rfl) ?_
          refine gg_X7_3 X hK hG h0 wl_2_87 kq21 dX7_lookOn_140 ?_
          refine lv_iload_n X.1 X.2.1 dX7_lookOn_143 rfl (lv_at hl 1 rfl) ?_
          refine lv_iconst (v := 1) X.1 X.2.1 dX7_lookOn_144 (by decide +kernel) ?_
          refine lv_iadd X.1 X.2.1 dX7_lookOn_145 ?_
          refine lv_topi (fun f22 ef22 => ?_)
          refine al_35 X hK hG hq21 (iv_vpin (iv_add (a' := 1) (b' := 16) ef22 (iv_ler (c' := 0) (iv_ge_of c9) (iv_c 0 (a := 0) (b := 0) (by decide +kernel)) hz8_1 (by decide +kernel)) (iv_c 1 (a := 1) (b := 1) (by decide +kernel)) (by decide +kernel)) (by decide +kernel)) dX7_lookOn_146 (fun f23 hf23 => ?_)
          refine lv_iload_n X.1 X.2.1 dX7_lookOn_147 rfl (lv_at hl 2 rfl) ?_
          have B25_156 : ∀ (locs : List Loc) (ls : Array Slot) (w25_0 : Int32), va_S (fun q : Nat => base ≤ q) s.heap H locs → lv_has ls 5 [(0, .ref a0), (1, .int z8_1)] → iv 0 1 w25_0 → W p l e (headSpec (Cond.code yX7_lookOn cX7_lookOn 5 none :: sg_tbl) ({ frames := 2, cells := 0, slots := 0, locals := 46 })).room s m #[.ref a0] below meth c H locs 0 0 (MQ below (va_Qv (fun (_ : Unit) => True) (fun _ => sgB (KT P) D vwCl base tys ad ks) (fun q : Nat => base ≤ q)) #[.ref a0] s 0 0 (fun q : Nat => base ≤ q)) (F0 m 156 ls [.int w25_0, .int f23, .int z8_1, .ref q21]) := by
            intro locs ls w25_0 hS hl hw25_0
            refine lv_iadd X.1 X.2.1 dX7_lookOn_156 ?_
            refine lv_topi (fun f26 ef26 => ?_)
            refine as_35 X hK hG hS hq21 (iv_vpin (iv_ler (c' := 0) (iv_ge_of c9) (iv_c 0 (a := 0) (b := 0) (by decide +kernel)) hz8_1 (by decide +kernel)) (by decide +kernel)) ⟨_, rfl, (iv_top _)⟩ dX7_lookOn_157 (fun H locs hG hS ru27 => ?_)
            obtain ⟨y28, ey28⟩ : ∃ y : Int32, y = z8_1 + Int32.ofInt (-1) := ⟨_, rfl⟩
            refine lv_iinc (v := y28) (lv' := [(1, .int y28), (0, .ref a0)]) X.1 X.2.1 dX7_lookOn_158 hl (k := 1) rfl ey28.symm (by decide) rfl (fun ls hl => ?_)
            refine lv_goto (tgt := 36) X.1 X.2.1 dX7_lookOn_161 (by decide) ?_
            exact ih8 H _ _ y28 hG hS (lv_sub hl [1, 0] rfl) (iv_of (iv_add (a' := (-1)) (b' := 14) ey28 (iv_ler (c' := 0) (iv_ge_of c9) (iv_c 0 (a := 0) (b := 0) (by decide +kernel)) hz8_1 (by decide +kernel)) (iv_c _ (a := (-1)) (b := (-1)) (by decide +kernel)) (by decide +kernel)) (a' := (-1)) (b' := 15) (by decide +kernel)) (iv_stepD ey28 (iv_ler (c' := 0) (iv_ge_of c9) (iv_c 0 (a := 0) (b := 0) (by decide +kernel)) hz8_1 (by decide +kernel)) (by decide +kernel) hN8)
          refine lv_if_ne (tgt := 155) X.1 X.2.1 dX7_lookOn_148 (by decide) (fun c24 => ?_) (fun c24 => ?_)
          · refine lv_iconst (v := 0) X.1 X.2.1 dX7_lookOn_155 (by decide +kernel) ?_
            exact B25_156 _ _ 0 hS (lv_sub hl [0, 1] rfl) (iv_of (iv_c 0 (a := 0) (b := 0) (by decide +kernel)) (a' := 0) (b' := 1) (by decide +kernel))
          · refine lv_iconst (v := 1) X.1 X.2.1 dX7_lookOn_151 (by decide +kernel) ?_
            refine lv_goto (tgt := 156) X.1 X.2.1 dX7_lookOn_152 (by decide) ?_
            exact B25_156 _ _ 1 hS (lv_sub hl [0, 1] rfl) (iv_of (iv_c 1 (a := 1) (b := 1) (by decide +kernel)) (a' := 0) (b' := 1) (by decide +kernel))
        refine lv_icmp_ne (tgt := 116) X.1 X.2.1 dX7_lookOn_79 (by decide) (fun c19 => ?_) (fun c19 => ?_)
        · refine lv_iload_n X.1 X.2.1 dX7_lookOn_116 rfl (lv_at hl 1 rfl) ?_
          refine lv_iconst (v := 2) X.1 X.2.1 dX7_lookOn_117 (by decide +kernel) ?_
          refine lv_icmp_ne (tgt := 134) X.1 X.2.1 dX7_lookOn_118 (by decide) (fun c29 => ?_) (fun c29 => ?_)
          · exact B20_134 H _ _ hG hS (lv_sub hl [3, 4, 1] rfl)
          · refine lv_aload_n X.1 X.2.1 dX7_lookOn_121 rfl (lv_at hl 3 rfl) ?_
            refine gg_X7_2 X hK hG h0 wl_2_86 (ru18 _ _ _ _ _ _ _ h0 rfl rfl (by decide) (fun z => z.elim) kq15) dX7_lookOn_122 ?_
            refine lv_iload_n X.1 X.2.1 dX7_lookOn_125 rfl (lv_at hl 4 rfl) ?_
            refine lv_dup2_11 X.1 X.2.1 dX7_lookOn_126 rfl rfl ?_
            refine al_34 X hK hG hq15 (iv_vpin (iv_ler (c' := 0) (iv_ge_of c9) (iv_c 0 (a := 0) (b := 0) (by decide +kernel)) hz8_1 (by decide +kernel)) (by decide +kernel)) dX7_lookOn_127 (fun f30 hf30 => ?_)
            refine lv_iconst (v := 1) X.1 X.2.1 dX7_lookOn_128 (by decide +kernel) ?_
            refine lv_iload X.1 X.2.1 dX7_lookOn_129 (lv_at hl 0 rfl) ?_
            refine lv_ishl X.1 X.2.1 dX7_lookOn_131 ?_
            refine lv_topi (fun f31 ef31 => ?_)
            refine lv_ior X.1 X.2.1 dX7_lookOn_132 ?_
            refine lv_topi (fun f32 ef32 => ?_)
            refine as_34 X hK hG hS hq15 (iv_vpin (iv_ler (c' := 0) (iv_ge_of c9) (iv_c 0 (a := 0) (b := 0) (by decide +kernel)) hz8_1 (by decide +kernel)) (by decide +kernel)) ⟨_, rfl, (iv_top _)⟩ dX7_lookOn_133 (fun H locs hG hS ru33 => ?_)
            exact B20_134 H _ _ hG hS (lv_sub hl [3, 4, 1] rfl)
        · refine lv_aload_n X.1 X.2.1 dX7_lookOn_82 rfl (lv_at hl 3 rfl) ?_
          refine gg_X7_2 X hK hG h0 wl_2_86 (ru18 _ _ _ _ _ _ _ h0 rfl rfl (by decide) (fun z => z.elim) kq15) dX7_lookOn_83 ?_
          refine lv_iload_n X.1 X.2.1 dX7_lookOn_86 rfl (lv_at hl 4 rfl) ?_
          refine lv_dup2_11 X.1 X.2.1 dX7_lookOn_87 rfl rfl ?_
          refine al_34 X hK hG hq15 (iv_vpin (iv_ler (c' := 0) (iv_ge_of c9) (iv_c 0 (a := 0) (b := 0) (by decide +kernel)) hz8_1 (by decide +kernel)) (by decide +kernel)) dX7_lookOn_88 (fun f34 hf34 => ?_)
          refine lv_aload_n X.1 X.2.1 dX7_lookOn_89 rfl (lv_at hl 3 rfl) ?_
          refine gf_X7_0 X hK hG h0 wl_2_84 dX7_lookOn_90 (fun q35 hq35 kq35 => ?_)
          refine gf_X8_0 X hK hG hq35 wl_2_36 dX7_lookOn_93 (fun q36 hq36 kq36 => ?_)
          refine lv_iload X.1 X.2.1 dX7_lookOn_96 (lv_at hl 0 rfl) ?_
          refine lv_iload_n X.1 X.2.1 dX7_lookOn_98 rfl (lv_at hl 2 rfl) ?_
          refine lv_iconst (v := 2) X.1 X.2.1 dX7_lookOn_99 (by decide +kernel) ?_
          refine ca_X3_unpacked X hK hG hC (fun _ h => h) hS hb f12 2 wl_5_41 hl.1 (rest := [.int f14, .ref q36, .int f34, .int z8_1, .ref q15]) rfl (Nat.le_of_ble_eq_true rfl) ⟨Nat.le_of_ble_eq_true rfl, Nat.le_of_ble_eq_true rfl⟩ ⟨Nat.le_of_ble_eq_true rfl, Nat.le_of_ble_eq_true rfl⟩ dX7_lookOn_100 (fun f37 locs hf37 hS => ?_)
          refine lv_iload_n X.1 X.2.1 dX7_lookOn_103 rfl (lv_at hl 2 rfl) ?_
          refine lv_iconst (v := 3) X.1 X.2.1 dX7_lookOn_104 (by decide +kernel) ?_
          refine ca_X3_unpacked X hK hG hC (fun _ h => h) hS hb f12 3 wl_5_41 hl.1 (rest := [.int f37, .int f14, .ref q36, .int f34, .int z8_1, .ref q15]) rfl (Nat.le_of_ble_eq_true rfl) ⟨Nat.le_of_ble_eq_true rfl, Nat.le_of_ble_eq_true rfl⟩ ⟨Nat.le_of_ble_eq_true rfl, Nat.le_of_ble_eq_true rfl⟩ dX7_lookOn_105 (fun f38 locs hf38 hS => ?_)
          refine ca_X4_cutBits X hK hG hC (fun _ h => h) hS hb q36 hq36 f14 f37 f38 wl_4_174 hl.1 (rest := [.int f34, .int z8_1, .ref q15]) rfl (Nat.le_of_ble_eq_true rfl) ⟨Nat.le_of_ble_eq_true rfl, Nat.le_of_ble_eq_true rfl⟩ ⟨Nat.le_of_ble_eq_true rfl, Nat.le_of_ble_eq_true rfl⟩ dX7_lookOn_108 (fun f39 locs hf39 hS => ?_)
          refine lv_ior X.1 X.2.1 dX7_lookOn_111 ?_
          refine lv_topi (fun f40 ef40 => ?_)
          refine as_34 X hK hG hS hq15 (iv_vpin (iv_ler (c' := 0) (iv_ge_of c9) (iv_c 0 (a := 0) (b := 0) (by decide +kernel)) hz8_1 (by decide +kernel)) (by decide +kernel)) ⟨_, rfl, (iv_top _)⟩ dX7_lookOn_112 (fun H locs hG hS ru41 => ?_)
          refine lv_goto (tgt := 134) X.1 X.2.1 dX7_lookOn_113 (by decide) ?_
          exact B20_134 H _ _ hG hS (lv_sub hl [3, 4, 1] rfl)
  exact B8_36 _ H _ _ f7 hG hS (lv_sub hl [1, 0] rfl) (iv_sub (a' := (-1)) (b' := 15) ef7 hf3 (iv_c 1 (a := 1) (b := 1) (by decide +kernel)) (by decide +kernel)) (Nat.le_refl _)

theorem ca_X7_lookOn   (X : CallFix p m c cc nL s args sg_tbl own) (hK : va_K D vwCl tys s) (hG : sgG (KT P) D vwCl (fun q : Nat => base ≤ q) tys ad ks H) (hC : sgC base s) (hS : va_S (fun q : Nat => base ≤ q) s.heap H locs) (hb : base ≤ s.heap.size) (a0 : Nat) (h0 : isK ad ks 7 a0) (hl : Cond.methodLink own index yX7_lookOn ∈ sg_tbl) (hsize : ls.size = nL) (hst : st0 = [].reverse ++ .ref a0 :: rest) (hW : (rest.map fun v => v.category).sum ≤ 8) (hR : 3 ≤ R.frames ∧ 70 ≤ R.locals) (hf : cells ≤ R.cells ∧ slots ≤ R.slots) (hdg : decode cc pc = .ok (.invokevirtual index, 3)) (kk : ∀ (H1 : Heap) (locs1 : List Loc), sgG (KT P) D vwCl (fun q : Nat => base ≤ q) tys ad ks H1 → va_S (fun q : Nat => base ≤ q) s.heap H1 locs1 → W p l e R s m args below meth c H1 locs1 cells slots Q (F0 m (pc + 3) ls rest)) : W p l e R s m args below meth c H locs cells slots Q (F0 m pc ls st0) :=
  sg_callVv X hK hG hC hS hb (m_X7_lookOn l a0 h0) h0 (k := 7) (ci := 7) rfl (C := RX7) (T := TX7) (N := 9) rfl wl_5_68 wl_1_9 wl_5_67 wl_0_30 (n := 0) (by decide +kernel) rfl rfl rfl hl hsize hst hW hR hf hdg kk

set_option maxHeartbeats 8000000 in
set_option maxRecDepth 100000 in
theorem m_X7_isHopeless (l : Launch) {D : va_G} {base : Nat} {tys : List (ClassId × FieldType)} {ad ks : List Nat} {P : sgPm} {Hx : Heap} (a0 : Nat) (h0 : isK ad ks 7 a0) (x1 : Int32) (x2 : Int32) (h2 : iv 0 16 x2) : sgPi l (KT P) D vwCl base tys ad ks Hx yX7_isHopeless cX7_isHopeless 3 (some .boolean) ({ frames := 1, cells := 0, slots := 0, locals := 20 }) [.ref a0, .int x1, .int x2] (fun r : Int32 => iv 0 1 r) := by
  refine sg_ofP (Pq := fun Hx => va_Qi (fun r (_ : Unit) => (fun r : Int32 => iv 0 1 r) r) (fun _ t => t.heap = Hx) (fun _ : Nat => False)) (by decide +kernel) (Nat.le_of_ble_eq_true rfl) (fun p e s m below meth c X hr hlk hb hK hC hG ls hl => ?_)
  have hS : va_S (fun _ : Nat => False) s.heap s.heap [] := va_S.rf
  have hl : lv_has ls 3 [(0, .ref a0), (1, .int x1), (2, .int x2)] := hl
  refine lv_iload_n X.1 X.2.1 dX7_isHopeless_0 rfl (lv_at hl 1 rfl) ?_
  refine lv_aload_n X.1 X.2.1 dX7_isHopeless_1 rfl (lv_at hl 0 rfl) ?_
  refine gf_X7_5 X hK hG h0 wl_2_89 dX7_isHopeless_2 (fun f1 hf1 kf1 => ?_)
  refine lv_iconst (v := (-1)) X.1 X.2.1 dX7_isHopeless_5 (by decide +kernel) ?_
  refine lv_ixor X.1 X.2.1 dX7_isHopeless_6 ?_
  refine lv_topi (fun f2 ef2 => ?_)
  refine lv_iand X.1 X.2.1 dX7_isHopeless_7 ?_
  refine lv_topi (fun f3 ef3 => ?_)
  refine lv_aload_n X.1 X.2.1 dX7_isHopeless_8 rfl (lv_at hl 0 rfl) ?_
  refine gf_X7_2 X hK hG h0 wl_2_86 dX7_isHopeless_9 (fun q4 hq4 kq4 => ?_)
  refine lv_iload_n X.1 X.2.1 dX7_isHopeless_12 rfl (lv_at hl 2 rfl) ?_
  refine al_34 X hK hG hq4 (iv_vpin h2 (by decide +kernel)) dX7_isHopeless_13 (fun f5 hf5 => ?_)
  refine lv_iconst (v := (-1)) X.1 X.2.1 dX7_isHopeless_14 (by decide +kernel) ?_
  refine lv_ixor X.1 X.2.1 dX7_isHopeless_15 ?_
  refine lv_topi (fun f6 ef6 => ?_)
  refine lv_iand X.1 X.2.1 dX7_isHopeless_16 ?_
  refine lv_topi (fun f7 ef7 => ?_)
  have B9_40 : ∀ (locs : List Loc) (ls : Array Slot), va_S (fun _ : Nat => False) s.heap s.heap locs → lv_has ls 3 [] → W p l e (headSpec (Cond.code yX7_isHopeless cX7_isHopeless 3 (some .boolean) :: sg_tbl) ({ frames := 1, cells := 0, slots := 0, locals := 20 })).room s m #[.ref a0, .int x1, .int x2] below meth c s.heap locs 0 0 (MQ below (va_Qi (fun r (_ : Unit) => (fun r : Int32 => iv 0 1 r) r) (fun _ t => t.heap = s.heap) (fun _ : Nat => False)) #[.ref a0, .int x1, .int x2] s 0 0 (fun _ : Nat => False)) (F0 m 40 ls []) := by
    intro locs ls hS hl
    refine lv_iconst (v := 1) X.1 X.2.1 dX7_isHopeless_40 (by decide +kernel) ?_
    refine lv_goto (tgt := 45) X.1 X.2.1 dX7_isHopeless_41 (by decide) ?_
    exact sg_zretP X hr (sg_zn (iv_of (iv_c 1 (a := 1) (b := 1) (by decide +kernel)) (a' := 0) (b' := 1) (by decide +kernel))) hlk hS (iv_of (iv_c 1 (a := 1) (b := 1) (by decide +kernel)) (a' := 0) (b' := 1) (by decide +kernel)) dX7_isHopeless_45
  refine lv_if_ne (tgt := 40) X.1 X.2.1 dX7_isHopeless_17 (by decide) (fun c8 => ?_) (fun c8 => ?_)
  · exact B9_40 _ _ hS (lv_sub hl [] rfl)
  · refine lv_aload_n X.1 X.2.1 dX7_isHopeless_20 rfl (lv_at hl 0 rfl) ?_
    refine gg_X7_5 X hK hG h0 wl_2_89 kf1 dX7_isHopeless_21 ?_
    refine lv_iload_n X.1 X.2.1 dX7_isHopeless_24 rfl (lv_at hl 1 rfl) ?_
    refine lv_iconst (v := (-1)) X.1 X.2.1 dX7_isHopeless_25 (by decide +kernel) ?_
    refine lv_ixor X.1 X.2.1 dX7_isHopeless_26 ?_
    refine lv_topi (fun f10 ef10 => ?_)
    refine lv_iand X.1 X.2.1 dX7_isHopeless_27 ?_
    refine lv_topi (fun f11 ef11 => ?_)
    refine ca_J6_bitCount_0f7a4 X hK hG hC (fun _ h => h.elim) hS hb f11 wl_5_77 hl.1 (rest := []) rfl (Nat.le_of_ble_eq_true rfl) ⟨Nat.le_of_ble_eq_true rfl, Nat.le_of_ble_eq_true rfl⟩ ⟨Nat.le_of_ble_eq_true rfl, Nat.le_of_ble_eq_true rfl⟩ dX7_isHopeless_28 (fun f12 locs hf12 hS => ?_)
    refine lv_aload_n X.1 X.2.1 dX7_isHopeless_31 rfl (lv_at hl 0 rfl) ?_
    refine gf_X7_3 X hK hG h0 wl_2_87 dX7_isHopeless_32 (fun q13 hq13 kq13 => ?_)
    refine lv_iload_n X.1 X.2.1 dX7_isHopeless_35 rfl (lv_at hl 2 rfl) ?_
    refine al_35 X hK hG hq13 (iv_vpin h2 (by decide +kernel)) dX7_isHopeless_36 (fun f14 hf14 => ?_)
    refine lv_icmp_le (tgt := 44) X.1 X.2.1 dX7_isHopeless_37 (by decide) (fun c15 => ?_) (fun c15 => ?_)
    · refine lv_iconst (v := 0) X.1 X.2.1 dX7_isHopeless_44 (by decide +kernel) ?_
      exact sg_zretP X hr (sg_zn (iv_of (iv_c 0 (a := 0) (b := 0) (by decide +kernel)) (a' := 0) (b' := 1) (by decide +kernel))) hlk hS (iv_of (iv_c 0 (a := 0) (b := 0) (by decide +kernel)) (a' := 0) (b' := 1) (by decide +kernel)) dX7_isHopeless_45
    · exact B9_40 _ _ hS (lv_sub hl [] rfl)

theorem ca_X7_isHopeless   (X : CallFix p m c cc nL s args sg_tbl own) (hK : va_K D vwCl tys s) (hG : sgG (KT P) D vwCl (fun q : Nat => base ≤ q) tys ad ks H) (hC : sgC base s) (hA : ∀ q : Nat, A q → base ≤ q) (hS : va_S A s.heap H locs) (hb : base ≤ s.heap.size) (a0 : Nat) (h0 : isK ad ks 7 a0) (x1 : Int32) (x2 : Int32) (h2 : iv 0 16 x2) (hl : Cond.methodLink own index yX7_isHopeless ∈ sg_tbl) (hsize : ls.size = nL) (hst : st0 = [.int x1, .int x2].reverse ++ .ref a0 :: rest) (hW : (rest.map fun v => v.category).sum ≤ 8) (hR : 2 ≤ R.frames ∧ 42 ≤ R.locals) (hf : cells ≤ R.cells ∧ slots ≤ R.slots) (hdg : decode cc pc = .ok (.invokevirtual index, 3)) (kk : ∀ (r : Int32) (locs1 : List Loc), (fun r : Int32 => iv 0 1 r) r → va_S A s.heap H locs1 → W p l e R s m args below meth c H locs1 cells slots Q (F0 m (pc + 3) ls (.int r :: rest))) : W p l e R s m args below meth c H locs cells slots Q (F0 m pc ls st0) :=
  sg_callPVi X hK hG hC hA hS hb (m_X7_isHopeless l a0 h0 x1 x2 h2) h0 (k := 7) (ci := 7) rfl (C := RX7) (T := TX7) (N := 9) rfl wl_5_76 wl_1_9 wl_5_75 wl_0_32 (n := 2) (by decide +kernel) rfl rfl rfl hl hsize hst hW hR hf hdg kk

set_option maxHeartbeats 8000000 in
set_option maxRecDepth 100000 in
theorem m_X0_advise (l : Launch) {D : va_G} {base : Nat} {tys : List (ClassId × FieldType)} {ad ks : List Nat} {P : sgPm} (a0 : Nat) (h0 : isK ad ks 0 a0) (a1 : Nat) (h1 : isK ad ks 9 a1) : sgMi l (KT P) D vwCl base tys ad ks yX0_advise cX0_advise 7 (some .boolean) ({ frames := 5, cells := 0, slots := 0, locals := 130 }) [.ref a0, .ref a1] (fun r : Int32 => iv 0 1 r) := by
  refine sg_ofW (by decide +kernel) (Nat.le_of_ble_eq_true rfl) (fun p e s m below meth c X hr hlk hb hK hC hG ls hl => ?_)
  have hS : va_S (fun q : Nat => base ≤ q) s.heap s.heap [] := va_S.rf
  have hl : lv_has ls 7 [(0, .ref a0), (1, .ref a1)] := hl
  refine lv_aload_n X.1 X.2.1 dX0_advise_0 rfl (lv_at hl 0 rfl) ?_
  refine gf_X0_0 X hK hG h0 wl_2_120 dX0_advise_1 (fun q1 hq1 kq1 => ?_)
  refine lv_aload_n X.1 X.2.1 dX0_advise_4 rfl (lv_at hl 1 rfl) ?_
  refine gf_X9_0 X hK hG h1 wl_1_116 dX0_advise_5 (fun f2 hf2 kf2 => ?_)
  refine ca_X8_listCuts X hK hG hC hS hb q1 hq1 f2 wl_4_219 hl.1 (rest := []) rfl (Nat.le_of_ble_eq_true rfl) ⟨Nat.le_of_ble_eq_true rfl, Nat.le_of_ble_eq_true rfl⟩ ⟨Nat.le_of_ble_eq_true rfl, Nat.le_of_ble_eq_true rfl⟩ dX0_advise_8 (fun H locs hG hS => ?_)
  refine lv_iconst (v := 0) X.1 X.2.1 dX0_advise_11 (by decide +kernel) ?_
  refine lv_istore_n (lv' := [(2, .int 0), (0, .ref a0), (1, .ref a1)]) X.1 X.2.1 dX0_advise_12 rfl hl (by decide) rfl (fun ls hl => ?_)
  refine lv_iconst (v := 0) X.1 X.2.1 dX0_advise_13 (by decide +kernel) ?_
  refine lv_istore_n (lv' := [(3, .int 0), (2, .int 0), (0, .ref a0), (1, .ref a1)]) X.1 X.2.1 dX0_advise_14 rfl hl (by decide) rfl (fun ls hl => ?_)
  have B4_15 : ∀ (N : Nat) (H : Heap) (locs : List Loc) (ls : Array Slot) (z4_2 : Int32) (z4_3 : Int32), sgG (KT P) D vwCl (fun q : Nat => base ≤ q) tys ad ks H → va_S (fun q : Nat => base ≤ q) s.heap H locs → lv_has ls 7 [(0, .ref a0), (1, .ref a1), (2, .int z4_2), (3, .int z4_3)] → iv 0 270 z4_3 → (271 - z4_3.toInt).toNat ≤ N → W p l e (headSpec (Cond.code yX0_advise cX0_advise 7 (some .boolean) :: sg_tbl) ({ frames := 5, cells := 0, slots := 0, locals := 130 })).room s m #[.ref a0, .ref a1] below meth c H locs 0 0 (MQ below (va_Qi (fun r (_ : Unit) => (fun r : Int32 => iv 0 1 r) r) (fun _ => sgB (KT P) D vwCl base tys ad ks) (fun q : Nat => base ≤ q)) #[.ref a0, .ref a1] s 0 0 (fun q : Nat => base ≤ q)) (F0 m 15 ls []) := by
    intro N; induction N with
    | zero =>
      intro H locs ls z4_2 z4_3 hG hS hl hz4_3 hN
      exact absurd hN (by have := iv_up hz4_3; omega)
    | succ N ih4 =>
      intro H locs ls z4_2 z4_3 hG hS hl hz4_3 hN4
      refine lv_iload_n X.1 X.2.1 dX0_advise_15 rfl (lv_at hl 3 rfl) ?_
      refine lv_aload_n X.1 X.2.1 dX0_advise_16 rfl (lv_at hl 0 rfl) ?_
      refine gf_X0_0 X hK hG h0 wl_2_120 dX0_advise_17 (fun q5 hq5 kq5 => ?_)
      refine gf_X8_8 X hK hG hq5 wl_2_51 dX0_advise_20 (fun f6 hf6 kf6 => ?_)
      refine lv_icmp_ge (tgt := 138) X.1 X.2.1 dX0_advise_23 (by decide) (fun c7 => ?_) (fun c7 => ?_)
      · refine lv_iload_n X.1 X.2.1 dX0_advise_138 rfl (lv_at hl 2 rfl) ?_
        refine lv_if_le (tgt := 146) X.1 X.2.1 dX0_advise_139 (by decide) (fun c8 => ?_) (fun c8 => ?_)
        · refine lv_iconst (v := 0) X.1 X.2.1 dX0_advise_146 (by decide +kernel) ?_
          exact sg_zret X hr (sg_zn (iv_of (iv_c 0 (a := 0) (b := 0) (by decide +kernel)) (a' := 0) (b' := 1) (by decide +kernel))) hlk hb hK hC hG hS (iv_of (iv_c 0 (a := 0) (b := 0) (by decide +kernel)) (a' := 0) (b' := 1) (by decide +kernel)) dX0_advise_147
        · refine lv_iconst (v := 1) X.1 X.2.1 dX0_advise_142 (by decide +kernel) ?_
          refine lv_goto (tgt := 147) X.1 X.2.1 dX0_advise_143 (by decide) ?_
          exact sg_zret X hr (sg_zn (iv_of (iv_c 1 (a := 1) (b := 1) (by decide +kernel)) (a' := 0) (b' := 1) (by decide +kernel))) hlk hb hK hC hG hS (iv_of (iv_c 1 (a := 1) (b := 1) (by decide +kernel)) (a' := 0) (b' := 1) (by decide +kernel)) dX0_advise_147
      · refine lv_aload_n X.1 X.2.1 dX0_advise_26 rfl (lv_at hl 1 rfl) ?_
        refine gf_X9_0 X hK hG h1 wl_1_116 dX0_advise_27 (fun f9 hf9 kf9 => ?_)
        refine lv_aload_n X.1 X.2.1 dX0_advise_30 rfl (lv_at hl 0 rfl) ?_
        refine gg_X0_0 X hK hG h0 wl_2_120 kq5 dX0_advise_31 ?_
        refine gf_X8_7 X hK hG hq5 wl_2_49 dX0_advise_34 (fun q10 hq10 kq10 => ?_)
        refine lv_iload_n X.1 X.2.1 dX0_advise_37 rfl (lv_at hl 3 rfl) ?_
        refine al_41 X hK hG hq10 (iv_vpin (iv_lt (b' := 269) (iv_gt_of c7) hz4_3 hf6 (by decide +kernel)) (by decide +kernel)) dX0_advise_38 (fun f11 hf11 => ?_)
        refine lv_iconst (v := (-1)) X.1 X.2.1 dX0_advise_39 (by decide +kernel) ?_
        refine lv_ixor X.1 X.2.1 dX0_advise_40 ?_
        refine lv_topi (fun f12 ef12 => ?_)
        refine lv_iand X.1 X.2.1 dX0_advise_41 ?_
        refine lv_topi (fun f13 ef13 => ?_)
        refine lv_istore (lv' := [(4, .int f13), (0, .ref a0), (1, .ref a1), (2, .int z4_2), (3, .int z4_3)]) X.1 X.2.1 dX0_advise_42 hl (by decide) rfl (fun ls hl => ?_)
        refine lv_aload_n X.1 X.2.1 dX0_advise_44 rfl (lv_at hl 1 rfl) ?_
        refine gg_X0_0 X hK hG h0 wl_2_120 kq5 dX0_advise_45 ?_
        refine lv_iload X.1 X.2.1 dX0_advise_48 (lv_at hl 0 rfl) ?_
        refine lv_aload_n X.1 X.2.1 dX0_advise_50 rfl (lv_at hl 2 rfl) ?_
        refine gf_X9_1 X hK hG h1 wl_1_120 dX0_advise_51 (fun f14 hf14 kf14 => ?_)
        refine lv_aload_n X.1 X.2.1 dX0_advise_54 rfl (lv_at hl 2 rfl) ?_
        refine gf_X9_3 X hK hG h1 wl_1_128 dX0_advise_55 (fun f15 hf15 kf15 => ?_)
        refine lv_iconst (v := 1) X.1 X.2.1 dX0_advise_58 (by decide +kernel) ?_
        refine lv_iadd X.1 X.2.1 dX0_advise_59 ?_
        refine lv_topi (fun f16 ef16 => ?_)
        refine ca_X8_threatBits X hK hG hC hS hb q5 hq5 f13 f14 f16 wl_4_228 hl.1 (rest := []) rfl (Nat.le_of_ble_eq_true rfl) ⟨Nat.le_of_ble_eq_true rfl, Nat.le_of_ble_eq_true rfl⟩ ⟨Nat.le_of_ble_eq_true rfl, Nat.le_of_ble_eq_true rfl⟩ dX0_advise_60 (fun f17 H locs hf17 hG hS => ?_)
        refine ca_J6_bitCount_0f7a4 X hK hG hC (fun _ h => h) hS hb f17 wl_4_232 hl.1 (rest := []) rfl (Nat.le_of_ble_eq_true rfl) ⟨Nat.le_of_ble_eq_true rfl, Nat.le_of_ble_eq_true rfl⟩ ⟨Nat.le_of_ble_eq_true rfl, Nat.le_of_ble_eq_true rfl⟩ dX0_advise_63 (fun f18 locs hf18 hS => ?_)
        refine lv_istore (lv' := [(5, .int f18), (4, .int f13), (0, .ref a0), (1, .ref a1), (2, .int z4_2), (3, .int z4_3)]) X.1 X.2.1 dX0_advise_66 hl (by decide) rfl (fun ls hl => ?_)
        refine lv_aload_n X.1 X.2.1 dX0_advise_68 rfl (lv_at hl 2 rfl) ?_
        refine gf_X0_0 X hK hG h0 wl_2_120 dX0_advise_69 (fun q19 hq19 kq19 => ?_)
        refine gf_X8_6 X hK hG hq19 wl_2_45 dX0_advise_72 (fun q20 hq20 kq20 => ?_)
        refine lv_iload_n X.1 X.2.1 dX0_advise_75 rfl (lv_at hl 5 rfl) ?_
        refine al_40 X hK hG hq20 (iv_vpin (iv_lt (b' := 269) (iv_gt_of c7) hz4_3 hf6 (by decide +kernel)) (by decide +kernel)) dX0_advise_76 (fun f21 hf21 => ?_)
        refine lv_bipush (v := 10) X.1 X.2.1 dX0_advise_77 (by decide +kernel) ?_
        refine lv_irem X.1 X.2.1 dX0_advise_79 (iv_ne0 (iv_c 10 (a := 10) (b := 10) (by decide +kernel)) (by decide +kernel)) ?_
        refine lv_topi (fun f22 ef22 => ?_)
        refine lv_istore (lv' := [(6, .int f22), (5, .int f18), (4, .int f13), (0, .ref a0), (1, .ref a1), (2, .int z4_2), (3, .int z4_3)]) X.1 X.2.1 dX0_advise_80 hl (by decide) rfl (fun ls hl => ?_)
        refine lv_iload_n X.1 X.2.1 dX0_advise_82 rfl (lv_at hl 5 rfl) ?_
        have B24_132 : ∀ (H : Heap) (locs : List Loc) (ls : Array Slot) (z24_2 : Int32), sgG (KT P) D vwCl (fun q : Nat => base ≤ q) tys ad ks H → va_S (fun q : Nat => base ≤ q) s.heap H locs → lv_has ls 7 [(0, .ref a0), (1, .ref a1), (2, .int z24_2), (3, .int z4_3)] → W p l e (headSpec (Cond.code yX0_advise cX0_advise 7 (some .boolean) :: sg_tbl) ({ frames := 5, cells := 0, slots := 0, locals := 130 })).room s m #[.ref a0, .ref a1] below meth c H locs 0 0 (MQ below (va_Qi (fun r (_ : Unit) => (fun r : Int32 => iv 0 1 r) r) (fun _ => sgB (KT P) D vwCl base tys ad ks) (fun q : Nat => base ≤ q)) #[.ref a0, .ref a1] s 0 0 (fun q : Nat => base ≤ q)) (F0 m 132 ls []) := by
          intro H locs ls z24_2 hG hS hl
          obtain ⟨y25, ey25⟩ : ∃ y : Int32, y = z4_3 + Int32.ofInt 1 := ⟨_, rfl⟩
          refine lv_iinc (v := y25) (lv' := [(3, .int y25), (0, .ref a0), (1, .ref a1), (2, .int z24_2)]) X.1 X.2.1 dX0_advise_132 hl (k := 3) rfl ey25.symm (by decide) rfl (fun ls hl => ?_)
          refine lv_goto (tgt := 15) X.1 X.2.1 dX0_advise_135 (by decide) ?_
          exact ih4 H _ _ z24_2 y25 hG hS (lv_sub hl [1, 2, 3, 0] rfl) (iv_of (iv_add (a' := 1) (b' := 270) ey25 (iv_lt (b' := 269) (iv_gt_of c7) hz4_3 hf6 (by decide +kernel)) (iv_c _ (a := 1) (b := 1) (by decide +kernel)) (by decide +kernel)) (a' := 0) (b' := 270) (by decide +kernel)) (iv_stepU ey25 (iv_lt (b' := 269) (iv_gt_of c7) hz4_3 hf6 (by decide +kernel)) (by decide +kernel) hN4)
        have B26_110 : ∀ (locs : List Loc) (ls : Array Slot), va_S (fun q : Nat => base ≤ q) s.heap H locs → lv_has ls 7 [(0, .ref a0), (1, .ref a1), (3, .int z4_3), (5, .int f18), (6, .int f22)] → W p l e (headSpec (Cond.code yX0_advise cX0_advise 7 (some .boolean) :: sg_tbl) ({ frames := 5, cells := 0, slots := 0, locals := 130 })).room s m #[.ref a0, .ref a1] below meth c H locs 0 0 (MQ below (va_Qi (fun r (_ : Unit) => (fun r : Int32 => iv 0 1 r) r) (fun _ => sgB (KT P) D vwCl base tys ad ks) (fun q : Nat => base ≤ q)) #[.ref a0, .ref a1] s 0 0 (fun q : Nat => base ≤ q)) (F0 m 110 ls []) := by
          intro locs ls hS hl
          refine lv_aload_n X.1 X.2.1 dX0_advise_110 rfl (lv_at hl 0 rfl) ?_
          refine lv_aload_n X.1 X.2.1 dX0_advise_111 rfl (lv_at hl 0 rfl) ?_
          refine gg_X0_0 X hK hG h0 wl_2_120 kq19 dX0_advise_112 ?_
          refine gg_X8_6 X hK hG hq19 wl_2_45 kq20 dX0_advise_115 ?_
          refine lv_iload_n X.1 X.2.1 dX0_advise_118 rfl (lv_at hl 2 rfl) ?_
          refine al_40 X hK hG hq20 (iv_vpin (iv_lt (b' := 269) (iv_gt_of c7) hz4_3 hf6 (by decide +kernel)) (by decide +kernel)) dX0_advise_119 (fun f27 hf27 => ?_)
          refine pf_X0_3 X hK hG hS h0 wl_2_123 ⟨_, rfl, (iv_top _)⟩ dX0_advise_120 (fun H locs hG hS ku28 ru28 => ?_)
          refine lv_aload_n X.1 X.2.1 dX0_advise_123 rfl (lv_at hl 0 rfl) ?_
          refine lv_iload X.1 X.2.1 dX0_advise_124 (lv_at hl 3 rfl) ?_
          refine pf_X0_4 X hK hG hS h0 wl_2_125 ⟨_, rfl, (iv_top _)⟩ dX0_advise_126 (fun H locs hG hS ku29 ru29 => ?_)
          refine lv_iload X.1 X.2.1 dX0_advise_129 (lv_at hl 4 rfl) ?_
          refine lv_istore_n (lv' := [(2, .int f22), (0, .ref a0), (1, .ref a1), (3, .int z4_3), (5, .int f18), (6, .int f22)]) X.1 X.2.1 dX0_advise_131 rfl hl (by decide) rfl (fun ls hl => ?_)
          exact B24_132 H _ _ f22 hG hS (lv_sub hl [1, 2, 0, 3] rfl)
        refine lv_if_eq (tgt := 110) X.1 X.2.1 dX0_advise_83 (by decide) (fun c23 => ?_) (fun c23 => ?_)
        · exact B26_110 _ _ hS (lv_sub hl [3, 4, 6, 1, 0] rfl)
        · refine lv_iload X.1 X.2.1 dX0_advise_86 (lv_at hl 1 rfl) ?_
          refine lv_aload_n X.1 X.2.1 dX0_advise_88 rfl (lv_at hl 3 rfl) ?_
          refine gf_X0_4 X hK hG h0 wl_2_125 dX0_advise_89 (fun f30 hf30 kf30 => ?_)
          refine lv_icmp_lt (tgt := 110) X.1 X.2.1 dX0_advise_92 (by decide) (fun c31 => ?_) (fun c31 => ?_)
          · exact B26_110 _ _ hS (lv_sub hl [3, 4, 6, 1, 0] rfl)
          · refine lv_iload X.1 X.2.1 dX0_advise_95 (lv_at hl 1 rfl) ?_
            refine lv_aload_n X.1 X.2.1 dX0_advise_97 rfl (lv_at hl 3 rfl) ?_
            refine gg_X0_4 X hK hG h0 wl_2_125 kf30 dX0_advise_98 ?_
            refine lv_icmp_ne (tgt := 132) X.1 X.2.1 dX0_advise_101 (by decide) (fun c32 => ?_) (fun c32 => ?_)
            · exact B24_132 H _ _ z4_2 hG hS (lv_sub hl [3, 4, 5, 6] rfl)
            · refine lv_iload X.1 X.2.1 dX0_advise_104 (lv_at hl 0 rfl) ?_
              refine lv_iload_n X.1 X.2.1 dX0_advise_106 rfl (lv_at hl 5 rfl) ?_
              refine lv_icmp_le (tgt := 132) X.1 X.2.1 dX0_advise_107 (by decide) (fun c33 => ?_) (fun c33 => ?_)
              · exact B24_132 H _ _ z4_2 hG hS (lv_sub hl [3, 4, 5, 6] rfl)
              · exact B26_110 _ _ hS (lv_sub hl [3, 4, 6, 1, 0] rfl)
  exact B4_15 _ H _ _ 0 0 hG hS (lv_sub hl [2, 3, 1, 0] rfl) (iv_of (iv_c 0 (a := 0) (b := 0) (by decide +kernel)) (a' := 0) (b' := 270) (by decide +kernel)) (Nat.le_refl _)

theorem ca_X0_advise   (X : CallFix p m c cc nL s args sg_tbl own) (hK : va_K D vwCl tys s) (hG : sgG (KT P) D vwCl (fun q : Nat => base ≤ q) tys ad ks H) (hC : sgC base s) (hS : va_S (fun q : Nat => base ≤ q) s.heap H locs) (hb : base ≤ s.heap.size) (a0 : Nat) (h0 : isK ad ks 0 a0) (a1 : Nat) (h1 : isK ad ks 9 a1) (hl : Cond.methodLink own index yX0_advise ∈ sg_tbl) (hsize : ls.size = nL) (hst : st0 = [.ref a1].reverse ++ .ref a0 :: rest) (hW : (rest.map fun v => v.category).sum ≤ 8) (hR : 6 ≤ R.frames ∧ 156 ≤ R.locals) (hf : cells ≤ R.cells ∧ slots ≤ R.slots) (hdg : decode cc pc = .ok (.invokevirtual index, 3)) (kk : ∀ (r : Int32) (H1 : Heap) (locs1 : List Loc), (fun r : Int32 => iv 0 1 r) r → sgG (KT P) D vwCl (fun q : Nat => base ≤ q) tys ad ks H1 → va_S (fun q : Nat => base ≤ q) s.heap H1 locs1 → W p l e R s m args below meth c H1 locs1 cells slots Q (F0 m (pc + 3) ls (.int r :: rest))) : W p l e R s m args below meth c H locs cells slots Q (F0 m pc ls st0) :=
  sg_callVi X hK hG hC hS hb (m_X0_advise l a0 h0 a1 h1) h0 (k := 0) (ci := 0) rfl (C := RX0) (T := TX0) (N := 5) rfl wl_4_218 wl_1_10 wl_4_216 wl_4_217 (n := 1) (by decide +kernel) rfl rfl rfl hl hsize hst hW hR hf hdg kk

set_option maxHeartbeats 8000000 in
set_option maxRecDepth 100000 in
theorem m_X0_answer (l : Launch) {D : va_G} {base : Nat} {tys : List (ClassId × FieldType)} {ad ks : List Nat} {P : sgPm} (a0 : Nat) (h0 : isK ad ks 0 a0) (a1 : Nat) (h1 : isK ad ks 9 a1) (x2 : Int32) : sgMi l (KT P) D vwCl base tys ad ks yX0_answer cX0_answer 6 (some .int) ({ frames := 5, cells := 0, slots := 0, locals := 129 }) [.ref a0, .ref a1, .int x2] (fun r : Int32 => True) := by
  refine sg_ofW (by decide +kernel) (Nat.le_of_ble_eq_true rfl) (fun p e s m below meth c X hr hlk hb hK hC hG ls hl => ?_)
  have hS : va_S (fun q : Nat => base ≤ q) s.heap s.heap [] := va_S.rf
  have hl : lv_has ls 6 [(0, .ref a0), (1, .ref a1), (2, .int x2)] := hl
  refine lv_aload_n X.1 X.2.1 dX0_answer_0 rfl (lv_at hl 0 rfl) ?_
  refine gf_X0_0 X hK hG h0 wl_2_120 dX0_answer_1 (fun q1 hq1 kq1 => ?_)
  refine lv_aload_n X.1 X.2.1 dX0_answer_4 rfl (lv_at hl 1 rfl) ?_
  refine gf_X9_0 X hK hG h1 wl_1_116 dX0_answer_5 (fun f2 hf2 kf2 => ?_)
  refine ca_X8_listCuts X hK hG hC hS hb q1 hq1 f2 wl_4_219 hl.1 (rest := []) rfl (Nat.le_of_ble_eq_true rfl) ⟨Nat.le_of_ble_eq_true rfl, Nat.le_of_ble_eq_true rfl⟩ ⟨Nat.le_of_ble_eq_true rfl, Nat.le_of_ble_eq_true rfl⟩ dX0_answer_8 (fun H locs hG hS => ?_)
  refine lv_iconst (v := 0) X.1 X.2.1 dX0_answer_11 (by decide +kernel) ?_
  refine lv_istore_n (lv' := [(3, .int 0), (0, .ref a0), (1, .ref a1), (2, .int x2)]) X.1 X.2.1 dX0_answer_12 rfl hl (by decide) rfl (fun ls hl => ?_)
  refine lv_iconst (v := 0) X.1 X.2.1 dX0_answer_13 (by decide +kernel) ?_
  refine lv_istore (lv' := [(4, .int 0), (3, .int 0), (0, .ref a0), (1, .ref a1), (2, .int x2)]) X.1 X.2.1 dX0_answer_14 hl (by decide) rfl (fun ls hl => ?_)
  have B4_16 : ∀ (N : Nat) (H : Heap) (locs : List Loc) (ls : Array Slot) (z4_3 : Int32) (z4_4 : Int32), sgG (KT P) D vwCl (fun q : Nat => base ≤ q) tys ad ks H → va_S (fun q : Nat => base ≤ q) s.heap H locs → lv_has ls 6 [(0, .ref a0), (1, .ref a1), (2, .int x2), (3, .int z4_3), (4, .int z4_4)] → iv 0 270 z4_4 → (271 - z4_4.toInt).toNat ≤ N → W p l e (headSpec (Cond.code yX0_answer cX0_answer 6 (some .int) :: sg_tbl) ({ frames := 5, cells := 0, slots := 0, locals := 129 })).room s m #[.ref a0, .ref a1, .int x2] below meth c H locs 0 0 (MQ below (va_Qi (fun r (_ : Unit) => (fun r : Int32 => True) r) (fun _ => sgB (KT P) D vwCl base tys ad ks) (fun q : Nat => base ≤ q)) #[.ref a0, .ref a1, .int x2] s 0 0 (fun q : Nat => base ≤ q)) (F0 m 16 ls []) := by
    intro N; induction N with
    | zero =>
      intro H locs ls z4_3 z4_4 hG hS hl hz4_4 hN
      exact absurd hN (by have := iv_up hz4_4; omega)
    | succ N ih4 =>
      intro H locs ls z4_3 z4_4 hG hS hl hz4_4 hN4
      refine lv_iload X.1 X.2.1 dX0_answer_16 (lv_at hl 4 rfl) ?_
      refine lv_aload_n X.1 X.2.1 dX0_answer_18 rfl (lv_at hl 0 rfl) ?_
      refine gf_X0_0 X hK hG h0 wl_2_120 dX0_answer_19 (fun q5 hq5 kq5 => ?_)
      refine gf_X8_8 X hK hG hq5 wl_2_51 dX0_answer_22 (fun f6 hf6 kf6 => ?_)
      refine lv_icmp_ge (tgt := 94) X.1 X.2.1 dX0_answer_25 (by decide) (fun c7 => ?_) (fun c7 => ?_)
      · refine lv_iload_n X.1 X.2.1 dX0_answer_94 rfl (lv_at hl 2 rfl) ?_
        refine lv_iconst (v := (-1)) X.1 X.2.1 dX0_answer_95 (by decide +kernel) ?_
        refine lv_icmp_ne (tgt := 103) X.1 X.2.1 dX0_answer_96 (by decide) (fun c8 => ?_) (fun c8 => ?_)
        · refine lv_iconst (v := (-1)) X.1 X.2.1 dX0_answer_103 (by decide +kernel) ?_
          exact sg_iret X hr hlk hb hK hC hG hS trivial dX0_answer_104
        · refine lv_iload_n X.1 X.2.1 dX0_answer_99 rfl (lv_at hl 3 rfl) ?_
          refine lv_goto (tgt := 104) X.1 X.2.1 dX0_answer_100 (by decide) ?_
          exact sg_iret X hr hlk hb hK hC hG hS trivial dX0_answer_104
      · refine lv_aload_n X.1 X.2.1 dX0_answer_28 rfl (lv_at hl 1 rfl) ?_
        refine gf_X9_0 X hK hG h1 wl_1_116 dX0_answer_29 (fun f9 hf9 kf9 => ?_)
        refine lv_aload_n X.1 X.2.1 dX0_answer_32 rfl (lv_at hl 0 rfl) ?_
        refine gg_X0_0 X hK hG h0 wl_2_120 kq5 dX0_answer_33 ?_
        refine gf_X8_7 X hK hG hq5 wl_2_49 dX0_answer_36 (fun q10 hq10 kq10 => ?_)
        refine lv_iload X.1 X.2.1 dX0_answer_39 (lv_at hl 4 rfl) ?_
        refine al_41 X hK hG hq10 (iv_vpin (iv_lt (b' := 269) (iv_gt_of c7) hz4_4 hf6 (by decide +kernel)) (by decide +kernel)) dX0_answer_41 (fun f11 hf11 => ?_)
        refine lv_iconst (v := (-1)) X.1 X.2.1 dX0_answer_42 (by decide +kernel) ?_
        refine lv_ixor X.1 X.2.1 dX0_answer_43 ?_
        refine lv_topi (fun f12 ef12 => ?_)
        refine lv_iand X.1 X.2.1 dX0_answer_44 ?_
        refine lv_topi (fun f13 ef13 => ?_)
        refine lv_istore (lv' := [(5, .int f13), (0, .ref a0), (1, .ref a1), (2, .int x2), (3, .int z4_3), (4, .int z4_4)]) X.1 X.2.1 dX0_answer_45 hl (by decide) rfl (fun ls hl => ?_)
        refine lv_aload_n X.1 X.2.1 dX0_answer_47 rfl (lv_at hl 1 rfl) ?_
        refine gg_X0_0 X hK hG h0 wl_2_120 kq5 dX0_answer_48 ?_
        refine lv_iload X.1 X.2.1 dX0_answer_51 (lv_at hl 0 rfl) ?_
        refine lv_aload_n X.1 X.2.1 dX0_answer_53 rfl (lv_at hl 2 rfl) ?_
        refine gf_X9_1 X hK hG h1 wl_1_120 dX0_answer_54 (fun f14 hf14 kf14 => ?_)
        refine lv_aload_n X.1 X.2.1 dX0_answer_57 rfl (lv_at hl 2 rfl) ?_
        refine gf_X9_3 X hK hG h1 wl_1_128 dX0_answer_58 (fun f15 hf15 kf15 => ?_)
        refine lv_iconst (v := 1) X.1 X.2.1 dX0_answer_61 (by decide +kernel) ?_
        refine lv_iadd X.1 X.2.1 dX0_answer_62 ?_
        refine lv_topi (fun f16 ef16 => ?_)
        refine ca_X8_threatened X hK hG hC hS hb q5 hq5 f13 f14 f16 wl_5_100 hl.1 (rest := []) rfl (Nat.le_of_ble_eq_true rfl) ⟨Nat.le_of_ble_eq_true rfl, Nat.le_of_ble_eq_true rfl⟩ ⟨Nat.le_of_ble_eq_true rfl, Nat.le_of_ble_eq_true rfl⟩ dX0_answer_63 (fun f17 H locs hf17 hG hS => ?_)
        have B19_88 : ∀ (locs : List Loc) (ls : Array Slot) (z19_3 : Int32), va_S (fun q : Nat => base ≤ q) s.heap H locs → lv_has ls 6 [(0, .ref a0), (1, .ref a1), (2, .int x2), (3, .int z19_3), (4, .int z4_4)] → W p l e (headSpec (Cond.code yX0_answer cX0_answer 6 (some .int) :: sg_tbl) ({ frames := 5, cells := 0, slots := 0, locals := 129 })).room s m #[.ref a0, .ref a1, .int x2] below meth c H locs 0 0 (MQ below (va_Qi (fun r (_ : Unit) => (fun r : Int32 => True) r) (fun _ => sgB (KT P) D vwCl base tys ad ks) (fun q : Nat => base ≤ q)) #[.ref a0, .ref a1, .int x2] s 0 0 (fun q : Nat => base ≤ q)) (F0 m 88 ls []) := by
          intro locs ls z19_3 hS hl
          obtain ⟨y20, ey20⟩ : ∃ y : Int32, y = z4_4 + Int32.ofInt 1 := ⟨_, rfl⟩
          refine lv_iinc (v := y20) (lv' := [(4, .int y20), (0, .ref a0), (1, .ref a1), (2, .int x2), (3, .int z19_3)]) X.1 X.2.1 dX0_answer_88 hl (k := 4) rfl ey20.symm (by decide) rfl (fun ls hl => ?_)
          refine lv_goto (tgt := 16) X.1 X.2.1 dX0_answer_91 (by decide) ?_
          exact ih4 H _ _ z19_3 y20 hG hS (lv_sub hl [1, 2, 3, 4, 0] rfl) (iv_of (iv_add (a' := 1) (b' := 270) ey20 (iv_lt (b' := 269) (iv_gt_of c7) hz4_4 hf6 (by decide +kernel)) (iv_c _ (a := 1) (b := 1) (by decide +kernel)) (by decide +kernel)) (a' := 0) (b' := 270) (by decide +kernel)) (iv_stepU ey20 (iv_lt (b' := 269) (iv_gt_of c7) hz4_4 hf6 (by decide +kernel)) (by decide +kernel) hN4)
        refine lv_if_ne (tgt := 88) X.1 X.2.1 dX0_answer_66 (by decide) (fun c18 => ?_) (fun c18 => ?_)
        · exact B19_88 _ _ z4_3 hS (lv_sub hl [1, 2, 3, 4, 5] rfl)
        · refine lv_iload_n X.1 X.2.1 dX0_answer_69 rfl (lv_at hl 4 rfl) ?_
          refine lv_iload_n X.1 X.2.1 dX0_answer_70 rfl (lv_at hl 3 rfl) ?_
          refine lv_icmp_ne (tgt := 85) X.1 X.2.1 dX0_answer_71 (by decide) (fun c21 => ?_) (fun c21 => ?_)
          · obtain ⟨y22, ey22⟩ : ∃ y : Int32, y = z4_3 + Int32.ofInt 1 := ⟨_, rfl⟩
            refine lv_iinc (v := y22) (lv' := [(3, .int y22), (5, .int f13), (0, .ref a0), (1, .ref a1), (2, .int x2), (4, .int z4_4)]) X.1 X.2.1 dX0_answer_85 hl (k := 4) rfl ey22.symm (by decide) rfl (fun ls hl => ?_)
            exact B19_88 _ _ y22 hS (lv_sub hl [2, 3, 4, 0, 5] rfl)
          · refine lv_aload_n X.1 X.2.1 dX0_answer_74 rfl (lv_at hl 1 rfl) ?_
            refine gf_X0_0 X hK hG h0 wl_2_120 dX0_answer_75 (fun q23 hq23 kq23 => ?_)
            refine gf_X8_6 X hK hG hq23 wl_2_45 dX0_answer_78 (fun q24 hq24 kq24 => ?_)
            refine lv_iload X.1 X.2.1 dX0_answer_81 (lv_at hl 5 rfl) ?_
            refine al_40 X hK hG hq24 (iv_vpin (iv_lt (b' := 269) (iv_gt_of c7) hz4_4 hf6 (by decide +kernel)) (by decide +kernel)) dX0_answer_83 (fun f25 hf25 => ?_)
            exact sg_iret X hr hlk hb hK hC hG hS trivial dX0_answer_84
  exact B4_16 _ H _ _ 0 0 hG hS (lv_sub hl [2, 3, 4, 1, 0] rfl) (iv_of (iv_c 0 (a := 0) (b := 0) (by decide +kernel)) (a' := 0) (b' := 270) (by decide +kernel)) (Nat.le_refl _)

theorem ca_X0_answer   (X : CallFix p m c cc nL s args sg_tbl own) (hK : va_K D vwCl tys s) (hG : sgG (KT P) D vwCl (fun q : Nat => base ≤ q) tys ad ks H) (hC : sgC base s) (hS : va_S (fun q : Nat => base ≤ q) s.heap H locs) (hb : base ≤ s.heap.size) (a0 : Nat) (h0 : isK ad ks 0 a0) (a1 : Nat) (h1 : isK ad ks 9 a1) (x2 : Int32) (hl : Cond.methodLink own index yX0_answer ∈ sg_tbl) (hsize : ls.size = nL) (hst : st0 = [.ref a1, .int x2].reverse ++ .ref a0 :: rest) (hW : (rest.map fun v => v.category).sum ≤ 8) (hR : 6 ≤ R.frames ∧ 154 ≤ R.locals) (hf : cells ≤ R.cells ∧ slots ≤ R.slots) (hdg : decode cc pc = .ok (.invokevirtual index, 3)) (kk : ∀ (r : Int32) (H1 : Heap) (locs1 : List Loc), (fun r : Int32 => True) r → sgG (KT P) D vwCl (fun q : Nat => base ≤ q) tys ad ks H1 → va_S (fun q : Nat => base ≤ q) s.heap H1 locs1 → W p l e R s m args below meth c H1 locs1 cells slots Q (F0 m (pc + 3) ls (.int r :: rest))) : W p l e R s m args below meth c H locs cells slots Q (F0 m pc ls st0) :=
  sg_callVi X hK hG hC hS hb (m_X0_answer l a0 h0 a1 h1 x2) h0 (k := 0) (ci := 0) rfl (C := RX0) (T := TX0) (N := 5) rfl wl_5_99 wl_1_10 wl_5_97 wl_5_98 (n := 2) (by decide +kernel) rfl rfl rfl hl hsize hst hW hR hf hdg kk

set_option maxHeartbeats 8000000 in
set_option maxRecDepth 100000 in
theorem m_X0_canHold (l : Launch) {D : va_G} {base : Nat} {tys : List (ClassId × FieldType)} {ad ks : List Nat} {P : sgPm} (a0 : Nat) (h0 : isK ad ks 0 a0) (x1 : Int32) (x2 : Int32) (x3 : Int32) : sgMi l (KT P) D vwCl base tys ad ks yX0_canHold cX0_canHold 5 (some .boolean) ({ frames := 5, cells := 0, slots := 0, locals := 129 }) [.ref a0, .int x1, .int x2, .int x3] (fun r : Int32 => iv 0 1 r) := by
  refine sg_ofW (by decide +kernel) (Nat.le_of_ble_eq_true rfl) (fun p e s m below meth c X hr hlk hb hK hC hG ls hl => ?_)
  have hS : va_S (fun q : Nat => base ≤ q) s.heap s.heap [] := va_S.rf
  have hl : lv_has ls 5 [(0, .ref a0), (1, .int x1), (2, .int x2), (3, .int x3)] := hl
  refine lv_aload_n X.1 X.2.1 dX0_canHold_0 rfl (lv_at hl 0 rfl) ?_
  refine gf_X0_0 X hK hG h0 wl_2_120 dX0_canHold_1 (fun q1 hq1 kq1 => ?_)
  refine lv_iload_n X.1 X.2.1 dX0_canHold_4 rfl (lv_at hl 1 rfl) ?_
  refine lv_iload_n X.1 X.2.1 dX0_canHold_5 rfl (lv_at hl 2 rfl) ?_
  refine lv_iload_n X.1 X.2.1 dX0_canHold_6 rfl (lv_at hl 3 rfl) ?_
  refine lv_iconst (v := 1) X.1 X.2.1 dX0_canHold_7 (by decide +kernel) ?_
  refine lv_iadd X.1 X.2.1 dX0_canHold_8 ?_
  refine lv_topi (fun f2 ef2 => ?_)
  refine ca_X8_threatened X hK hG hC hS hb q1 hq1 x1 x2 f2 wl_5_100 hl.1 (rest := []) rfl (Nat.le_of_ble_eq_true rfl) ⟨Nat.le_of_ble_eq_true rfl, Nat.le_of_ble_eq_true rfl⟩ ⟨Nat.le_of_ble_eq_true rfl, Nat.le_of_ble_eq_true rfl⟩ dX0_canHold_9 (fun f3 H locs hf3 hG hS => ?_)
  refine lv_if_ne (tgt := 17) X.1 X.2.1 dX0_canHold_12 (by decide) (fun c4 => ?_) (fun c4 => ?_)
  · refine lv_aload_n X.1 X.2.1 dX0_canHold_17 rfl (lv_at hl 0 rfl) ?_
    refine gf_X0_0 X hK hG h0 wl_2_120 dX0_canHold_18 (fun q5 hq5 kq5 => ?_)
    refine lv_iload_n X.1 X.2.1 dX0_canHold_21 rfl (lv_at hl 1 rfl) ?_
    refine ca_X8_listCuts X hK hG hC hS hb q5 hq5 x1 wl_4_219 hl.1 (rest := []) rfl (Nat.le_of_ble_eq_true rfl) ⟨Nat.le_of_ble_eq_true rfl, Nat.le_of_ble_eq_true rfl⟩ ⟨Nat.le_of_ble_eq_true rfl, Nat.le_of_ble_eq_true rfl⟩ dX0_canHold_22 (fun H locs hG hS => ?_)
    refine lv_iconst (v := 0) X.1 X.2.1 dX0_canHold_25 (by decide +kernel) ?_
    refine lv_istore (lv' := [(4, .int 0), (0, .ref a0), (1, .int x1), (2, .int x2), (3, .int x3)]) X.1 X.2.1 dX0_canHold_26 hl (by decide) rfl (fun ls hl => ?_)
    have B7_28 : ∀ (N : Nat) (H : Heap) (locs : List Loc) (ls : Array Slot) (z7_4 : Int32), sgG (KT P) D vwCl (fun q : Nat => base ≤ q) tys ad ks H → va_S (fun q : Nat => base ≤ q) s.heap H locs → lv_has ls 5 [(0, .ref a0), (1, .int x1), (2, .int x2), (3, .int x3), (4, .int z7_4)] → iv 0 270 z7_4 → (271 - z7_4.toInt).toNat ≤ N → W p l e (headSpec (Cond.code yX0_canHold cX0_canHold 5 (some .boolean) :: sg_tbl) ({ frames := 5, cells := 0, slots := 0, locals := 129 })).room s m #[.ref a0, .int x1, .int x2, .int x3] below meth c H locs 0 0 (MQ below (va_Qi (fun r (_ : Unit) => (fun r : Int32 => iv 0 1 r) r) (fun _ => sgB (KT P) D vwCl base tys ad ks) (fun q : Nat => base ≤ q)) #[.ref a0, .int x1, .int x2, .int x3] s 0 0 (fun q : Nat => base ≤ q)) (F0 m 28 ls []) := by
      intro N; induction N with
      | zero =>
        intro H locs ls z7_4 hG hS hl hz7_4 hN
        exact absurd hN (by have := iv_up hz7_4; omega)
      | succ N ih7 =>
        intro H locs ls z7_4 hG hS hl hz7_4 hN7
        refine lv_iload X.1 X.2.1 dX0_canHold_28 (lv_at hl 4 rfl) ?_
        refine lv_aload_n X.1 X.2.1 dX0_canHold_30 rfl (lv_at hl 0 rfl) ?_
        refine gf_X0_0 X hK hG h0 wl_2_120 dX0_canHold_31 (fun q8 hq8 kq8 => ?_)
        refine gf_X8_8 X hK hG hq8 wl_2_51 dX0_canHold_34 (fun f9 hf9 kf9 => ?_)
        refine lv_icmp_ge (tgt := 76) X.1 X.2.1 dX0_canHold_37 (by decide) (fun c10 => ?_) (fun c10 => ?_)
        · refine lv_iconst (v := 0) X.1 X.2.1 dX0_canHold_76 (by decide +kernel) ?_
          exact sg_zret X hr (sg_zn (iv_of (iv_c 0 (a := 0) (b := 0) (by decide +kernel)) (a' := 0) (b' := 1) (by decide +kernel))) hlk hb hK hC hG hS (iv_of (iv_c 0 (a := 0) (b := 0) (by decide +kernel)) (a' := 0) (b' := 1) (by decide +kernel)) dX0_canHold_77
        · refine lv_aload_n X.1 X.2.1 dX0_canHold_40 rfl (lv_at hl 0 rfl) ?_
          refine gg_X0_0 X hK hG h0 wl_2_120 kq8 dX0_canHold_41 ?_
          refine lv_iload_n X.1 X.2.1 dX0_canHold_44 rfl (lv_at hl 1 rfl) ?_
          refine lv_aload_n X.1 X.2.1 dX0_canHold_45 rfl (lv_at hl 0 rfl) ?_
          refine gg_X0_0 X hK hG h0 wl_2_120 kq8 dX0_canHold_46 ?_
          refine gf_X8_7 X hK hG hq8 wl_2_49 dX0_canHold_49 (fun q11 hq11 kq11 => ?_)
          refine lv_iload X.1 X.2.1 dX0_canHold_52 (lv_at hl 4 rfl) ?_
          refine al_41 X hK hG hq11 (iv_vpin (iv_lt (b' := 269) (iv_gt_of c10) hz7_4 hf9 (by decide +kernel)) (by decide +kernel)) dX0_canHold_54 (fun f12 hf12 => ?_)
          refine lv_iconst (v := (-1)) X.1 X.2.1 dX0_canHold_55 (by decide +kernel) ?_
          refine lv_ixor X.1 X.2.1 dX0_canHold_56 ?_
          refine lv_topi (fun f13 ef13 => ?_)
          refine lv_iand X.1 X.2.1 dX0_canHold_57 ?_
          refine lv_topi (fun f14 ef14 => ?_)
          refine lv_iload_n X.1 X.2.1 dX0_canHold_58 rfl (lv_at hl 2 rfl) ?_
          refine lv_iload_n X.1 X.2.1 dX0_canHold_59 rfl (lv_at hl 3 rfl) ?_
          refine lv_iconst (v := 1) X.1 X.2.1 dX0_canHold_60 (by decide +kernel) ?_
          refine lv_iadd X.1 X.2.1 dX0_canHold_61 ?_
          refine lv_topi (fun f15 ef15 => ?_)
          refine ca_X8_threatened X hK hG hC hS hb q8 hq8 f14 x2 f15 wl_5_100 hl.1 (rest := []) rfl (Nat.le_of_ble_eq_true rfl) ⟨Nat.le_of_ble_eq_true rfl, Nat.le_of_ble_eq_true rfl⟩ ⟨Nat.le_of_ble_eq_true rfl, Nat.le_of_ble_eq_true rfl⟩ dX0_canHold_62 (fun f16 H locs hf16 hG hS => ?_)
          refine lv_if_ne (tgt := 70) X.1 X.2.1 dX0_canHold_65 (by decide) (fun c17 => ?_) (fun c17 => ?_)
          · obtain ⟨y18, ey18⟩ : ∃ y : Int32, y = z7_4 + Int32.ofInt 1 := ⟨_, rfl⟩
            refine lv_iinc (v := y18) (lv' := [(4, .int y18), (0, .ref a0), (1, .int x1), (2, .int x2), (3, .int x3)]) X.1 X.2.1 dX0_canHold_70 hl (k := 4) rfl ey18.symm (by decide) rfl (fun ls hl => ?_)
            refine lv_goto (tgt := 28) X.1 X.2.1 dX0_canHold_73 (by decide) ?_
            exact ih7 H _ _ y18 hG hS (lv_sub hl [1, 2, 3, 4, 0] rfl) (iv_of (iv_add (a' := 1) (b' := 270) ey18 (iv_lt (b' := 269) (iv_gt_of c10) hz7_4 hf9 (by decide +kernel)) (iv_c _ (a := 1) (b := 1) (by decide +kernel)) (by decide +kernel)) (a' := 0) (b' := 270) (by decide +kernel)) (iv_stepU ey18 (iv_lt (b' := 269) (iv_gt_of c10) hz7_4 hf9 (by decide +kernel)) (by decide +kernel) hN7)
          · refine lv_iconst (v := 1) X.1 X.2.1 dX0_canHold_68 (by decide +kernel) ?_
            exact sg_zret X hr (sg_zn (iv_of (iv_c 1 (a := 1) (b := 1) (by decide +kernel)) (a' := 0) (b' := 1) (by decide +kernel))) hlk hb hK hC hG hS (iv_of (iv_c 1 (a := 1) (b := 1) (by decide +kernel)) (a' := 0) (b' := 1) (by decide +kernel)) dX0_canHold_69
    exact B7_28 _ H _ _ 0 hG hS (lv_sub hl [1, 2, 3, 4, 0] rfl) (iv_of (iv_c 0 (a := 0) (b := 0) (by decide +kernel)) (a' := 0) (b' := 270) (by decide +kernel)) (Nat.le_refl _)
  · refine lv_iconst (v := 1) X.1 X.2.1 dX0_canHold_15 (by decide +kernel) ?_
    exact sg_zret X hr (sg_zn (iv_of (iv_c 1 (a := 1) (b := 1) (by decide +kernel)) (a' := 0) (b' := 1) (by decide +kernel))) hlk hb hK hC hG hS (iv_of (iv_c 1 (a := 1) (b := 1) (by decide +kernel)) (a' := 0) (b' := 1) (by decide +kernel)) dX0_canHold_16

theorem ca_X0_canHold   (X : CallFix p m c cc nL s args sg_tbl own) (hK : va_K D vwCl tys s) (hG : sgG (KT P) D vwCl (fun q : Nat => base ≤ q) tys ad ks H) (hC : sgC base s) (hS : va_S (fun q : Nat => base ≤ q) s.heap H locs) (hb : base ≤ s.heap.size) (a0 : Nat) (h0 : isK ad ks 0 a0) (x1 : Int32) (x2 : Int32) (x3 : Int32) (hl : Cond.methodLink own index yX0_canHold ∈ sg_tbl) (hsize : ls.size = nL) (hst : st0 = [.int x1, .int x2, .int x3].reverse ++ .ref a0 :: rest) (hW : (rest.map fun v => v.category).sum ≤ 8) (hR : 6 ≤ R.frames ∧ 153 ≤ R.locals) (hf : cells ≤ R.cells ∧ slots ≤ R.slots) (hdg : decode cc pc = .ok (.invokevirtual index, 3)) (kk : ∀ (r : Int32) (H1 : Heap) (locs1 : List Loc), (fun r : Int32 => iv 0 1 r) r → sgG (KT P) D vwCl (fun q : Nat => base ≤ q) tys ad ks H1 → va_S (fun q : Nat => base ≤ q) s.heap H1 locs1 → W p l e R s m args below meth c H1 locs1 cells slots Q (F0 m (pc + 3) ls (.int r :: rest))) : W p l e R s m args below meth c H locs cells slots Q (F0 m pc ls st0) :=
  sg_callVi X hK hG hC hS hb (m_X0_canHold l a0 h0 x1 x2 x3) h0 (k := 0) (ci := 0) rfl (C := RX0) (T := TX0) (N := 5) rfl wl_5_116 wl_1_10 wl_5_114 wl_5_115 (n := 3) (by decide +kernel) rfl rfl rfl hl hsize hst hW hR hf hdg kk

set_option maxHeartbeats 8000000 in
set_option maxRecDepth 100000 in
theorem m_X0_forcing (l : Launch) {D : va_G} {base : Nat} {tys : List (ClassId × FieldType)} {ad ks : List Nat} {P : sgPm} (a0 : Nat) (h0 : isK ad ks 0 a0) (a1 : Nat) (h1 : isK ad ks 9 a1) : sgMi l (KT P) D vwCl base tys ad ks yX0_forcing cX0_forcing 5 (some .int) ({ frames := 6, cells := 0, slots := 0, locals := 153 }) [.ref a0, .ref a1] (fun r : Int32 => True) := by
  refine sg_ofW (by decide +kernel) (Nat.le_of_ble_eq_true rfl) (fun p e s m below meth c X hr hlk hb hK hC hG ls hl => ?_)
  have hS : va_S (fun q : Nat => base ≤ q) s.heap s.heap [] := va_S.rf
  have hl : lv_has ls 5 [(0, .ref a0), (1, .ref a1)] := hl
  refine lv_aload_n X.1 X.2.1 dX0_forcing_0 rfl (lv_at hl 0 rfl) ?_
  refine gf_X0_0 X hK hG h0 wl_2_120 dX0_forcing_1 (fun q1 hq1 kq1 => ?_)
  refine lv_aload_n X.1 X.2.1 dX0_forcing_4 rfl (lv_at hl 1 rfl) ?_
  refine gf_X9_0 X hK hG h1 wl_1_116 dX0_forcing_5 (fun f2 hf2 kf2 => ?_)
  refine lv_aload_n X.1 X.2.1 dX0_forcing_8 rfl (lv_at hl 1 rfl) ?_
  refine gf_X9_1 X hK hG h1 wl_1_120 dX0_forcing_9 (fun f3 hf3 kf3 => ?_)
  refine lv_aload_n X.1 X.2.1 dX0_forcing_12 rfl (lv_at hl 1 rfl) ?_
  refine gf_X9_3 X hK hG h1 wl_1_128 dX0_forcing_13 (fun f4 hf4 kf4 => ?_)
  refine ca_X8_growing X hK hG hC hS hb q1 hq1 f2 f3 f4 wl_5_121 hl.1 (rest := []) rfl (Nat.le_of_ble_eq_true rfl) ⟨Nat.le_of_ble_eq_true rfl, Nat.le_of_ble_eq_true rfl⟩ ⟨Nat.le_of_ble_eq_true rfl, Nat.le_of_ble_eq_true rfl⟩ dX0_forcing_16 (fun f5 H locs hf5 hG hS => ?_)
  refine lv_istore_n (lv' := [(2, .int f5), (0, .ref a0), (1, .ref a1)]) X.1 X.2.1 dX0_forcing_19 rfl hl (by decide) rfl (fun ls hl => ?_)
  refine lv_iconst (v := 0) X.1 X.2.1 dX0_forcing_20 (by decide +kernel) ?_
  refine lv_istore_n (lv' := [(3, .int 0), (2, .int f5), (0, .ref a0), (1, .ref a1)]) X.1 X.2.1 dX0_forcing_21 rfl hl (by decide) rfl (fun ls hl => ?_)
  have B6_22 : ∀ (N : Nat) (H : Heap) (locs : List Loc) (ls : Array Slot) (z6_3 : Int32), sgG (KT P) D vwCl (fun q : Nat => base ≤ q) tys ad ks H → va_S (fun q : Nat => base ≤ q) s.heap H locs → lv_has ls 5 [(0, .ref a0), (1, .ref a1), (2, .int f5), (3, .int z6_3)] → iv 0 30 z6_3 → (31 - z6_3.toInt).toNat ≤ N → W p l e (headSpec (Cond.code yX0_forcing cX0_forcing 5 (some .int) :: sg_tbl) ({ frames := 6, cells := 0, slots := 0, locals := 153 })).room s m #[.ref a0, .ref a1] below meth c H locs 0 0 (MQ below (va_Qi (fun r (_ : Unit) => (fun r : Int32 => True) r) (fun _ => sgB (KT P) D vwCl base tys ad ks) (fun q : Nat => base ≤ q)) #[.ref a0, .ref a1] s 0 0 (fun q : Nat => base ≤ q)) (F0 m 22 ls []) := by
    intro N; induction N with
    | zero =>
      intro H locs ls z6_3 hG hS hl hz6_3 hN
      exact absurd hN (by have := iv_up hz6_3; omega)
    | succ N ih6 =>
      intro H locs ls z6_3 hG hS hl hz6_3 hN6
      refine lv_iload_n X.1 X.2.1 dX0_forcing_22 rfl (lv_at hl 3 rfl) ?_
      refine lv_aload_n X.1 X.2.1 dX0_forcing_23 rfl (lv_at hl 0 rfl) ?_
      refine gf_X0_0 X hK hG h0 wl_2_120 dX0_forcing_24 (fun q7 hq7 kq7 => ?_)
      refine gf_X8_0 X hK hG hq7 wl_2_38 dX0_forcing_27 (fun q8 hq8 kq8 => ?_)
      refine gf_X4_5 X hK hG hq8 wl_1_219 dX0_forcing_30 (fun f9 hf9 kf9 => ?_)
      refine lv_icmp_ge (tgt := 94) X.1 X.2.1 dX0_forcing_33 (by decide) (fun c10 => ?_) (fun c10 => ?_)
      · refine lv_iconst (v := (-1)) X.1 X.2.1 dX0_forcing_94 (by decide +kernel) ?_
        exact sg_iret X hr hlk hb hK hC hG hS trivial dX0_forcing_95
      · refine lv_iload_n X.1 X.2.1 dX0_forcing_36 rfl (lv_at hl 2 rfl) ?_
        refine lv_iload_n X.1 X.2.1 dX0_forcing_37 rfl (lv_at hl 3 rfl) ?_
        refine lv_ishr X.1 X.2.1 dX0_forcing_38 ?_
        refine lv_topi (fun f11 ef11 => ?_)
        refine lv_iconst (v := 1) X.1 X.2.1 dX0_forcing_39 (by decide +kernel) ?_
        refine lv_iand X.1 X.2.1 dX0_forcing_40 ?_
        refine lv_topi (fun f12 ef12 => ?_)
        have B14_88 : ∀ (H : Heap) (locs : List Loc) (ls : Array Slot), sgG (KT P) D vwCl (fun q : Nat => base ≤ q) tys ad ks H → va_S (fun q : Nat => base ≤ q) s.heap H locs → lv_has ls 5 [(0, .ref a0), (1, .ref a1), (2, .int f5), (3, .int z6_3)] → W p l e (headSpec (Cond.code yX0_forcing cX0_forcing 5 (some .int) :: sg_tbl) ({ frames := 6, cells := 0, slots := 0, locals := 153 })).room s m #[.ref a0, .ref a1] below meth c H locs 0 0 (MQ below (va_Qi (fun r (_ : Unit) => (fun r : Int32 => True) r) (fun _ => sgB (KT P) D vwCl base tys ad ks) (fun q : Nat => base ≤ q)) #[.ref a0, .ref a1] s 0 0 (fun q : Nat => base ≤ q)) (F0 m 88 ls []) := by
          intro H locs ls hG hS hl
          obtain ⟨y15, ey15⟩ : ∃ y : Int32, y = z6_3 + Int32.ofInt 1 := ⟨_, rfl⟩
          refine lv_iinc (v := y15) (lv' := [(3, .int y15), (0, .ref a0), (1, .ref a1), (2, .int f5)]) X.1 X.2.1 dX0_forcing_88 hl (k := 3) rfl ey15.symm (by decide) rfl (fun ls hl => ?_)
          refine lv_goto (tgt := 22) X.1 X.2.1 dX0_forcing_91 (by decide) ?_
          exact ih6 H _ _ y15 hG hS (lv_sub hl [1, 2, 3, 0] rfl) (iv_of (iv_add (a' := 1) (b' := 30) ey15 (iv_lt (b' := 29) (iv_gt_of c10) hz6_3 hf9 (by decide +kernel)) (iv_c _ (a := 1) (b := 1) (by decide +kernel)) (by decide +kernel)) (a' := 0) (b' := 30) (by decide +kernel)) (iv_stepU ey15 (iv_lt (b' := 29) (iv_gt_of c10) hz6_3 hf9 (by decide +kernel)) (by decide +kernel) hN6)
        refine lv_if_eq (tgt := 88) X.1 X.2.1 dX0_forcing_41 (by decide) (fun c13 => ?_) (fun c13 => ?_)
        · exact B14_88 H _ _ hG hS (lv_sub hl [0, 1, 2, 3] rfl)
        · refine lv_aload_n X.1 X.2.1 dX0_forcing_44 rfl (lv_at hl 1 rfl) ?_
          refine gf_X9_0 X hK hG h1 wl_1_116 dX0_forcing_45 (fun f16 hf16 kf16 => ?_)
          refine lv_iconst (v := 1) X.1 X.2.1 dX0_forcing_48 (by decide +kernel) ?_
          refine lv_iload_n X.1 X.2.1 dX0_forcing_49 rfl (lv_at hl 3 rfl) ?_
          refine lv_ishl X.1 X.2.1 dX0_forcing_50 ?_
          refine lv_topi (fun f17 ef17 => ?_)
          refine lv_ior X.1 X.2.1 dX0_forcing_51 ?_
          refine lv_topi (fun f18 ef18 => ?_)
          refine lv_istore (lv' := [(4, .int f18), (0, .ref a0), (1, .ref a1), (2, .int f5), (3, .int z6_3)]) X.1 X.2.1 dX0_forcing_52 hl (by decide) rfl (fun ls hl => ?_)
          refine lv_aload_n X.1 X.2.1 dX0_forcing_54 rfl (lv_at hl 1 rfl) ?_
          refine gg_X0_0 X hK hG h0 wl_2_120 kq7 dX0_forcing_55 ?_
          refine gg_X8_0 X hK hG hq7 wl_2_38 kq8 dX0_forcing_58 ?_
          refine lv_iload X.1 X.2.1 dX0_forcing_61 (lv_at hl 0 rfl) ?_
          refine ca_X4_hasLine X hK hG hC (fun _ h => h) hS hb q8 hq8 f18 wl_5_122 hl.1 (rest := []) rfl (Nat.le_of_ble_eq_true rfl) ⟨Nat.le_of_ble_eq_true rfl, Nat.le_of_ble_eq_true rfl⟩ ⟨Nat.le_of_ble_eq_true rfl, Nat.le_of_ble_eq_true rfl⟩ dX0_forcing_63 (fun f19 locs hf19 hS => ?_)
          refine lv_if_ne (tgt := 86) X.1 X.2.1 dX0_forcing_66 (by decide) (fun c20 => ?_) (fun c20 => ?_)
          · refine lv_iload_n X.1 X.2.1 dX0_forcing_86 rfl (lv_at hl 4 rfl) ?_
            exact sg_iret X hr hlk hb hK hC hG hS trivial dX0_forcing_87
          · refine lv_aload_n X.1 X.2.1 dX0_forcing_69 rfl (lv_at hl 1 rfl) ?_
            refine lv_iload X.1 X.2.1 dX0_forcing_70 (lv_at hl 0 rfl) ?_
            refine lv_aload_n X.1 X.2.1 dX0_forcing_72 rfl (lv_at hl 2 rfl) ?_
            refine gf_X9_1 X hK hG h1 wl_1_120 dX0_forcing_73 (fun f21 hf21 kf21 => ?_)
            refine lv_aload_n X.1 X.2.1 dX0_forcing_76 rfl (lv_at hl 2 rfl) ?_
            refine gf_X9_3 X hK hG h1 wl_1_128 dX0_forcing_77 (fun f22 hf22 kf22 => ?_)
            refine ca_X0_canHold X hK hG hC hS hb a0 h0 f18 f21 f22 wl_5_123 hl.1 (rest := []) rfl (Nat.le_of_ble_eq_true rfl) ⟨Nat.le_of_ble_eq_true rfl, Nat.le_of_ble_eq_true rfl⟩ ⟨Nat.le_of_ble_eq_true rfl, Nat.le_of_ble_eq_true rfl⟩ dX0_forcing_80 (fun f23 H locs hf23 hG hS => ?_)
            refine lv_if_ne (tgt := 88) X.1 X.2.1 dX0_forcing_83 (by decide) (fun c24 => ?_) (fun c24 => ?_)
            · exact B14_88 H _ _ hG hS (lv_sub hl [1, 2, 3, 4] rfl)
            · refine lv_iload_n X.1 X.2.1 dX0_forcing_86 rfl (lv_at hl 4 rfl) ?_
              exact sg_iret X hr hlk hb hK hC hG hS trivial dX0_forcing_87
  exact B6_22 _ H _ _ 0 hG hS (lv_sub hl [2, 3, 1, 0] rfl) (iv_of (iv_c 0 (a := 0) (b := 0) (by decide +kernel)) (a' := 0) (b' := 30) (by decide +kernel)) (Nat.le_refl _)

theorem ca_X0_forcing   (X : CallFix p m c cc nL s args sg_tbl own) (hK : va_K D vwCl tys s) (hG : sgG (KT P) D vwCl (fun q : Nat => base ≤ q) tys ad ks H) (hC : sgC base s) (hS : va_S (fun q : Nat => base ≤ q) s.heap H locs) (hb : base ≤ s.heap.size) (a0 : Nat) (h0 : isK ad ks 0 a0) (a1 : Nat) (h1 : isK ad ks 9 a1) (hl : Cond.methodLink own index yX0_forcing ∈ sg_tbl) (hsize : ls.size = nL) (hst : st0 = [.ref a1].reverse ++ .ref a0 :: rest) (hW : (rest.map fun v => v.category).sum ≤ 8) (hR : 7 ≤ R.frames ∧ 177 ≤ R.locals) (hf : cells ≤ R.cells ∧ slots ≤ R.slots) (hdg : decode cc pc = .ok (.invokevirtual index, 3)) (kk : ∀ (r : Int32) (H1 : Heap) (locs1 : List Loc), (fun r : Int32 => True) r → sgG (KT P) D vwCl (fun q : Nat => base ≤ q) tys ad ks H1 → va_S (fun q : Nat => base ≤ q) s.heap H1 locs1 → W p l e R s m args below meth c H1 locs1 cells slots Q (F0 m (pc + 3) ls (.int r :: rest))) : W p l e R s m args below meth c H locs cells slots Q (F0 m pc ls st0) :=
  sg_callVi X hK hG hC hS hb (m_X0_forcing l a0 h0 a1 h1) h0 (k := 0) (ci := 0) rfl (C := RX0) (T := TX0) (N := 5) rfl wl_5_120 wl_1_10 wl_5_118 wl_5_119 (n := 1) (by decide +kernel) rfl rfl rfl hl hsize hst hW hR hf hdg kk
end
