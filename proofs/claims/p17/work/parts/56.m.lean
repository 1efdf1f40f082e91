abbrev cX12_canHold : ByteArray := prog_14_method_94_code
def yX12_canHold : MethodName := ⟨RX12, "canHold", "(I)Z"⟩
abbrev cX12_holds : ByteArray := prog_14_method_97_code
def yX12_holds : MethodName := ⟨RX12, "holds", "(I)I"⟩
abbrev cX12_isHeldBehind : ByteArray := prog_14_method_96_code
def yX12_isHeldBehind : MethodName := ⟨RX12, "isHeldBehind", "(I)Z"⟩
abbrev cX12_layAdvice : ByteArray := prog_14_method_92_code
def yX12_layAdvice : MethodName := ⟨RX12, "layAdvice", "(III)V"⟩
abbrev cX12_listed : ByteArray := prog_14_method_89_code
def yX12_listed : MethodName := ⟨RX12, "listed", "(IZ)I"⟩
theorem dX12_advice_12 : decode cX12_advice 12 = .ok (.iload_n 1, 1) := by decide +kernel
theorem dX12_advice_13 : decode cX12_advice 13 = .ok (.i2l, 1) := by decide +kernel
theorem dX12_advice_14 : decode cX12_advice 14 = .ok (.lconst 0, 1) := by decide +kernel
theorem dX12_advice_15 : decode cX12_advice 15 = .ok (.lconst 1, 1) := by decide +kernel
theorem dX12_advice_16 : decode cX12_advice 16 = .ok (.invokestatic 215, 3) := by decide +kernel
theorem dX12_advice_19 : decode cX12_advice 19 = .ok (.ifCond .ne 5, 3) := by decide +kernel
theorem dX12_advice_24 : decode cX12_advice 24 = .ok (.aload_n 0, 1) := by decide +kernel
theorem dX12_advice_25 : decode cX12_advice 25 = .ok (.aload_n 0, 1) := by decide +kernel
theorem dX12_advice_26 : decode cX12_advice 26 = .ok (.getfield 52, 3) := by decide +kernel
theorem dX12_advice_29 : decode cX12_advice 29 = .ok (.iconst 0, 1) := by decide +kernel
theorem dX12_advice_30 : decode cX12_advice 30 = .ok (.iaload, 1) := by decide +kernel
theorem dX12_advice_31 : decode cX12_advice 31 = .ok (.aload_n 0, 1) := by decide +kernel
theorem dX12_advice_32 : decode cX12_advice 32 = .ok (.getfield 52, 3) := by decide +kernel
theorem dX12_advice_35 : decode cX12_advice 35 = .ok (.iconst 1, 1) := by decide +kernel
theorem dX12_advice_36 : decode cX12_advice 36 = .ok (.iaload, 1) := by decide +kernel
theorem dX12_advice_37 : decode cX12_advice 37 = .ok (.aload_n 0, 1) := by decide +kernel
theorem dX12_advice_38 : decode cX12_advice 38 = .ok (.getfield 52, 3) := by decide +kernel
theorem dX12_advice_41 : decode cX12_advice 41 = .ok (.iconst 4, 1) := by decide +kernel
theorem dX12_advice_42 : decode cX12_advice 42 = .ok (.iaload, 1) := by decide +kernel
theorem dX12_advice_43 : decode cX12_advice 43 = .ok (.invokevirtual 425, 3) := by decide +kernel
theorem dX12_advice_46 : decode cX12_advice 46 = .ok (.aload_n 0, 1) := by decide +kernel
theorem dX12_advice_47 : decode cX12_advice 47 = .ok (.getfield 429, 3) := by decide +kernel
theorem dX12_advice_50 : decode cX12_advice 50 = .ok (.iconst (-1), 1) := by decide +kernel
theorem dX12_advice_51 : decode cX12_advice 51 = .ok (.if_icmp .ne 7, 3) := by decide +kernel
theorem dX12_advice_54 : decode cX12_advice 54 = .ok (.iconst (-1), 1) := by decide +kernel
theorem dX12_advice_55 : decode cX12_advice 55 = .ok (.goto 18, 3) := by decide +kernel
theorem dX12_advice_58 : decode cX12_advice 58 = .ok (.iload_n 1, 1) := by decide +kernel
theorem dX12_advice_59 : decode cX12_advice 59 = .ok (.ifCond .ne 10, 3) := by decide +kernel
theorem dX12_advice_62 : decode cX12_advice 62 = .ok (.aload_n 0, 1) := by decide +kernel
theorem dX12_advice_63 : decode cX12_advice 63 = .ok (.getfield 429, 3) := by decide +kernel
theorem dX12_advice_66 : decode cX12_advice 66 = .ok (.goto 7, 3) := by decide +kernel
theorem dX12_advice_69 : decode cX12_advice 69 = .ok (.aload_n 0, 1) := by decide +kernel
theorem dX12_advice_70 : decode cX12_advice 70 = .ok (.getfield 478, 3) := by decide +kernel
theorem dX12_advice_73 : decode cX12_advice 73 = .ok (.ireturn, 1) := by decide +kernel
theorem dX12_answers_12 : decode cX12_answers 12 = .ok (.iload_n 1, 1) := by decide +kernel
theorem dX12_answers_13 : decode cX12_answers 13 = .ok (.iconst (-1), 1) := by decide +kernel
theorem dX12_answers_14 : decode cX12_answers 14 = .ok (.if_icmp .ge 7, 3) := by decide +kernel
theorem dX12_answers_21 : decode cX12_answers 21 = .ok (.aload_n 0, 1) := by decide +kernel
theorem dX12_answers_22 : decode cX12_answers 22 = .ok (.iload_n 1, 1) := by decide +kernel
theorem dX12_answers_23 : decode cX12_answers 23 = .ok (.iconst 1, 1) := by decide +kernel
theorem dX12_answers_24 : decode cX12_answers 24 = .ok (.invokevirtual 474, 3) := by decide +kernel
theorem dX12_canHold_0 : decode cX12_canHold 0 = .ok (.aload_n 0, 1) := by decide +kernel
theorem dX12_canHold_1 : decode cX12_canHold 1 = .ok (.getfield 52, 3) := by decide +kernel
theorem dX12_canHold_4 : decode cX12_canHold 4 = .ok (.iconst 4, 1) := by decide +kernel
theorem dX12_canHold_5 : decode cX12_canHold 5 = .ok (.iaload, 1) := by decide +kernel
theorem dX12_canHold_6 : decode cX12_canHold 6 = .ok (.iconst 1, 1) := by decide +kernel
theorem dX12_canHold_7 : decode cX12_canHold 7 = .ok (.iadd, 1) := by decide +kernel
theorem dX12_canHold_8 : decode cX12_canHold 8 = .ok (.istore_n 2, 1) := by decide +kernel
theorem dX12_canHold_9 : decode cX12_canHold 9 = .ok (.aload_n 0, 1) := by decide +kernel
theorem dX12_canHold_10 : decode cX12_canHold 10 = .ok (.iload_n 1, 1) := by decide +kernel
theorem dX12_canHold_11 : decode cX12_canHold 11 = .ok (.aload_n 0, 1) := by decide +kernel
theorem dX12_canHold_12 : decode cX12_canHold 12 = .ok (.getfield 52, 3) := by decide +kernel
theorem dX12_canHold_15 : decode cX12_canHold 15 = .ok (.iconst 1, 1) := by decide +kernel
theorem dX12_canHold_16 : decode cX12_canHold 16 = .ok (.iaload, 1) := by decide +kernel
theorem dX12_canHold_17 : decode cX12_canHold 17 = .ok (.iload_n 2, 1) := by decide +kernel
theorem dX12_canHold_18 : decode cX12_canHold 18 = .ok (.invokevirtual 367, 3) := by decide +kernel
theorem dX12_canHold_21 : decode cX12_canHold 21 = .ok (.ifCond .ne 5, 3) := by decide +kernel
theorem dX12_canHold_24 : decode cX12_canHold 24 = .ok (.iconst 1, 1) := by decide +kernel
theorem dX12_canHold_25 : decode cX12_canHold 25 = .ok (.ireturn, 1) := by decide +kernel
theorem dX12_canHold_26 : decode cX12_canHold 26 = .ok (.iconst 0, 1) := by decide +kernel
theorem dX12_canHold_27 : decode cX12_canHold 27 = .ok (.istore_n 3, 1) := by decide +kernel
theorem dX12_canHold_28 : decode cX12_canHold 28 = .ok (.iload_n 3, 1) := by decide +kernel
theorem dX12_canHold_29 : decode cX12_canHold 29 = .ok (.bipush 10, 2) := by decide +kernel
theorem dX12_canHold_31 : decode cX12_canHold 31 = .ok (.aload_n 0, 1) := by decide +kernel
theorem dX12_canHold_32 : decode cX12_canHold 32 = .ok (.getfield 302, 3) := by decide +kernel
theorem dX12_canHold_35 : decode cX12_canHold 35 = .ok (.imul, 1) := by decide +kernel
theorem dX12_canHold_36 : decode cX12_canHold 36 = .ok (.if_icmp .ge 46, 3) := by decide +kernel
theorem dX12_canHold_39 : decode cX12_canHold 39 = .ok (.aload_n 0, 1) := by decide +kernel
theorem dX12_canHold_40 : decode cX12_canHold 40 = .ok (.iload_n 1, 1) := by decide +kernel
theorem dX12_canHold_41 : decode cX12_canHold 41 = .ok (.iload_n 3, 1) := by decide +kernel
theorem dX12_canHold_42 : decode cX12_canHold 42 = .ok (.invokevirtual 468, 3) := by decide +kernel
theorem dX12_canHold_45 : decode cX12_canHold 45 = .ok (.istore 4, 2) := by decide +kernel
theorem dX12_canHold_47 : decode cX12_canHold 47 = .ok (.iload 4, 2) := by decide +kernel
theorem dX12_canHold_49 : decode cX12_canHold 49 = .ok (.iconst (-1), 1) := by decide +kernel
theorem dX12_canHold_50 : decode cX12_canHold 50 = .ok (.if_icmp .eq 26, 3) := by decide +kernel
theorem dX12_canHold_53 : decode cX12_canHold 53 = .ok (.aload_n 0, 1) := by decide +kernel
theorem dX12_canHold_54 : decode cX12_canHold 54 = .ok (.aload_n 0, 1) := by decide +kernel
theorem dX12_canHold_55 : decode cX12_canHold 55 = .ok (.iload_n 1, 1) := by decide +kernel
theorem dX12_canHold_56 : decode cX12_canHold 56 = .ok (.iload 4, 2) := by decide +kernel
theorem dX12_canHold_58 : decode cX12_canHold 58 = .ok (.invokevirtual 471, 3) := by decide +kernel
theorem dX12_canHold_61 : decode cX12_canHold 61 = .ok (.aload_n 0, 1) := by decide +kernel
theorem dX12_canHold_62 : decode cX12_canHold 62 = .ok (.getfield 52, 3) := by decide +kernel
theorem dX12_canHold_65 : decode cX12_canHold 65 = .ok (.iconst 1, 1) := by decide +kernel
theorem dX12_canHold_66 : decode cX12_canHold 66 = .ok (.iaload, 1) := by decide +kernel
theorem dX12_canHold_67 : decode cX12_canHold 67 = .ok (.iload_n 2, 1) := by decide +kernel
theorem dX12_canHold_68 : decode cX12_canHold 68 = .ok (.invokevirtual 367, 3) := by decide +kernel
theorem dX12_canHold_71 : decode cX12_canHold 71 = .ok (.ifCond .ne 5, 3) := by decide +kernel
theorem dX12_canHold_74 : decode cX12_canHold 74 = .ok (.iconst 1, 1) := by decide +kernel
theorem dX12_canHold_75 : decode cX12_canHold 75 = .ok (.ireturn, 1) := by decide +kernel
theorem dX12_canHold_76 : decode cX12_canHold 76 = .ok (.iinc 3 1, 3) := by decide +kernel
theorem dX12_canHold_79 : decode cX12_canHold 79 = .ok (.goto (-51), 3) := by decide +kernel
theorem dX12_canHold_82 : decode cX12_canHold 82 = .ok (.iconst 0, 1) := by decide +kernel
theorem dX12_canHold_83 : decode cX12_canHold 83 = .ok (.ireturn, 1) := by decide +kernel
theorem dX12_cut_21 : decode cX12_cut 21 = .ok (.aload_n 0, 1) := by decide +kernel
theorem dX12_cut_22 : decode cX12_cut 22 = .ok (.invokevirtual 379, 3) := by decide +kernel
theorem dX12_cut_25 : decode cX12_cut 25 = .ok (.aload_n 0, 1) := by decide +kernel
theorem dX12_cut_26 : decode cX12_cut 26 = .ok (.aload_n 0, 1) := by decide +kernel
theorem dX12_cut_27 : decode cX12_cut 27 = .ok (.getfield 52, 3) := by decide +kernel
theorem dX12_cut_30 : decode cX12_cut 30 = .ok (.iload_n 1, 1) := by decide +kernel
theorem dX12_cut_31 : decode cX12_cut 31 = .ok (.iload_n 2, 1) := by decide +kernel
theorem dX12_cut_32 : decode cX12_cut 32 = .ok (.iload_n 3, 1) := by decide +kernel
theorem dX12_cut_33 : decode cX12_cut 33 = .ok (.invokevirtual 394, 3) := by decide +kernel
theorem dX12_cut_36 : decode cX12_cut 36 = .ok (.aload_n 0, 1) := by decide +kernel
theorem dX12_cut_37 : decode cX12_cut 37 = .ok (.getfield 52, 3) := by decide +kernel
theorem dX12_cut_40 : decode cX12_cut 40 = .ok (.iconst 4, 1) := by decide +kernel
theorem dX12_cut_41 : decode cX12_cut 41 = .ok (.iaload, 1) := by decide +kernel
theorem dX12_cut_42 : decode cX12_cut 42 = .ok (.ireturn, 1) := by decide +kernel
theorem dX12_cuts_12 : decode cX12_cuts 12 = .ok (.iload_n 1, 1) := by decide +kernel
theorem dX12_cuts_13 : decode cX12_cuts 13 = .ok (.iconst (-1), 1) := by decide +kernel
theorem dX12_cuts_14 : decode cX12_cuts 14 = .ok (.if_icmp .ge 7, 3) := by decide +kernel
theorem dX12_cuts_21 : decode cX12_cuts 21 = .ok (.aload_n 0, 1) := by decide +kernel
theorem dX12_cuts_22 : decode cX12_cuts 22 = .ok (.iload_n 1, 1) := by decide +kernel
theorem dX12_cuts_23 : decode cX12_cuts 23 = .ok (.iconst 0, 1) := by decide +kernel
theorem dX12_cuts_24 : decode cX12_cuts 24 = .ok (.invokevirtual 474, 3) := by decide +kernel
theorem dX12_grow_19 : decode cX12_grow 19 = .ok (.aload_n 0, 1) := by decide +kernel
theorem dX12_grow_20 : decode cX12_grow 20 = .ok (.invokevirtual 379, 3) := by decide +kernel
theorem dX12_grow_23 : decode cX12_grow 23 = .ok (.aload_n 0, 1) := by decide +kernel
theorem dX12_grow_24 : decode cX12_grow 24 = .ok (.aload_n 0, 1) := by decide +kernel
theorem dX12_grow_25 : decode cX12_grow 25 = .ok (.getfield 52, 3) := by decide +kernel
theorem dX12_grow_28 : decode cX12_grow 28 = .ok (.iload_n 1, 1) := by decide +kernel
theorem dX12_grow_29 : decode cX12_grow 29 = .ok (.invokevirtual 382, 3) := by decide +kernel
theorem dX12_grow_32 : decode cX12_grow 32 = .ok (.aload_n 0, 1) := by decide +kernel
theorem dX12_grow_33 : decode cX12_grow 33 = .ok (.getfield 52, 3) := by decide +kernel
theorem dX12_grow_36 : decode cX12_grow 36 = .ok (.iconst 3, 1) := by decide +kernel
theorem dX12_grow_37 : decode cX12_grow 37 = .ok (.iaload, 1) := by decide +kernel
theorem dX12_grow_38 : decode cX12_grow 38 = .ok (.ireturn, 1) := by decide +kernel
theorem dX12_holds_0 : decode cX12_holds 0 = .ok (.aload_n 0, 1) := by decide +kernel
theorem dX12_holds_1 : decode cX12_holds 1 = .ok (.iconst 0, 1) := by decide +kernel
theorem dX12_holds_2 : decode cX12_holds 2 = .ok (.putfield 94, 3) := by decide +kernel
theorem dX12_holds_5 : decode cX12_holds 5 = .ok (.aload_n 0, 1) := by decide +kernel
theorem dX12_holds_6 : decode cX12_holds 6 = .ok (.invokevirtual 484, 3) := by decide +kernel
theorem dX12_holds_9 : decode cX12_holds 9 = .ok (.ifCond .eq 15, 3) := by decide +kernel
theorem dX12_holds_12 : decode cX12_holds 12 = .ok (.iload_n 1, 1) := by decide +kernel
theorem dX12_holds_13 : decode cX12_holds 13 = .ok (.i2l, 1) := by decide +kernel
theorem dX12_holds_14 : decode cX12_holds 14 = .ok (.lconst 1, 1) := by decide +kernel
theorem dX12_holds_15 : decode cX12_holds 15 = .ok (.ldc2_w 283, 3) := by decide +kernel
theorem dX12_holds_18 : decode cX12_holds 18 = .ok (.invokestatic 215, 3) := by decide +kernel
theorem dX12_holds_21 : decode cX12_holds 21 = .ok (.ifCond .ne 5, 3) := by decide +kernel
theorem dX12_holds_24 : decode cX12_holds 24 = .ok (.iconst (-1), 1) := by decide +kernel
theorem dX12_holds_25 : decode cX12_holds 25 = .ok (.ireturn, 1) := by decide +kernel
theorem dX12_holds_26 : decode cX12_holds 26 = .ok (.aload_n 0, 1) := by decide +kernel
theorem dX12_holds_27 : decode cX12_holds 27 = .ok (.aload_n 0, 1) := by decide +kernel
theorem dX12_holds_28 : decode cX12_holds 28 = .ok (.getfield 52, 3) := by decide +kernel
theorem dX12_holds_31 : decode cX12_holds 31 = .ok (.iconst 0, 1) := by decide +kernel
theorem dX12_holds_32 : decode cX12_holds 32 = .ok (.iaload, 1) := by decide +kernel
theorem dX12_holds_33 : decode cX12_holds 33 = .ok (.aload_n 0, 1) := by decide +kernel
theorem dX12_holds_34 : decode cX12_holds 34 = .ok (.getfield 52, 3) := by decide +kernel
theorem dX12_holds_37 : decode cX12_holds 37 = .ok (.iconst 1, 1) := by decide +kernel
theorem dX12_holds_38 : decode cX12_holds 38 = .ok (.iaload, 1) := by decide +kernel
theorem dX12_holds_39 : decode cX12_holds 39 = .ok (.aload_n 0, 1) := by decide +kernel
theorem dX12_holds_40 : decode cX12_holds 40 = .ok (.getfield 52, 3) := by decide +kernel
theorem dX12_holds_43 : decode cX12_holds 43 = .ok (.iconst 4, 1) := by decide +kernel
theorem dX12_holds_44 : decode cX12_holds 44 = .ok (.iaload, 1) := by decide +kernel
theorem dX12_holds_45 : decode cX12_holds 45 = .ok (.invokevirtual 419, 3) := by decide +kernel
theorem dX12_holds_48 : decode cX12_holds 48 = .ok (.istore_n 2, 1) := by decide +kernel
theorem dX12_holds_49 : decode cX12_holds 49 = .ok (.aload_n 0, 1) := by decide +kernel
theorem dX12_holds_50 : decode cX12_holds 50 = .ok (.aload_n 0, 1) := by decide +kernel
theorem dX12_holds_51 : decode cX12_holds 51 = .ok (.getfield 52, 3) := by decide +kernel
theorem dX12_holds_54 : decode cX12_holds 54 = .ok (.iconst 0, 1) := by decide +kernel
theorem dX12_holds_55 : decode cX12_holds 55 = .ok (.iaload, 1) := by decide +kernel
theorem dX12_holds_56 : decode cX12_holds 56 = .ok (.aload_n 0, 1) := by decide +kernel
theorem dX12_holds_57 : decode cX12_holds 57 = .ok (.getfield 52, 3) := by decide +kernel
theorem dX12_holds_60 : decode cX12_holds 60 = .ok (.iconst 1, 1) := by decide +kernel
theorem dX12_holds_61 : decode cX12_holds 61 = .ok (.iaload, 1) := by decide +kernel
theorem dX12_holds_62 : decode cX12_holds 62 = .ok (.aload_n 0, 1) := by decide +kernel
theorem dX12_holds_63 : decode cX12_holds 63 = .ok (.getfield 52, 3) := by decide +kernel
theorem dX12_holds_66 : decode cX12_holds 66 = .ok (.iconst 4, 1) := by decide +kernel
theorem dX12_holds_67 : decode cX12_holds 67 = .ok (.iaload, 1) := by decide +kernel
theorem dX12_holds_68 : decode cX12_holds 68 = .ok (.invokevirtual 367, 3) := by decide +kernel
theorem dX12_holds_71 : decode cX12_holds 71 = .ok (.ifCond .eq 5, 3) := by decide +kernel
theorem dX12_holds_74 : decode cX12_holds 74 = .ok (.iconst 0, 1) := by decide +kernel
theorem dX12_holds_75 : decode cX12_holds 75 = .ok (.ireturn, 1) := by decide +kernel
theorem dX12_holds_76 : decode cX12_holds 76 = .ok (.iload_n 1, 1) := by decide +kernel
theorem dX12_holds_77 : decode cX12_holds 77 = .ok (.iconst 1, 1) := by decide +kernel
theorem dX12_holds_78 : decode cX12_holds 78 = .ok (.if_icmp .ne 5, 3) := by decide +kernel
theorem dX12_holds_81 : decode cX12_holds 81 = .ok (.iconst 1, 1) := by decide +kernel
theorem dX12_holds_82 : decode cX12_holds 82 = .ok (.ireturn, 1) := by decide +kernel
theorem dX12_holds_83 : decode cX12_holds 83 = .ok (.iconst 0, 1) := by decide +kernel
theorem dX12_holds_84 : decode cX12_holds 84 = .ok (.istore_n 3, 1) := by decide +kernel
theorem dX12_holds_85 : decode cX12_holds 85 = .ok (.iload_n 3, 1) := by decide +kernel
theorem dX12_holds_86 : decode cX12_holds 86 = .ok (.aload_n 0, 1) := by decide +kernel
theorem dX12_holds_87 : decode cX12_holds 87 = .ok (.getfield 302, 3) := by decide +kernel
theorem dX12_holds_90 : decode cX12_holds 90 = .ok (.if_icmp .ge 27, 3) := by decide +kernel
theorem dX12_holds_93 : decode cX12_holds 93 = .ok (.iload_n 2, 1) := by decide +kernel
theorem dX12_holds_94 : decode cX12_holds 94 = .ok (.iload_n 3, 1) := by decide +kernel
theorem dX12_holds_95 : decode cX12_holds 95 = .ok (.invokestatic 227, 3) := by decide +kernel
theorem dX12_holds_98 : decode cX12_holds 98 = .ok (.ifCond .eq 13, 3) := by decide +kernel
theorem dX12_holds_101 : decode cX12_holds 101 = .ok (.aload_n 0, 1) := by decide +kernel
theorem dX12_holds_102 : decode cX12_holds 102 = .ok (.iload_n 3, 1) := by decide +kernel
theorem dX12_holds_103 : decode cX12_holds 103 = .ok (.invokevirtual 487, 3) := by decide +kernel
theorem dX12_holds_106 : decode cX12_holds 106 = .ok (.ifCond .ne 5, 3) := by decide +kernel
theorem dX12_holds_109 : decode cX12_holds 109 = .ok (.iconst 0, 1) := by decide +kernel
theorem dX12_holds_110 : decode cX12_holds 110 = .ok (.ireturn, 1) := by decide +kernel
theorem dX12_holds_111 : decode cX12_holds 111 = .ok (.iinc 3 1, 3) := by decide +kernel
theorem dX12_holds_114 : decode cX12_holds 114 = .ok (.goto (-29), 3) := by decide +kernel
theorem dX12_holds_117 : decode cX12_holds 117 = .ok (.aload_n 0, 1) := by decide +kernel
theorem dX12_holds_118 : decode cX12_holds 118 = .ok (.aload_n 0, 1) := by decide +kernel
theorem dX12_holds_119 : decode cX12_holds 119 = .ok (.getfield 52, 3) := by decide +kernel
theorem dX12_holds_122 : decode cX12_holds 122 = .ok (.iconst 0, 1) := by decide +kernel
theorem dX12_holds_123 : decode cX12_holds 123 = .ok (.iaload, 1) := by decide +kernel
theorem dX12_holds_124 : decode cX12_holds 124 = .ok (.invokevirtual 481, 3) := by decide +kernel
theorem dX12_holds_127 : decode cX12_holds 127 = .ok (.ifCond .eq 7, 3) := by decide +kernel
theorem dX12_holds_130 : decode cX12_holds 130 = .ok (.iconst 1, 1) := by decide +kernel
theorem dX12_holds_131 : decode cX12_holds 131 = .ok (.goto 4, 3) := by decide +kernel
theorem dX12_holds_134 : decode cX12_holds 134 = .ok (.iconst 0, 1) := by decide +kernel
theorem dX12_holds_135 : decode cX12_holds 135 = .ok (.ireturn, 1) := by decide +kernel
theorem dX12_isHeldBehind_0 : decode cX12_isHeldBehind 0 = .ok (.aload_n 0, 1) := by decide +kernel
theorem dX12_isHeldBehind_1 : decode cX12_isHeldBehind 1 = .ok (.getfield 52, 3) := by decide +kernel
theorem dX12_isHeldBehind_4 : decode cX12_isHeldBehind 4 = .ok (.iconst 0, 1) := by decide +kernel
theorem dX12_isHeldBehind_5 : decode cX12_isHeldBehind 5 = .ok (.iaload, 1) := by decide +kernel
theorem dX12_isHeldBehind_6 : decode cX12_isHeldBehind 6 = .ok (.iconst 1, 1) := by decide +kernel
theorem dX12_isHeldBehind_7 : decode cX12_isHeldBehind 7 = .ok (.iload_n 1, 1) := by decide +kernel
theorem dX12_isHeldBehind_8 : decode cX12_isHeldBehind 8 = .ok (.ishl, 1) := by decide +kernel
theorem dX12_isHeldBehind_9 : decode cX12_isHeldBehind 9 = .ok (.ior, 1) := by decide +kernel
theorem dX12_isHeldBehind_10 : decode cX12_isHeldBehind 10 = .ok (.istore_n 2, 1) := by decide +kernel
theorem dX12_isHeldBehind_11 : decode cX12_isHeldBehind 11 = .ok (.iload_n 2, 1) := by decide +kernel
theorem dX12_isHeldBehind_12 : decode cX12_isHeldBehind 12 = .ok (.aload_n 0, 1) := by decide +kernel
theorem dX12_isHeldBehind_13 : decode cX12_isHeldBehind 13 = .ok (.getfield 37, 3) := by decide +kernel
theorem dX12_isHeldBehind_16 : decode cX12_isHeldBehind 16 = .ok (.invokestatic 269, 3) := by decide +kernel
theorem dX12_isHeldBehind_19 : decode cX12_isHeldBehind 19 = .ok (.ifCond .ne 15, 3) := by decide +kernel
theorem dX12_isHeldBehind_22 : decode cX12_isHeldBehind 22 = .ok (.aload_n 0, 1) := by decide +kernel
theorem dX12_isHeldBehind_23 : decode cX12_isHeldBehind 23 = .ok (.iload_n 2, 1) := by decide +kernel
theorem dX12_isHeldBehind_24 : decode cX12_isHeldBehind 24 = .ok (.invokevirtual 481, 3) := by decide +kernel
theorem dX12_isHeldBehind_27 : decode cX12_isHeldBehind 27 = .ok (.ifCond .eq 7, 3) := by decide +kernel
theorem dX12_isHeldBehind_30 : decode cX12_isHeldBehind 30 = .ok (.iconst 1, 1) := by decide +kernel
theorem dX12_isHeldBehind_31 : decode cX12_isHeldBehind 31 = .ok (.goto 4, 3) := by decide +kernel
theorem dX12_isHeldBehind_34 : decode cX12_isHeldBehind 34 = .ok (.iconst 0, 1) := by decide +kernel
theorem dX12_isHeldBehind_35 : decode cX12_isHeldBehind 35 = .ok (.ireturn, 1) := by decide +kernel
theorem dX12_layAdvice_0 : decode cX12_layAdvice 0 = .ok (.aload_n 0, 1) := by decide +kernel
theorem dX12_layAdvice_1 : decode cX12_layAdvice 1 = .ok (.iconst (-1), 1) := by decide +kernel
theorem dX12_layAdvice_2 : decode cX12_layAdvice 2 = .ok (.putfield 429, 3) := by decide +kernel
theorem dX12_layAdvice_5 : decode cX12_layAdvice 5 = .ok (.iconst 0, 1) := by decide +kernel
theorem dX12_layAdvice_6 : decode cX12_layAdvice 6 = .ok (.istore 4, 2) := by decide +kernel
theorem dX12_layAdvice_8 : decode cX12_layAdvice 8 = .ok (.iload 4, 2) := by decide +kernel
theorem dX12_layAdvice_10 : decode cX12_layAdvice 10 = .ok (.bipush 10, 2) := by decide +kernel
theorem dX12_layAdvice_12 : decode cX12_layAdvice 12 = .ok (.aload_n 0, 1) := by decide +kernel
theorem dX12_layAdvice_13 : decode cX12_layAdvice 13 = .ok (.getfield 302, 3) := by decide +kernel
theorem dX12_layAdvice_16 : decode cX12_layAdvice 16 = .ok (.imul, 1) := by decide +kernel
theorem dX12_layAdvice_17 : decode cX12_layAdvice 17 = .ok (.if_icmp .ge 101, 3) := by decide +kernel
theorem dX12_layAdvice_20 : decode cX12_layAdvice 20 = .ok (.aload_n 0, 1) := by decide +kernel
theorem dX12_layAdvice_21 : decode cX12_layAdvice 21 = .ok (.iload_n 1, 1) := by decide +kernel
theorem dX12_layAdvice_22 : decode cX12_layAdvice 22 = .ok (.iload 4, 2) := by decide +kernel
theorem dX12_layAdvice_24 : decode cX12_layAdvice 24 = .ok (.invokevirtual 468, 3) := by decide +kernel
theorem dX12_layAdvice_27 : decode cX12_layAdvice 27 = .ok (.istore 5, 2) := by decide +kernel
theorem dX12_layAdvice_29 : decode cX12_layAdvice 29 = .ok (.iload 5, 2) := by decide +kernel
theorem dX12_layAdvice_31 : decode cX12_layAdvice 31 = .ok (.iconst (-1), 1) := by decide +kernel
theorem dX12_layAdvice_32 : decode cX12_layAdvice 32 = .ok (.if_icmp .ne 6, 3) := by decide +kernel
theorem dX12_layAdvice_35 : decode cX12_layAdvice 35 = .ok (.goto 77, 3) := by decide +kernel
theorem dX12_layAdvice_38 : decode cX12_layAdvice 38 = .ok (.aload_n 0, 1) := by decide +kernel
theorem dX12_layAdvice_39 : decode cX12_layAdvice 39 = .ok (.aload_n 0, 1) := by decide +kernel
theorem dX12_layAdvice_40 : decode cX12_layAdvice 40 = .ok (.iload_n 1, 1) := by decide +kernel
theorem dX12_layAdvice_41 : decode cX12_layAdvice 41 = .ok (.iload 5, 2) := by decide +kernel
theorem dX12_layAdvice_43 : decode cX12_layAdvice 43 = .ok (.invokevirtual 471, 3) := by decide +kernel
theorem dX12_layAdvice_46 : decode cX12_layAdvice 46 = .ok (.iload_n 2, 1) := by decide +kernel
theorem dX12_layAdvice_47 : decode cX12_layAdvice 47 = .ok (.iload_n 3, 1) := by decide +kernel
theorem dX12_layAdvice_48 : decode cX12_layAdvice 48 = .ok (.invokevirtual 367, 3) := by decide +kernel
theorem dX12_layAdvice_51 : decode cX12_layAdvice 51 = .ok (.invokestatic 333, 3) := by decide +kernel
theorem dX12_layAdvice_54 : decode cX12_layAdvice 54 = .ok (.istore 6, 2) := by decide +kernel
theorem dX12_layAdvice_56 : decode cX12_layAdvice 56 = .ok (.aload_n 0, 1) := by decide +kernel
theorem dX12_layAdvice_57 : decode cX12_layAdvice 57 = .ok (.getfield 429, 3) := by decide +kernel
theorem dX12_layAdvice_60 : decode cX12_layAdvice 60 = .ok (.iconst (-1), 1) := by decide +kernel
theorem dX12_layAdvice_61 : decode cX12_layAdvice 61 = .ok (.if_icmp .eq 39, 3) := by decide +kernel
theorem dX12_layAdvice_64 : decode cX12_layAdvice 64 = .ok (.iload 6, 2) := by decide +kernel
theorem dX12_layAdvice_66 : decode cX12_layAdvice 66 = .ok (.aload_n 0, 1) := by decide +kernel
theorem dX12_layAdvice_67 : decode cX12_layAdvice 67 = .ok (.getfield 478, 3) := by decide +kernel
theorem dX12_layAdvice_70 : decode cX12_layAdvice 70 = .ok (.if_icmp .gt 42, 3) := by decide +kernel
theorem dX12_layAdvice_73 : decode cX12_layAdvice 73 = .ok (.iload 6, 2) := by decide +kernel
theorem dX12_layAdvice_75 : decode cX12_layAdvice 75 = .ok (.aload_n 0, 1) := by decide +kernel
theorem dX12_layAdvice_76 : decode cX12_layAdvice 76 = .ok (.getfield 478, 3) := by decide +kernel
theorem dX12_layAdvice_79 : decode cX12_layAdvice 79 = .ok (.if_icmp .ne 21, 3) := by decide +kernel
theorem dX12_layAdvice_82 : decode cX12_layAdvice 82 = .ok (.iload 5, 2) := by decide +kernel
theorem dX12_layAdvice_84 : decode cX12_layAdvice 84 = .ok (.bipush 10, 2) := by decide +kernel
theorem dX12_layAdvice_86 : decode cX12_layAdvice 86 = .ok (.irem, 1) := by decide +kernel
theorem dX12_layAdvice_87 : decode cX12_layAdvice 87 = .ok (.aload_n 0, 1) := by decide +kernel
theorem dX12_layAdvice_88 : decode cX12_layAdvice 88 = .ok (.getfield 429, 3) := by decide +kernel
theorem dX12_layAdvice_91 : decode cX12_layAdvice 91 = .ok (.bipush 10, 2) := by decide +kernel
theorem dX12_layAdvice_93 : decode cX12_layAdvice 93 = .ok (.irem, 1) := by decide +kernel
theorem dX12_layAdvice_94 : decode cX12_layAdvice 94 = .ok (.if_icmp .gt 6, 3) := by decide +kernel
theorem dX12_layAdvice_97 : decode cX12_layAdvice 97 = .ok (.goto 15, 3) := by decide +kernel
theorem dX12_layAdvice_100 : decode cX12_layAdvice 100 = .ok (.aload_n 0, 1) := by decide +kernel
theorem dX12_layAdvice_101 : decode cX12_layAdvice 101 = .ok (.iload 5, 2) := by decide +kernel
theorem dX12_layAdvice_103 : decode cX12_layAdvice 103 = .ok (.putfield 429, 3) := by decide +kernel
theorem dX12_layAdvice_106 : decode cX12_layAdvice 106 = .ok (.aload_n 0, 1) := by decide +kernel
theorem dX12_layAdvice_107 : decode cX12_layAdvice 107 = .ok (.iload 6, 2) := by decide +kernel
theorem dX12_layAdvice_109 : decode cX12_layAdvice 109 = .ok (.putfield 478, 3) := by decide +kernel
theorem dX12_layAdvice_112 : decode cX12_layAdvice 112 = .ok (.iinc 4 1, 3) := by decide +kernel
theorem dX12_layAdvice_115 : decode cX12_layAdvice 115 = .ok (.goto (-107), 3) := by decide +kernel
theorem dX12_layAdvice_118 : decode cX12_layAdvice 118 = .ok (.return_, 1) := by decide +kernel
theorem dX12_listed_0 : decode cX12_listed 0 = .ok (.iconst 0, 1) := by decide +kernel
theorem dX12_listed_1 : decode cX12_listed 1 = .ok (.istore_n 3, 1) := by decide +kernel
theorem dX12_listed_2 : decode cX12_listed 2 = .ok (.iconst 0, 1) := by decide +kernel
theorem dX12_listed_3 : decode cX12_listed 3 = .ok (.istore 4, 2) := by decide +kernel
theorem dX12_listed_5 : decode cX12_listed 5 = .ok (.iload 4, 2) := by decide +kernel
theorem dX12_listed_7 : decode cX12_listed 7 = .ok (.bipush 10, 2) := by decide +kernel
theorem dX12_listed_9 : decode cX12_listed 9 = .ok (.aload_n 0, 1) := by decide +kernel
theorem dX12_listed_10 : decode cX12_listed 10 = .ok (.getfield 302, 3) := by decide +kernel
theorem dX12_listed_13 : decode cX12_listed 13 = .ok (.imul, 1) := by decide +kernel
theorem dX12_listed_14 : decode cX12_listed 14 = .ok (.if_icmp .ge 78, 3) := by decide +kernel
theorem dX12_listed_17 : decode cX12_listed 17 = .ok (.aload_n 0, 1) := by decide +kernel
theorem dX12_listed_18 : decode cX12_listed 18 = .ok (.aload_n 0, 1) := by decide +kernel
theorem dX12_listed_19 : decode cX12_listed 19 = .ok (.getfield 52, 3) := by decide +kernel
theorem dX12_listed_22 : decode cX12_listed 22 = .ok (.iconst 0, 1) := by decide +kernel
theorem dX12_listed_23 : decode cX12_listed 23 = .ok (.iaload, 1) := by decide +kernel
theorem dX12_listed_24 : decode cX12_listed 24 = .ok (.iload 4, 2) := by decide +kernel
theorem dX12_listed_26 : decode cX12_listed 26 = .ok (.invokevirtual 468, 3) := by decide +kernel
theorem dX12_listed_29 : decode cX12_listed 29 = .ok (.istore 5, 2) := by decide +kernel
theorem dX12_listed_31 : decode cX12_listed 31 = .ok (.iload 5, 2) := by decide +kernel
theorem dX12_listed_33 : decode cX12_listed 33 = .ok (.iconst (-1), 1) := by decide +kernel
theorem dX12_listed_34 : decode cX12_listed 34 = .ok (.if_icmp .eq 52, 3) := by decide +kernel
theorem dX12_listed_37 : decode cX12_listed 37 = .ok (.iload_n 2, 1) := by decide +kernel
theorem dX12_listed_38 : decode cX12_listed 38 = .ok (.ifCond .eq 37, 3) := by decide +kernel
theorem dX12_listed_41 : decode cX12_listed 41 = .ok (.aload_n 0, 1) := by decide +kernel
theorem dX12_listed_42 : decode cX12_listed 42 = .ok (.aload_n 0, 1) := by decide +kernel
theorem dX12_listed_43 : decode cX12_listed 43 = .ok (.aload_n 0, 1) := by decide +kernel
theorem dX12_listed_44 : decode cX12_listed 44 = .ok (.getfield 52, 3) := by decide +kernel
theorem dX12_listed_47 : decode cX12_listed 47 = .ok (.iconst 0, 1) := by decide +kernel
theorem dX12_listed_48 : decode cX12_listed 48 = .ok (.iaload, 1) := by decide +kernel
theorem dX12_listed_49 : decode cX12_listed 49 = .ok (.iload 5, 2) := by decide +kernel
theorem dX12_listed_51 : decode cX12_listed 51 = .ok (.invokevirtual 471, 3) := by decide +kernel
theorem dX12_listed_54 : decode cX12_listed 54 = .ok (.aload_n 0, 1) := by decide +kernel
theorem dX12_listed_55 : decode cX12_listed 55 = .ok (.getfield 52, 3) := by decide +kernel
theorem dX12_listed_58 : decode cX12_listed 58 = .ok (.iconst 1, 1) := by decide +kernel
theorem dX12_listed_59 : decode cX12_listed 59 = .ok (.iaload, 1) := by decide +kernel
theorem dX12_listed_60 : decode cX12_listed 60 = .ok (.aload_n 0, 1) := by decide +kernel
theorem dX12_listed_61 : decode cX12_listed 61 = .ok (.getfield 52, 3) := by decide +kernel
theorem dX12_listed_64 : decode cX12_listed 64 = .ok (.iconst 4, 1) := by decide +kernel
theorem dX12_listed_65 : decode cX12_listed 65 = .ok (.iaload, 1) := by decide +kernel
theorem dX12_listed_66 : decode cX12_listed 66 = .ok (.invokevirtual 367, 3) := by decide +kernel
theorem dX12_listed_69 : decode cX12_listed 69 = .ok (.ifCond .eq 6, 3) := by decide +kernel
theorem dX12_listed_72 : decode cX12_listed 72 = .ok (.goto 14, 3) := by decide +kernel
theorem dX12_listed_75 : decode cX12_listed 75 = .ok (.iload_n 3, 1) := by decide +kernel
theorem dX12_listed_76 : decode cX12_listed 76 = .ok (.iload_n 1, 1) := by decide +kernel
theorem dX12_listed_77 : decode cX12_listed 77 = .ok (.if_icmp .ne 6, 3) := by decide +kernel
theorem dX12_listed_80 : decode cX12_listed 80 = .ok (.iload 5, 2) := by decide +kernel
theorem dX12_listed_82 : decode cX12_listed 82 = .ok (.ireturn, 1) := by decide +kernel
theorem dX12_listed_83 : decode cX12_listed 83 = .ok (.iinc 3 1, 3) := by decide +kernel
theorem dX12_listed_86 : decode cX12_listed 86 = .ok (.iinc 4 1, 3) := by decide +kernel
theorem dX12_listed_89 : decode cX12_listed 89 = .ok (.goto (-84), 3) := by decide +kernel
theorem dX12_listed_92 : decode cX12_listed 92 = .ok (.iload_n 1, 1) := by decide +kernel
theorem dX12_listed_93 : decode cX12_listed 93 = .ok (.iconst (-1), 1) := by decide +kernel
theorem dX12_listed_94 : decode cX12_listed 94 = .ok (.if_icmp .ne 7, 3) := by decide +kernel
theorem dX12_listed_97 : decode cX12_listed 97 = .ok (.iload_n 3, 1) := by decide +kernel
theorem dX12_listed_98 : decode cX12_listed 98 = .ok (.goto 4, 3) := by decide +kernel
theorem dX12_listed_101 : decode cX12_listed 101 = .ok (.iconst (-1), 1) := by decide +kernel
theorem dX12_listed_102 : decode cX12_listed 102 = .ok (.ireturn, 1) := by decide +kernel
theorem dX12_mole_19 : decode cX12_mole 19 = .ok (.aload_n 0, 1) := by decide +kernel
theorem dX12_mole_20 : decode cX12_mole 20 = .ok (.invokevirtual 379, 3) := by decide +kernel
theorem dX12_mole_23 : decode cX12_mole 23 = .ok (.aload_n 0, 1) := by decide +kernel
theorem dX12_mole_24 : decode cX12_mole 24 = .ok (.getfield 52, 3) := by decide +kernel
theorem dX12_mole_27 : decode cX12_mole 27 = .ok (.iload_n 1, 1) := by decide +kernel
theorem dX12_mole_28 : decode cX12_mole 28 = .ok (.invokestatic 405, 3) := by decide +kernel
theorem dX12_mole_31 : decode cX12_mole 31 = .ok (.aload_n 0, 1) := by decide +kernel
theorem dX12_mole_32 : decode cX12_mole 32 = .ok (.getfield 52, 3) := by decide +kernel
theorem dX12_mole_35 : decode cX12_mole 35 = .ok (.iconst 0, 1) := by decide +kernel
theorem dX12_mole_36 : decode cX12_mole 36 = .ok (.iaload, 1) := by decide +kernel
theorem dX12_mole_37 : decode cX12_mole 37 = .ok (.invokestatic 333, 3) := by decide +kernel
theorem dX12_mole_40 : decode cX12_mole 40 = .ok (.ireturn, 1) := by decide +kernel
theorem dX12_sit_18 : decode cX12_sit 18 = .ok (.aload_n 0, 1) := by decide +kernel
theorem dX12_sit_19 : decode cX12_sit 19 = .ok (.invokevirtual 379, 3) := by decide +kernel
theorem dX12_sit_22 : decode cX12_sit 22 = .ok (.aload_n 0, 1) := by decide +kernel
theorem dX12_sit_23 : decode cX12_sit 23 = .ok (.getfield 52, 3) := by decide +kernel
theorem dX12_sit_26 : decode cX12_sit 26 = .ok (.invokestatic 398, 3) := by decide +kernel
theorem dX12_sit_29 : decode cX12_sit 29 = .ok (.ireturn, 1) := by decide +kernel
theorem wl_8_98 : (.methodLink RX12 379 yX12_remember : Cond) ∈ sg_tbl := tb_8 _ (List.mem_of_getElem? (i := 98) (by decide +kernel)) (by decide +kernel)
theorem wl_8_102 : (.methodLink RX12 382 yX12_grows : Cond) ∈ sg_tbl := tb_8 _ (List.mem_of_getElem? (i := 102) (by decide +kernel)) (by decide +kernel)
theorem wl_8_125 : (.methodLink RX12 394 yX12_mows : Cond) ∈ sg_tbl := tb_8 _ (List.mem_of_getElem? (i := 125) (by decide +kernel)) (by decide +kernel)
theorem wl_8_133 : (.methodLink RX12 398 yX12_sits : Cond) ∈ sg_tbl := tb_8 _ (List.mem_of_getElem? (i := 133) (by decide +kernel)) (by decide +kernel)
theorem wl_8_144 : (.methodLink RX12 405 yX12_digs : Cond) ∈ sg_tbl := tb_8 _ (List.mem_of_getElem? (i := 144) (by decide +kernel)) (by decide +kernel)
theorem wl_8_173 : (.methodLink RX12 468 yX12_codeOf : Cond) ∈ sg_tbl := tb_8 _ (List.mem_of_getElem? (i := 173) (by decide +kernel)) (by decide +kernel)
theorem wl_8_177 : (.methodLink RX12 471 yX12_without : Cond) ∈ sg_tbl := tb_8 _ (List.mem_of_getElem? (i := 177) (by decide +kernel)) (by decide +kernel)
theorem wl_9_3 : (.methodLink RX12 474 yX12_listed : Cond) ∈ sg_tbl := tb_9 _ (List.mem_of_getElem? (i := 3) (by decide +kernel)) (by decide +kernel)
theorem wl_6_220 : (.fieldLink RX12 429 "LawnAheadModel" "adviceCode" "I" : Cond) ∈ sg_tbl := tb_6 _ (List.mem_of_getElem? (i := 220) (by decide +kernel)) (by decide +kernel)
theorem wl_6_221 : (.fieldLink RX12 478 "LawnAheadModel" "adviceThreats" "I" : Cond) ∈ sg_tbl := tb_6 _ (List.mem_of_getElem? (i := 221) (by decide +kernel)) (by decide +kernel)
theorem wl_8_169 : (.methodLink RX12 425 yX12_layAdvice : Cond) ∈ sg_tbl := tb_8 _ (List.mem_of_getElem? (i := 169) (by decide +kernel)) (by decide +kernel)
theorem wl_9_27 : (.methodLink RX12 481 yX12_canHold : Cond) ∈ sg_tbl := tb_9 _ (List.mem_of_getElem? (i := 27) (by decide +kernel)) (by decide +kernel)
theorem wl_9_19 : (.methodLink RX12 484 yX12_isNight : Cond) ∈ sg_tbl := tb_9 _ (List.mem_of_getElem? (i := 19) (by decide +kernel)) (by decide +kernel)
theorem wl_9_23 : (.methodLink RX12 487 yX12_isHeldBehind : Cond) ∈ sg_tbl := tb_9 _ (List.mem_of_getElem? (i := 23) (by decide +kernel)) (by decide +kernel)
theorem wl_9_6 : (.code yX12_listed cX12_listed 6 (some .int) : Cond) ∈ sg_tbl := tb_9 _ (List.mem_of_getElem? (i := 6) (by decide +kernel)) (by decide +kernel)
theorem wl_9_5 : (.instanceMethod yX12_listed : Cond) ∈ sg_tbl := tb_9 _ (List.mem_of_getElem? (i := 5) (by decide +kernel)) (by decide +kernel)
theorem wl_0_97 : (.selects RX12 yX12_listed yX12_listed : Cond) ∈ sg_tbl := tb_0 _ (List.mem_of_getElem? (i := 97) (by decide +kernel)) (by decide +kernel)
theorem wl_8_172 : (.code yX12_layAdvice cX12_layAdvice 7 none : Cond) ∈ sg_tbl := tb_8 _ (List.mem_of_getElem? (i := 172) (by decide +kernel)) (by decide +kernel)
theorem wl_8_171 : (.instanceMethod yX12_layAdvice : Cond) ∈ sg_tbl := tb_8 _ (List.mem_of_getElem? (i := 171) (by decide +kernel)) (by decide +kernel)
theorem wl_0_88 : (.selects RX12 yX12_layAdvice yX12_layAdvice : Cond) ∈ sg_tbl := tb_0 _ (List.mem_of_getElem? (i := 88) (by decide +kernel)) (by decide +kernel)
theorem wl_9_30 : (.code yX12_canHold cX12_canHold 5 (some .boolean) : Cond) ∈ sg_tbl := tb_9 _ (List.mem_of_getElem? (i := 30) (by decide +kernel)) (by decide +kernel)
theorem wl_9_29 : (.instanceMethod yX12_canHold : Cond) ∈ sg_tbl := tb_9 _ (List.mem_of_getElem? (i := 29) (by decide +kernel)) (by decide +kernel)
theorem wl_0_100 : (.selects RX12 yX12_canHold yX12_canHold : Cond) ∈ sg_tbl := tb_0 _ (List.mem_of_getElem? (i := 100) (by decide +kernel)) (by decide +kernel)
theorem wl_9_26 : (.code yX12_isHeldBehind cX12_isHeldBehind 3 (some .boolean) : Cond) ∈ sg_tbl := tb_9 _ (List.mem_of_getElem? (i := 26) (by decide +kernel)) (by decide +kernel)
theorem wl_9_25 : (.instanceMethod yX12_isHeldBehind : Cond) ∈ sg_tbl := tb_9 _ (List.mem_of_getElem? (i := 25) (by decide +kernel)) (by decide +kernel)
theorem wl_0_99 : (.selects RX12 yX12_isHeldBehind yX12_isHeldBehind : Cond) ∈ sg_tbl := tb_0 _ (List.mem_of_getElem? (i := 99) (by decide +kernel)) (by decide +kernel)
theorem wl_9_18 : (.code yX12_holds cX12_holds 4 (some .int) : Cond) ∈ sg_tbl := tb_9 _ (List.mem_of_getElem? (i := 18) (by decide +kernel)) (by decide +kernel)
theorem wl_9_16 : (.instanceMethod yX12_holds : Cond) ∈ sg_tbl := tb_9 _ (List.mem_of_getElem? (i := 16) (by decide +kernel)) (by decide +kernel)
theorem wl_9_17 : (.selects RX12 yX12_holds yX12_holds : Cond) ∈ sg_tbl := tb_9 _ (List.mem_of_getElem? (i := 17) (by decide +kernel)) (by decide +kernel)
section
variable {p : Program} {l : Launch} {e : Env} {R : Room} {s : State} {m : MethodId} {args : Array Value} {below : List Frame} {meth : Method} {c : Code} {H : Heap} {locs : List Loc} {cells slots : Nat} {Q : State → Prop} {cc : ByteArray} {nL pc : Nat} {ls : Array Slot} {rest : List Value} {own : String} {D : va_G} {A : Nat → Prop} {tys : List (ClassId × FieldType)} {ad ks : List Nat} {P : sgPm} {H0 : Heap} {index : Nat} {base : Nat} {st0 : List Value} {a : Nat}
theorem gf_X12_42   (X : CallFix p m c cc nL s args sg_tbl own) (hK : va_K D vwCl tys s) (hG : sgG (KT P) D vwCl A tys ad ks H) (ha : isK ad ks 12 a) (hl : Cond.fieldLink own index "LawnAheadModel" "adviceCode" "I" ∈ sg_tbl) (hdg : decode cc pc = .ok (.getfield index, 3)) (kk : ∀ x : Int32, iv (-2147483648) 2147483647 x → fld D H 12 a 42 (.int x) → W p l e R s m args below meth c H locs cells slots Q (F0 m (pc + 3) ls (.int x :: rest))) : W p l e R s m args below meth c H locs cells slots Q (F0 m pc ls (.ref a :: rest)) :=
  sg_get X hK hG ha (k := 12) (ci := 12) rfl (C := RX12) (T := TX12) (N := 53) rfl inL_X12 42 (by decide) rfl hl (fun _ h => h) hdg (fun v hv hf => by obtain ⟨x, rfl, hx⟩ := hv; exact kk x hx hf)
theorem gf_X12_43   (X : CallFix p m c cc nL s args sg_tbl own) (hK : va_K D vwCl tys s) (hG : sgG (KT P) D vwCl A tys ad ks H) (ha : isK ad ks 12 a) (hl : Cond.fieldLink own index "LawnAheadModel" "adviceThreats" "I" ∈ sg_tbl) (hdg : decode cc pc = .ok (.getfield index, 3)) (kk : ∀ x : Int32, iv (-2147483648) 2147483647 x → fld D H 12 a 43 (.int x) → W p l e R s m args below meth c H locs cells slots Q (F0 m (pc + 3) ls (.int x :: rest))) : W p l e R s m args below meth c H locs cells slots Q (F0 m pc ls (.ref a :: rest)) :=
  sg_get X hK hG ha (k := 12) (ci := 12) rfl (C := RX12) (T := TX12) (N := 53) rfl inL_X12 43 (by decide) rfl hl (fun _ h => h) hdg (fun v hv hf => by obtain ⟨x, rfl, hx⟩ := hv; exact kk x hx hf)
theorem gg_X12_42   (X : CallFix p m c cc nL s args sg_tbl own) (hK : va_K D vwCl tys s) (hG : sgG (KT P) D vwCl A tys ad ks H) (ha : isK ad ks 12 a) (hl : Cond.fieldLink own index "LawnAheadModel" "adviceCode" "I" ∈ sg_tbl) {v : Value} (hf : fld D H 12 a 42 v) (hdg : decode cc pc = .ok (.getfield index, 3)) (kk : W p l e R s m args below meth c H locs cells slots Q (F0 m (pc + 3) ls (v :: rest))) : W p l e R s m args below meth c H locs cells slots Q (F0 m pc ls (.ref a :: rest)) :=
  sg_getf X hK hG ha (k := 12) (ci := 12) rfl (C := RX12) (T := TX12) (N := 53) rfl inL_X12 42 (by decide) (show 42 < 53 by decide) hl (fun _ h => h) hf hdg kk
theorem gg_X12_43   (X : CallFix p m c cc nL s args sg_tbl own) (hK : va_K D vwCl tys s) (hG : sgG (KT P) D vwCl A tys ad ks H) (ha : isK ad ks 12 a) (hl : Cond.fieldLink own index "LawnAheadModel" "adviceThreats" "I" ∈ sg_tbl) {v : Value} (hf : fld D H 12 a 43 v) (hdg : decode cc pc = .ok (.getfield index, 3)) (kk : W p l e R s m args below meth c H locs cells slots Q (F0 m (pc + 3) ls (v :: rest))) : W p l e R s m args below meth c H locs cells slots Q (F0 m pc ls (.ref a :: rest)) :=
  sg_getf X hK hG ha (k := 12) (ci := 12) rfl (C := RX12) (T := TX12) (N := 53) rfl inL_X12 43 (by decide) (show 43 < 53 by decide) hl (fun _ h => h) hf hdg kk
theorem pf_X12_42  {x : Int32}  (X : CallFix p m c cc nL s args sg_tbl own) (hK : va_K D vwCl tys s) (hG : sgG (KT P) D vwCl A tys ad ks H) (hS : va_S A H0 H locs) (ha : isK ad ks 12 a) (hl : Cond.fieldLink own index "LawnAheadModel" "adviceCode" "I" ∈ sg_tbl) (hv : okV ad ks (.inl ((-2147483648), 2147483647)) (.int x)) (hdg : decode cc pc = .ok (.putfield index, 3)) (kk : ∀ (H1 : Heap) (locs1 : List Loc), sgG (KT P) D vwCl A tys ad ks H1 → va_S A H0 H1 locs1 → fld D H1 12 a 42 (.int x) → sgFr (KT P) D vwCl ad ks H H1 (fun a' j' => a' = a ∧ j' = 42) → W p l e R s m args below meth c H1 locs1 cells slots Q (F0 m (pc + 3) ls rest)) : W p l e R s m args below meth c H locs cells slots Q (F0 m pc ls (.int x :: .ref a :: rest)) :=
  sg_put X hK hG hS ha (k := 12) (ci := 12) rfl (C := RX12) (T := TX12) (N := 53) rfl inL_X12 tyX12 tyX12_ok nmX12 42 (by decide) rfl hl (fun _ h => h) rfl (ty := .int) rfl rfl rfl hv hdg kk
theorem pf_X12_43  {x : Int32}  (X : CallFix p m c cc nL s args sg_tbl own) (hK : va_K D vwCl tys s) (hG : sgG (KT P) D vwCl A tys ad ks H) (hS : va_S A H0 H locs) (ha : isK ad ks 12 a) (hl : Cond.fieldLink own index "LawnAheadModel" "adviceThreats" "I" ∈ sg_tbl) (hv : okV ad ks (.inl ((-2147483648), 2147483647)) (.int x)) (hdg : decode cc pc = .ok (.putfield index, 3)) (kk : ∀ (H1 : Heap) (locs1 : List Loc), sgG (KT P) D vwCl A tys ad ks H1 → va_S A H0 H1 locs1 → fld D H1 12 a 43 (.int x) → sgFr (KT P) D vwCl ad ks H H1 (fun a' j' => a' = a ∧ j' = 43) → W p l e R s m args below meth c H1 locs1 cells slots Q (F0 m (pc + 3) ls rest)) : W p l e R s m args below meth c H locs cells slots Q (F0 m pc ls (.int x :: .ref a :: rest)) :=
  sg_put X hK hG hS ha (k := 12) (ci := 12) rfl (C := RX12) (T := TX12) (N := 53) rfl inL_X12 tyX12 tyX12_ok nmX12 43 (by decide) rfl hl (fun _ h => h) rfl (ty := .int) rfl rfl rfl hv hdg kk
set_option maxHeartbeats 8000000 in
set_option maxRecDepth 100000 in
theorem m_X12_sits_1_t (l : Launch) {D : va_G} {base : Nat} {tys : List (ClassId × FieldType)} {ad ks : List Nat} {P : sgPm} (a0 : Nat) (h0 : isK ad ks 55 a0) (hN : sgN P + 1 ≤ 1000000000) : Met l yX12_sits (Cond.code yX12_sits cX12_sits 2 (some .int) :: sg_tbl) ({ frames := 1, cells := 0, slots := 0, locals := 25 }) (va_Pc [.ref a0] (sgB (KT P) D vwCl base tys ad ks)) (va_Qi (fun r (u : Int32) => u = r ∧ (fun r : Int32 => True) r) (fun u t => sgB (KT (sgAt P (sgN P + 1))) D vwCl base tys ad ks t) (fun q : Nat => base ≤ q)) 0 0 (fun q : Nat => base ≤ q) := by
  refine sg_ofW (by decide +kernel) (Nat.le_of_ble_eq_true rfl) (fun p e s m below meth c X hr hlk hb hK hC hG ls hl => ?_)
  have hS : va_S (fun q : Nat => base ≤ q) s.heap s.heap [] := va_S.rf
  have hl : lv_has ls 2 [(0, .ref a0)] := hl
  refine lv_aload_n X.1 X.2.1 dX12_sits_0 rfl (lv_at hl 0 rfl) ?_
  refine lv_iconst (v := 2) X.1 X.2.1 dX12_sits_1 (by decide +kernel) ?_
  refine al_55 X hK hG h0 (iv_vpin (iv_c 2 (a := 2) (b := 2) (by decide +kernel)) (by decide +kernel)) dX12_sits_2 (fun f1 hf1 => ?_)
  have of1 := hf1
  have hf1 : iv 0 1 f1 := sg_sp_now hf1 (iv_c 2 (a := 2) (b := 2) (by decide +kernel)) (by decide +kernel) rfl
  refine lv_istore_n (lv' := [(1, .int f1), (0, .ref a0)]) X.1 X.2.1 dX12_sits_3 rfl hl (by decide) rfl (fun ls hl => ?_)
  refine lv_aload_n X.1 X.2.1 dX12_sits_4 rfl (lv_at hl 1 rfl) ?_
  refine lv_iconst (v := 5) X.1 X.2.1 dX12_sits_5 (by decide +kernel) ?_
  refine lv_iload_n X.1 X.2.1 dX12_sits_6 rfl (lv_at hl 0 rfl) ?_
  refine lv_iadd X.1 X.2.1 dX12_sits_7 ?_
  refine lv_topi (fun f2 ef2 => ?_)
  refine lv_dup2_11 X.1 X.2.1 dX12_sits_8 rfl rfl ?_
  refine al_55 X hK hG h0 (iv_vpin (iv_add (a' := 5) (b' := 6) ef2 (iv_c 5 (a := 5) (b := 5) (by decide +kernel)) hf1 (by decide +kernel)) (by decide +kernel)) dX12_sits_9 (fun f3 hf3 => ?_)
  have of3 := hf3
  have hf3 : iv (-2147483648) 2147483647 f3 := sg_spa_now hf3
  refine lv_iconst (v := 1) X.1 X.2.1 dX12_sits_10 (by decide +kernel) ?_
  refine lv_iadd X.1 X.2.1 dX12_sits_11 ?_
  refine lv_topi (fun f4 ef4 => ?_)
  refine as_55 X hK hG hS h0 (iv_vpin (iv_add (a' := 5) (b' := 6) ef2 (iv_c 5 (a := 5) (b := 5) (by decide +kernel)) hf1 (by decide +kernel)) (by decide +kernel)) (sg_off_now (iv_add (a' := 5) (b' := 6) ef2 (iv_c 5 (a := 5) (b := 5) (by decide +kernel)) hf1 (by decide +kernel)) (by decide +kernel)) dX12_sits_12 (fun H locs hG hS ru5 => ?_)
  refine lv_aload_n X.1 X.2.1 dX12_sits_13 rfl (lv_at hl 1 rfl) ?_
  refine lv_iconst (v := 4) X.1 X.2.1 dX12_sits_14 (by decide +kernel) ?_
  refine lv_dup2_11 X.1 X.2.1 dX12_sits_15 rfl rfl ?_
  refine al_55 X hK hG h0 (iv_vpin (iv_c 4 (a := 4) (b := 4) (by decide +kernel)) (by decide +kernel)) dX12_sits_16 (fun f6 hf6 => ?_)
  have of6 := hf6
  have hf6 : iv 0 1000000000 f6 := sg_day hf6 (iv_c 4 (a := 4) (b := 4) (by decide +kernel))
  refine lv_iload_n X.1 X.2.1 dX12_sits_17 rfl (lv_at hl 0 rfl) ?_
  refine lv_iadd X.1 X.2.1 dX12_sits_18 ?_
  refine lv_topi (fun f7 ef7 => ?_)
  have hG : sgG (KT (sgAt P ((sgN P) + 1))) D vwCl _ tys ad ks _ := sg_moreN (P := P) (show (sgN P) ≤ ((sgN P) + 1) from by omega) hG
  refine as_55 X hK hG hS h0 (iv_vpin (iv_c 4 (a := 4) (b := 4) (by decide +kernel)) (by decide +kernel)) (sg_dayup (N := (sgN P)) (n' := ((sgN P) + 1)) of6 (iv_c 4 (a := 4) (b := 4) (by decide +kernel)) (iv_c 4 (a := 4) (b := 4) (by decide +kernel)) hf1 ef7 (by omega) (by omega)) dX12_sits_19 (fun H locs hG hS ru8 => ?_)
  refine lv_aload_n X.1 X.2.1 dX12_sits_20 rfl (lv_at hl 1 rfl) ?_
  refine lv_iconst (v := 2) X.1 X.2.1 dX12_sits_21 (by decide +kernel) ?_
  refine lv_iconst (v := 1) X.1 X.2.1 dX12_sits_22 (by decide +kernel) ?_
  refine lv_iload_n X.1 X.2.1 dX12_sits_23 rfl (lv_at hl 0 rfl) ?_
  refine lv_isub X.1 X.2.1 dX12_sits_24 ?_
  refine lv_topi (fun f9 ef9 => ?_)
  refine as_55 X hK hG hS h0 (iv_vpin (iv_c 2 (a := 2) (b := 2) (by decide +kernel)) (by decide +kernel)) (sg_at_now (a := 0) (b := 1) (iv_c 2 (a := 2) (b := 2) (by decide +kernel)) (by decide +kernel) rfl (iv_sub (a' := 0) (b' := 1) ef9 (iv_c 1 (a := 1) (b := 1) (by decide +kernel)) hf1 (by decide +kernel))) dX12_sits_25 (fun H locs hG hS ru10 => ?_)
  refine lv_aload_n X.1 X.2.1 dX12_sits_26 rfl (lv_at hl 1 rfl) ?_
  refine lv_iconst (v := 3) X.1 X.2.1 dX12_sits_27 (by decide +kernel) ?_
  refine lv_iconst (v := (-1)) X.1 X.2.1 dX12_sits_28 (by decide +kernel) ?_
  refine lv_iconst (v := 0) X.1 X.2.1 dX12_sits_29 (by decide +kernel) ?_
  refine lv_iconst (v := 0) X.1 X.2.1 dX12_sits_30 (by decide +kernel) ?_
  refine ca_X12_writes_t X hK hG hC hS hb a0 h0 3 (-1) 0 0 wl_8_110 hl.1 (rest := []) rfl (Nat.le_of_ble_eq_true rfl) ⟨Nat.le_of_ble_eq_true rfl, Nat.le_of_ble_eq_true rfl⟩ ⟨Nat.le_of_ble_eq_true rfl, Nat.le_of_ble_eq_true rfl⟩ dX12_sits_31 (fun H locs hG hS => ?_)
  refine lv_aload_n X.1 X.2.1 dX12_sits_34 rfl (lv_at hl 1 rfl) ?_
  refine lv_iconst (v := 5) X.1 X.2.1 dX12_sits_35 (by decide +kernel) ?_
  refine lv_iload_n X.1 X.2.1 dX12_sits_36 rfl (lv_at hl 0 rfl) ?_
  refine lv_iadd X.1 X.2.1 dX12_sits_37 ?_
  refine lv_topi (fun f12 ef12 => ?_)
  refine al_55 X hK hG h0 (iv_vpin (iv_add (a' := 5) (b' := 6) ef12 (iv_c 5 (a := 5) (b := 5) (by decide +kernel)) hf1 (by decide +kernel)) (by decide +kernel)) dX12_sits_38 (fun f13 hf13 => ?_)
  have of13 := hf13
  have hf13 : iv (-2147483648) 2147483647 f13 := sg_spa_now hf13
  have bq14 : 0 ≤ f1.toInt ∧ f1.toInt ≤ 1 := hf1
  have hG : sgG (KT (sgAt P (sgN P + 1))) D vwCl _ tys ad ks _ := sg_moreN (P := (sgAt P ((sgN P) + 1))) (show ((sgN P) + 1) ≤ (sgN P + 1) from by omega) hG
  exact sg_iret2 X hr hlk hS trivial (fun t ht hW => sg_post hb hK hC hG hS ht hW) dX12_sits_39

theorem ca_X12_sits_1_t   (X : CallFix p m c cc nL s args sg_tbl own) (hK : va_K D vwCl tys s) (hG : sgG (KT P) D vwCl (fun q : Nat => base ≤ q) tys ad ks H) (hC : sgC base s) (hS : va_S (fun q : Nat => base ≤ q) s.heap H locs) (hb : base ≤ s.heap.size) (a0 : Nat) (h0 : isK ad ks 55 a0) (hN : sgN P + 1 ≤ 1000000000) (hl : Cond.methodLink own index yX12_sits ∈ sg_tbl) (hsize : ls.size = nL) (hst : st0 = [.ref a0].reverse ++ rest) (hW : (rest.map fun v => v.category).sum ≤ 8) (hR : 2 ≤ R.frames ∧ 46 ≤ R.locals) (hf : cells ≤ R.cells ∧ slots ≤ R.slots) (hdg : decode cc pc = .ok (.invokestatic index, 3)) (kk : ∀ (r : Int32) (t : State) (H1 : Heap) (locs1 : List Loc), t.heap = H1 → (fun r : Int32 => True) r → (sgB (KT (sgAt P (sgN P + 1))) D vwCl base tys ad ks t) → va_S (fun q : Nat => base ≤ q) s.heap H1 locs1 → W p l e R s m args below meth c H1 locs1 cells slots Q (F0 m (pc + 3) ls (.int r :: rest))) : W p l e R s m args below meth c H locs cells slots Q (F0 m pc ls st0) :=
  sg_callS2i X hK hG hC hS hb (m_X12_sits_1_t l a0 h0 hN) wl_8_135 wl_1_13 wl_8_134 (n := 1) (by decide +kernel) rfl rfl rfl hl hsize hst hW hR hf hdg kk

set_option maxHeartbeats 8000000 in
set_option maxRecDepth 100000 in
theorem m_X12_digs_1_t (l : Launch) {D : va_G} {base : Nat} {tys : List (ClassId × FieldType)} {ad ks : List Nat} {P : sgPm} (a0 : Nat) (h0 : isK ad ks 55 a0) (x1 : Int32) : sgMv l (KT P) D vwCl base tys ad ks yX12_digs cX12_digs 2 none ({ frames := 1, cells := 0, slots := 0, locals := 25 }) [.ref a0, .int x1] := by
  refine sg_ofW (by decide +kernel) (Nat.le_of_ble_eq_true rfl) (fun p e s m below meth c X hr hlk hb hK hC hG ls hl => ?_)
  have hS : va_S (fun q : Nat => base ≤ q) s.heap s.heap [] := va_S.rf
  have hl : lv_has ls 2 [(0, .ref a0), (1, .int x1)] := hl
  refine lv_aload_n X.1 X.2.1 dX12_digs_0 rfl (lv_at hl 0 rfl) ?_
  refine lv_iconst (v := 1) X.1 X.2.1 dX12_digs_1 (by decide +kernel) ?_
  refine lv_dup2_11 X.1 X.2.1 dX12_digs_2 rfl rfl ?_
  refine al_55 X hK hG h0 (iv_vpin (iv_c 1 (a := 1) (b := 1) (by decide +kernel)) (by decide +kernel)) dX12_digs_3 (fun f1 hf1 => ?_)
  have of1 := hf1
  have hf1 : iv (-2147483648) 2147483647 f1 := sg_sp_now hf1 (iv_c 1 (a := 1) (b := 1) (by decide +kernel)) (by decide +kernel) rfl
  refine lv_iconst (v := 1) X.1 X.2.1 dX12_digs_4 (by decide +kernel) ?_
  refine lv_iload_n X.1 X.2.1 dX12_digs_5 rfl (lv_at hl 1 rfl) ?_
  refine lv_ishl X.1 X.2.1 dX12_digs_6 ?_
  refine lv_topi (fun f2 ef2 => ?_)
  refine lv_ior X.1 X.2.1 dX12_digs_7 ?_
  refine lv_topi (fun f3 ef3 => ?_)
  refine as_55 X hK hG hS h0 (iv_vpin (iv_c 1 (a := 1) (b := 1) (by decide +kernel)) (by decide +kernel)) (sg_at_now (a := (-2147483648)) (b := 2147483647) (iv_c 1 (a := 1) (b := 1) (by decide +kernel)) (by decide +kernel) rfl (iv_top f3)) dX12_digs_8 (fun H locs hG hS ru4 => ?_)
  refine lv_aload_n X.1 X.2.1 dX12_digs_9 rfl (lv_at hl 0 rfl) ?_
  refine lv_iconst (v := 0) X.1 X.2.1 dX12_digs_10 (by decide +kernel) ?_
  refine lv_dup2_11 X.1 X.2.1 dX12_digs_11 rfl rfl ?_
  refine al_55 X hK hG h0 (iv_vpin (iv_c 0 (a := 0) (b := 0) (by decide +kernel)) (by decide +kernel)) dX12_digs_12 (fun f5 hf5 => ?_)
  have of5 := hf5
  have hf5 : iv (-2147483648) 2147483647 f5 := sg_sp_now hf5 (iv_c 0 (a := 0) (b := 0) (by decide +kernel)) (by decide +kernel) rfl
  refine lv_iconst (v := 1) X.1 X.2.1 dX12_digs_13 (by decide +kernel) ?_
  refine lv_iload_n X.1 X.2.1 dX12_digs_14 rfl (lv_at hl 1 rfl) ?_
  refine lv_ishl X.1 X.2.1 dX12_digs_15 ?_
  refine lv_topi (fun f6 ef6 => ?_)
  refine lv_iconst (v := (-1)) X.1 X.2.1 dX12_digs_16 (by decide +kernel) ?_
  refine lv_ixor X.1 X.2.1 dX12_digs_17 ?_
  refine lv_topi (fun f7 ef7 => ?_)
  refine lv_iand X.1 X.2.1 dX12_digs_18 ?_
  refine lv_topi (fun f8 ef8 => ?_)
  refine as_55 X hK hG hS h0 (iv_vpin (iv_c 0 (a := 0) (b := 0) (by decide +kernel)) (by decide +kernel)) (sg_at_now (a := (-2147483648)) (b := 2147483647) (iv_c 0 (a := 0) (b := 0) (by decide +kernel)) (by decide +kernel) rfl (iv_top f8)) dX12_digs_19 (fun H locs hG hS ru9 => ?_)
  refine lv_aload_n X.1 X.2.1 dX12_digs_20 rfl (lv_at hl 0 rfl) ?_
  refine lv_iconst (v := 2) X.1 X.2.1 dX12_digs_21 (by decide +kernel) ?_
  refine lv_iload_n X.1 X.2.1 dX12_digs_22 rfl (lv_at hl 1 rfl) ?_
  refine lv_iconst (v := 0) X.1 X.2.1 dX12_digs_23 (by decide +kernel) ?_
  refine lv_iconst (v := 0) X.1 X.2.1 dX12_digs_24 (by decide +kernel) ?_
  refine ca_X12_writes_t X hK hG hC hS hb a0 h0 2 x1 0 0 wl_8_110 hl.1 (rest := []) rfl (Nat.le_of_ble_eq_true rfl) ⟨Nat.le_of_ble_eq_true rfl, Nat.le_of_ble_eq_true rfl⟩ ⟨Nat.le_of_ble_eq_true rfl, Nat.le_of_ble_eq_true rfl⟩ dX12_digs_25 (fun H locs hG hS => ?_)
  exact sg_vret X hr hlk hb hK hC hG hS dX12_digs_28

theorem ca_X12_digs_1_t   (X : CallFix p m c cc nL s args sg_tbl own) (hK : va_K D vwCl tys s) (hG : sgG (KT P) D vwCl (fun q : Nat => base ≤ q) tys ad ks H) (hC : sgC base s) (hS : va_S (fun q : Nat => base ≤ q) s.heap H locs) (hb : base ≤ s.heap.size) (a0 : Nat) (h0 : isK ad ks 55 a0) (x1 : Int32) (hl : Cond.methodLink own index yX12_digs ∈ sg_tbl) (hsize : ls.size = nL) (hst : st0 = [.ref a0, .int x1].reverse ++ rest) (hW : (rest.map fun v => v.category).sum ≤ 8) (hR : 2 ≤ R.frames ∧ 46 ≤ R.locals) (hf : cells ≤ R.cells ∧ slots ≤ R.slots) (hdg : decode cc pc = .ok (.invokestatic index, 3)) (kk : ∀ (H1 : Heap) (locs1 : List Loc), sgG (KT P) D vwCl (fun q : Nat => base ≤ q) tys ad ks H1 → va_S (fun q : Nat => base ≤ q) s.heap H1 locs1 → W p l e R s m args below meth c H1 locs1 cells slots Q (F0 m (pc + 3) ls rest)) : W p l e R s m args below meth c H locs cells slots Q (F0 m pc ls st0) :=
  sg_callSv X hK hG hC hS hb (m_X12_digs_1_t l a0 h0 x1) wl_8_146 wl_1_13 wl_8_145 (n := 2) (by decide +kernel) rfl rfl rfl hl hsize hst hW hR hf hdg kk

set_option maxHeartbeats 8000000 in
set_option maxRecDepth 100000 in
theorem m_X12_grow_1 (l : Launch) {D : va_G} {base : Nat} {tys : List (ClassId × FieldType)} {ad ks : List Nat} {P : sgPm} (hp4 : P.2.2.2.2.1 = true) (hp10 : sgPin P = none) (a0 : Nat) (h0 : isK ad ks 12 a0) (x1 : Int32) : sgMi l (KT P) D vwCl base tys ad ks yX12_grow cX12_grow 2 (some .int) ({ frames := 36, cells := 0, slots := 0, locals := 842 }) [.ref a0, .int x1] (fun r : Int32 => True) := by
  refine sg_ofW (by decide +kernel) (Nat.le_of_ble_eq_true rfl) (fun p e s m below meth c X hr hlk hb hK hC hG ls hl => ?_)
  have hS : va_S (fun q : Nat => base ≤ q) s.heap s.heap [] := va_S.rf
  have hl : lv_has ls 2 [(0, .ref a0), (1, .int x1)] := hl
  refine lv_aload_n X.1 X.2.1 dX12_grow_0 rfl (lv_at hl 0 rfl) ?_
  refine lv_iconst (v := 0) X.1 X.2.1 dX12_grow_1 (by decide +kernel) ?_
  refine pf_X12_0 X hK hG hS h0 wl_6_178 ⟨_, rfl, (iv_top _)⟩ dX12_grow_2 (fun H locs hG hS ku1 ru1 => ?_)
  refine lv_aload_n X.1 X.2.1 dX12_grow_5 rfl (lv_at hl 0 rfl) ?_
  refine lv_aload_n X.1 X.2.1 dX12_grow_6 rfl (lv_at hl 0 rfl) ?_
  refine gf_X12_32 X hK hG h0 wl_6_210 dX12_grow_7 (fun q2 hq2 kq2 => ?_)
  refine lv_iload_n X.1 X.2.1 dX12_grow_10 rfl (lv_at hl 1 rfl) ?_
  refine ca_X12_canGrow_1 X hK hG hC hS hb hp4 a0 h0 q2 hq2 x1 wl_8_90 hl.1 (rest := []) rfl (Nat.le_of_ble_eq_true rfl) ⟨Nat.le_of_ble_eq_true rfl, Nat.le_of_ble_eq_true rfl⟩ ⟨Nat.le_of_ble_eq_true rfl, Nat.le_of_ble_eq_true rfl⟩ dX12_grow_11 (fun f3 H locs hf3 hG hS => ?_)
  refine lv_if_ne (tgt := 19) X.1 X.2.1 dX12_grow_14 (by decide) (fun c4 => ?_) (fun c4 => ?_)
  · refine lv_aload_n X.1 X.2.1 dX12_grow_19 rfl (lv_at hl 0 rfl) ?_
    refine ca_X12_remember X hK hG hC hS hb a0 h0 wl_8_98 hl.1 (rest := []) rfl (Nat.le_of_ble_eq_true rfl) ⟨Nat.le_of_ble_eq_true rfl, Nat.le_of_ble_eq_true rfl⟩ ⟨Nat.le_of_ble_eq_true rfl, Nat.le_of_ble_eq_true rfl⟩ dX12_grow_20 (fun H locs hG hS => ?_)
    refine lv_aload_n X.1 X.2.1 dX12_grow_23 rfl (lv_at hl 0 rfl) ?_
    refine lv_aload_n X.1 X.2.1 dX12_grow_24 rfl (lv_at hl 0 rfl) ?_
    refine gf_X12_32 X hK hG h0 wl_6_210 dX12_grow_25 (fun q6 hq6 kq6 => ?_)
    refine lv_iload_n X.1 X.2.1 dX12_grow_28 rfl (lv_at hl 1 rfl) ?_
    refine ca_X12_grows_1 X hK hG hC hS hb hp4 hp10 a0 h0 q6 hq6 x1 wl_8_102 hl.1 (rest := []) rfl (Nat.le_of_ble_eq_true rfl) ⟨Nat.le_of_ble_eq_true rfl, Nat.le_of_ble_eq_true rfl⟩ ⟨Nat.le_of_ble_eq_true rfl, Nat.le_of_ble_eq_true rfl⟩ dX12_grow_29 (fun H locs hG hS => ?_)
    refine lv_aload_n X.1 X.2.1 dX12_grow_32 rfl (lv_at hl 0 rfl) ?_
    refine gf_X12_32 X hK hG h0 wl_6_210 dX12_grow_33 (fun q8 hq8 kq8 => ?_)
    refine lv_iconst (v := 3) X.1 X.2.1 dX12_grow_36 (by decide +kernel) ?_
    refine al_54 X hK hG hq8 (iv_vpin (iv_c 3 (a := 3) (b := 3) (by decide +kernel)) (by decide +kernel)) dX12_grow_37 (fun f9 hf9 => ?_)
    have hf9 := sg_nw_now hf9
    have of9 := hf9
    have hf9 : iv (-2147483648) 2147483647 f9 := sg_sp_now hf9 (iv_c 3 (a := 3) (b := 3) (by decide +kernel)) (by decide +kernel) rfl
    exact sg_iret X hr hlk hb hK hC hG hS trivial dX12_grow_38
  · refine lv_iconst (v := (-1)) X.1 X.2.1 dX12_grow_17 (by decide +kernel) ?_
    exact sg_iret X hr hlk hb hK hC hG hS trivial dX12_grow_18

theorem ca_X12_grow_1   (X : CallFix p m c cc nL s args sg_tbl own) (hK : va_K D vwCl tys s) (hG : sgG (KT P) D vwCl (fun q : Nat => base ≤ q) tys ad ks H) (hC : sgC base s) (hS : va_S (fun q : Nat => base ≤ q) s.heap H locs) (hb : base ≤ s.heap.size) (hp4 : P.2.2.2.2.1 = true) (hp10 : sgPin P = none) (a0 : Nat) (h0 : isK ad ks 12 a0) (x1 : Int32) (hl : Cond.methodLink own index yX12_grow ∈ sg_tbl) (hsize : ls.size = nL) (hst : st0 = [.int x1].reverse ++ .ref a0 :: rest) (hW : (rest.map fun v => v.category).sum ≤ 8) (hR : 37 ≤ R.frames ∧ 863 ≤ R.locals) (hf : cells ≤ R.cells ∧ slots ≤ R.slots) (hdg : decode cc pc = .ok (.invokevirtual index, 3)) (kk : ∀ (r : Int32) (H1 : Heap) (locs1 : List Loc), (fun r : Int32 => True) r → sgG (KT P) D vwCl (fun q : Nat => base ≤ q) tys ad ks H1 → va_S (fun q : Nat => base ≤ q) s.heap H1 locs1 → W p l e R s m args below meth c H1 locs1 cells slots Q (F0 m (pc + 3) ls (.int r :: rest))) : W p l e R s m args below meth c H locs cells slots Q (F0 m pc ls st0) :=
  sg_callVi X hK hG hC hS hb (m_X12_grow_1 l hp4 hp10 a0 h0 x1) h0 (k := 12) (ci := 12) rfl (C := RX12) (T := TX12) (N := 53) rfl wl_8_89 wl_1_13 wl_8_87 wl_8_88 (n := 1) (by decide +kernel) rfl rfl rfl hl hsize hst hW hR hf hdg kk

set_option maxHeartbeats 8000000 in
set_option maxRecDepth 100000 in
theorem m_X12_cut_1 (l : Launch) {D : va_G} {base : Nat} {tys : List (ClassId × FieldType)} {ad ks : List Nat} {P : sgPm} (hp4 : P.2.2.2.2.1 = true) (hp10 : sgPin P = none) (a0 : Nat) (h0 : isK ad ks 12 a0) (x1 : Int32) (x2 : Int32) (x3 : Int32) (hN : sgN P + 1 ≤ 1000000000) : Met l yX12_cut (Cond.code yX12_cut cX12_cut 4 (some .int) :: sg_tbl) ({ frames := 4, cells := 0, slots := 0, locals := 99 }) (va_Pc [.ref a0, .int x1, .int x2, .int x3] (sgB (KT P) D vwCl base tys ad ks)) (va_Qi (fun r (u : Int32) => u = r ∧ (fun r : Int32 => True) r) (fun u t => sgB (KT (sgAt P (sgN P + 1))) D vwCl base tys ad ks t) (fun q : Nat => base ≤ q)) 0 0 (fun q : Nat => base ≤ q) := by
  refine sg_ofW (by decide +kernel) (Nat.le_of_ble_eq_true rfl) (fun p e s m below meth c X hr hlk hb hK hC hG ls hl => ?_)
  have hS : va_S (fun q : Nat => base ≤ q) s.heap s.heap [] := va_S.rf
  have hl : lv_has ls 4 [(0, .ref a0), (1, .int x1), (2, .int x2), (3, .int x3)] := hl
  refine lv_aload_n X.1 X.2.1 dX12_cut_0 rfl (lv_at hl 0 rfl) ?_
  refine lv_iconst (v := 0) X.1 X.2.1 dX12_cut_1 (by decide +kernel) ?_
  refine pf_X12_0 X hK hG hS h0 wl_6_178 ⟨_, rfl, (iv_top _)⟩ dX12_cut_2 (fun H locs hG hS ku1 ru1 => ?_)
  refine lv_aload_n X.1 X.2.1 dX12_cut_5 rfl (lv_at hl 0 rfl) ?_
  refine lv_aload_n X.1 X.2.1 dX12_cut_6 rfl (lv_at hl 0 rfl) ?_
  refine gf_X12_32 X hK hG h0 wl_6_210 dX12_cut_7 (fun q2 hq2 kq2 => ?_)
  refine lv_iload_n X.1 X.2.1 dX12_cut_10 rfl (lv_at hl 1 rfl) ?_
  refine lv_iload_n X.1 X.2.1 dX12_cut_11 rfl (lv_at hl 2 rfl) ?_
  refine lv_iload_n X.1 X.2.1 dX12_cut_12 rfl (lv_at hl 3 rfl) ?_
  refine ca_X12_canCut_1 X hK hG hC (fun _ h => h) hS hb hp4 a0 h0 q2 hq2 x1 x2 x3 wl_8_117 hl.1 (rest := []) rfl (Nat.le_of_ble_eq_true rfl) ⟨Nat.le_of_ble_eq_true rfl, Nat.le_of_ble_eq_true rfl⟩ ⟨Nat.le_of_ble_eq_true rfl, Nat.le_of_ble_eq_true rfl⟩ dX12_cut_13 (fun f3 locs hf3 hS => ?_)
  refine lv_if_ne (tgt := 21) X.1 X.2.1 dX12_cut_16 (by decide) (fun c4 => ?_) (fun c4 => ?_)
  · refine lv_aload_n X.1 X.2.1 dX12_cut_21 rfl (lv_at hl 0 rfl) ?_
    refine ca_X12_remember X hK hG hC hS hb a0 h0 wl_8_98 hl.1 (rest := []) rfl (Nat.le_of_ble_eq_true rfl) ⟨Nat.le_of_ble_eq_true rfl, Nat.le_of_ble_eq_true rfl⟩ ⟨Nat.le_of_ble_eq_true rfl, Nat.le_of_ble_eq_true rfl⟩ dX12_cut_22 (fun H locs hG hS => ?_)
    refine lv_aload_n X.1 X.2.1 dX12_cut_25 rfl (lv_at hl 0 rfl) ?_
    refine lv_aload_n X.1 X.2.1 dX12_cut_26 rfl (lv_at hl 0 rfl) ?_
    refine gf_X12_32 X hK hG h0 wl_6_210 dX12_cut_27 (fun q6 hq6 kq6 => ?_)
    refine lv_iload_n X.1 X.2.1 dX12_cut_30 rfl (lv_at hl 1 rfl) ?_
    refine lv_iload_n X.1 X.2.1 dX12_cut_31 rfl (lv_at hl 2 rfl) ?_
    refine lv_iload_n X.1 X.2.1 dX12_cut_32 rfl (lv_at hl 3 rfl) ?_
    refine ca_X12_mows_1 X hK hG hC hS hb hp4 hp10 a0 h0 q6 hq6 x1 x2 x3 (show sgN P + 1 ≤ 1000000000 from by omega) wl_8_125 hl.1 (rest := []) rfl (Nat.le_of_ble_eq_true rfl) ⟨Nat.le_of_ble_eq_true rfl, Nat.le_of_ble_eq_true rfl⟩ ⟨Nat.le_of_ble_eq_true rfl, Nat.le_of_ble_eq_true rfl⟩ dX12_cut_33 (fun tg7 H locs htg7 hWg7 hS => ?_)
    have hG : sgG (KT (sgAt P (sgN P + 1))) D vwCl _ tys ad ks _ := hWg7.2.2.2
    rw [htg7] at hG
    refine lv_aload_n X.1 X.2.1 dX12_cut_36 rfl (lv_at hl 0 rfl) ?_
    refine gf_X12_32 X hK hG h0 wl_6_210 dX12_cut_37 (fun q8 hq8 kq8 => ?_)
    refine lv_iconst (v := 4) X.1 X.2.1 dX12_cut_40 (by decide +kernel) ?_
    refine al_54 X hK hG hq8 (iv_vpin (iv_c 4 (a := 4) (b := 4) (by decide +kernel)) (by decide +kernel)) dX12_cut_41 (fun f9 hf9 => ?_)
    have hf9 := sg_nw_now hf9
    have of9 := hf9
    have hf9 : iv 0 1000000000 f9 := sg_day hf9 (iv_c 4 (a := 4) (b := 4) (by decide +kernel))
    have hG : sgG (KT (sgAt P (sgN P + 1))) D vwCl _ tys ad ks _ := sg_moreN (P := (sgAt P (sgN P + 1))) (show (sgN P + 1) ≤ (sgN P + 1) from by omega) hG
    exact sg_iret2 X hr hlk hS trivial (fun t ht hW => sg_post hb hK hC hG hS ht hW) dX12_cut_42
  · refine lv_iconst (v := (-1)) X.1 X.2.1 dX12_cut_19 (by decide +kernel) ?_
    have hG : sgG (KT (sgAt P (sgN P + 1))) D vwCl _ tys ad ks _ := sg_moreN (P := P) (show (sgN P) ≤ (sgN P + 1) from by omega) hG
    exact sg_iret2 X hr hlk hS trivial (fun t ht hW => sg_post hb hK hC hG hS ht hW) dX12_cut_20

theorem ca_X12_cut_1   (X : CallFix p m c cc nL s args sg_tbl own) (hK : va_K D vwCl tys s) (hG : sgG (KT P) D vwCl (fun q : Nat => base ≤ q) tys ad ks H) (hC : sgC base s) (hS : va_S (fun q : Nat => base ≤ q) s.heap H locs) (hb : base ≤ s.heap.size) (hp4 : P.2.2.2.2.1 = true) (hp10 : sgPin P = none) (a0 : Nat) (h0 : isK ad ks 12 a0) (x1 : Int32) (x2 : Int32) (x3 : Int32) (hN : sgN P + 1 ≤ 1000000000) (hl : Cond.methodLink own index yX12_cut ∈ sg_tbl) (hsize : ls.size = nL) (hst : st0 = [.int x1, .int x2, .int x3].reverse ++ .ref a0 :: rest) (hW : (rest.map fun v => v.category).sum ≤ 8) (hR : 5 ≤ R.frames ∧ 122 ≤ R.locals) (hf : cells ≤ R.cells ∧ slots ≤ R.slots) (hdg : decode cc pc = .ok (.invokevirtual index, 3)) (kk : ∀ (r : Int32) (t : State) (H1 : Heap) (locs1 : List Loc), t.heap = H1 → (fun r : Int32 => True) r → (sgB (KT (sgAt P (sgN P + 1))) D vwCl base tys ad ks t) → va_S (fun q : Nat => base ≤ q) s.heap H1 locs1 → W p l e R s m args below meth c H1 locs1 cells slots Q (F0 m (pc + 3) ls (.int r :: rest))) : W p l e R s m args below meth c H locs cells slots Q (F0 m pc ls st0) :=
  sg_callV2i X hK hG hC hS hb (m_X12_cut_1 l hp4 hp10 a0 h0 x1 x2 x3 hN) h0 (k := 12) (ci := 12) rfl (C := RX12) (T := TX12) (N := 53) rfl wl_8_116 wl_1_13 wl_8_114 wl_8_115 (n := 3) (by decide +kernel) rfl rfl rfl hl hsize hst hW hR hf hdg kk

set_option maxHeartbeats 8000000 in
set_option maxRecDepth 100000 in
theorem m_X12_sit_1 (l : Launch) {D : va_G} {base : Nat} {tys : List (ClassId × FieldType)} {ad ks : List Nat} {P : sgPm} (hp4 : P.2.2.2.2.1 = true) (a0 : Nat) (h0 : isK ad ks 12 a0) (hN : sgN P + 1 ≤ 1000000000) : Met l yX12_sit (Cond.code yX12_sit cX12_sit 1 (some .int) :: sg_tbl) ({ frames := 2, cells := 0, slots := 0, locals := 46 }) (va_Pc [.ref a0] (sgB (KT P) D vwCl base tys ad ks)) (va_Qi (fun r (u : Int32) => u = r ∧ (fun r : Int32 => True) r) (fun u t => sgB (KT (sgAt P (sgN P + 1))) D vwCl base tys ad ks t) (fun q : Nat => base ≤ q)) 0 0 (fun q : Nat => base ≤ q) := by
  refine sg_ofW (by decide +kernel) (Nat.le_of_ble_eq_true rfl) (fun p e s m below meth c X hr hlk hb hK hC hG ls hl => ?_)
  have hS : va_S (fun q : Nat => base ≤ q) s.heap s.heap [] := va_S.rf
  have hl : lv_has ls 1 [(0, .ref a0)] := hl
  refine lv_aload_n X.1 X.2.1 dX12_sit_0 rfl (lv_at hl 0 rfl) ?_
  refine lv_iconst (v := 0) X.1 X.2.1 dX12_sit_1 (by decide +kernel) ?_
  refine pf_X12_0 X hK hG hS h0 wl_6_178 ⟨_, rfl, (iv_top _)⟩ dX12_sit_2 (fun H locs hG hS ku1 ru1 => ?_)
  refine lv_aload_n X.1 X.2.1 dX12_sit_5 rfl (lv_at hl 0 rfl) ?_
  refine lv_aload_n X.1 X.2.1 dX12_sit_6 rfl (lv_at hl 0 rfl) ?_
  refine gf_X12_32 X hK hG h0 wl_6_210 dX12_sit_7 (fun q2 hq2 kq2 => ?_)
  refine ca_X12_isOpen_1 X hK hG hC (fun _ h => h) hS hb hp4 a0 h0 q2 hq2 wl_8_94 hl.1 (rest := []) rfl (Nat.le_of_ble_eq_true rfl) ⟨Nat.le_of_ble_eq_true rfl, Nat.le_of_ble_eq_true rfl⟩ ⟨Nat.le_of_ble_eq_true rfl, Nat.le_of_ble_eq_true rfl⟩ dX12_sit_10 (fun f3 locs hf3 hS => ?_)
  refine lv_if_ne (tgt := 18) X.1 X.2.1 dX12_sit_13 (by decide) (fun c4 => ?_) (fun c4 => ?_)
  · refine lv_aload_n X.1 X.2.1 dX12_sit_18 rfl (lv_at hl 0 rfl) ?_
    refine ca_X12_remember X hK hG hC hS hb a0 h0 wl_8_98 hl.1 (rest := []) rfl (Nat.le_of_ble_eq_true rfl) ⟨Nat.le_of_ble_eq_true rfl, Nat.le_of_ble_eq_true rfl⟩ ⟨Nat.le_of_ble_eq_true rfl, Nat.le_of_ble_eq_true rfl⟩ dX12_sit_19 (fun H locs hG hS => ?_)
    refine lv_aload_n X.1 X.2.1 dX12_sit_22 rfl (lv_at hl 0 rfl) ?_
    refine gf_X12_32 X hK hG h0 wl_6_210 dX12_sit_23 (fun q6 hq6 kq6 => ?_)
    refine ca_X12_sits_1 X hK hG hC hS hb q6 hq6 (show sgN P + 1 ≤ 1000000000 from by omega) wl_8_133 hl.1 (rest := []) rfl (Nat.le_of_ble_eq_true rfl) ⟨Nat.le_of_ble_eq_true rfl, Nat.le_of_ble_eq_true rfl⟩ ⟨Nat.le_of_ble_eq_true rfl, Nat.le_of_ble_eq_true rfl⟩ dX12_sit_26 (fun f7 tf7 H locs htf7 hf7 hWf7 hS => ?_)
    have hG : sgG (KT (sgAt P (sgN P + 1))) D vwCl _ tys ad ks _ := hWf7.2.2.2
    rw [htf7] at hG
    have hG : sgG (KT (sgAt P (sgN P + 1))) D vwCl _ tys ad ks _ := sg_moreN (P := (sgAt P (sgN P + 1))) (show (sgN P + 1) ≤ (sgN P + 1) from by omega) hG
    exact sg_iret2 X hr hlk hS trivial (fun t ht hW => sg_post hb hK hC hG hS ht hW) dX12_sit_29
  · refine lv_iconst (v := (-1)) X.1 X.2.1 dX12_sit_16 (by decide +kernel) ?_
    have hG : sgG (KT (sgAt P (sgN P + 1))) D vwCl _ tys ad ks _ := sg_moreN (P := P) (show (sgN P) ≤ (sgN P + 1) from by omega) hG
    exact sg_iret2 X hr hlk hS trivial (fun t ht hW => sg_post hb hK hC hG hS ht hW) dX12_sit_17

theorem ca_X12_sit_1   (X : CallFix p m c cc nL s args sg_tbl own) (hK : va_K D vwCl tys s) (hG : sgG (KT P) D vwCl (fun q : Nat => base ≤ q) tys ad ks H) (hC : sgC base s) (hS : va_S (fun q : Nat => base ≤ q) s.heap H locs) (hb : base ≤ s.heap.size) (hp4 : P.2.2.2.2.1 = true) (a0 : Nat) (h0 : isK ad ks 12 a0) (hN : sgN P + 1 ≤ 1000000000) (hl : Cond.methodLink own index yX12_sit ∈ sg_tbl) (hsize : ls.size = nL) (hst : st0 = [].reverse ++ .ref a0 :: rest) (hW : (rest.map fun v => v.category).sum ≤ 8) (hR : 3 ≤ R.frames ∧ 66 ≤ R.locals) (hf : cells ≤ R.cells ∧ slots ≤ R.slots) (hdg : decode cc pc = .ok (.invokevirtual index, 3)) (kk : ∀ (r : Int32) (t : State) (H1 : Heap) (locs1 : List Loc), t.heap = H1 → (fun r : Int32 => True) r → (sgB (KT (sgAt P (sgN P + 1))) D vwCl base tys ad ks t) → va_S (fun q : Nat => base ≤ q) s.heap H1 locs1 → W p l e R s m args below meth c H1 locs1 cells slots Q (F0 m (pc + 3) ls (.int r :: rest))) : W p l e R s m args below meth c H locs cells slots Q (F0 m pc ls st0) :=
  sg_callV2i X hK hG hC hS hb (m_X12_sit_1 l hp4 a0 h0 hN) h0 (k := 12) (ci := 12) rfl (C := RX12) (T := TX12) (N := 53) rfl wl_8_132 wl_1_13 wl_8_130 wl_8_131 (n := 0) (by decide +kernel) rfl rfl rfl hl hsize hst hW hR hf hdg kk

set_option maxHeartbeats 8000000 in
set_option maxRecDepth 100000 in
theorem m_X12_mole_1 (l : Launch) {D : va_G} {base : Nat} {tys : List (ClassId × FieldType)} {ad ks : List Nat} {P : sgPm} (hp4 : P.2.2.2.2.1 = true) (hp10 : sgPin P = none) (a0 : Nat) (h0 : isK ad ks 12 a0) (x1 : Int32) : sgMi l (KT P) D vwCl base tys ad ks yX12_mole cX12_mole 2 (some .int) ({ frames := 2, cells := 0, slots := 0, locals := 46 }) [.ref a0, .int x1] (fun r : Int32 => True) := by
  refine sg_ofW (by decide +kernel) (Nat.le_of_ble_eq_true rfl) (fun p e s m below meth c X hr hlk hb hK hC hG ls hl => ?_)
  have hS : va_S (fun q : Nat => base ≤ q) s.heap s.heap [] := va_S.rf
  have hl : lv_has ls 2 [(0, .ref a0), (1, .int x1)] := hl
  refine lv_aload_n X.1 X.2.1 dX12_mole_0 rfl (lv_at hl 0 rfl) ?_
  refine lv_iconst (v := 0) X.1 X.2.1 dX12_mole_1 (by decide +kernel) ?_
  refine pf_X12_0 X hK hG hS h0 wl_6_178 ⟨_, rfl, (iv_top _)⟩ dX12_mole_2 (fun H locs hG hS ku1 ru1 => ?_)
  refine lv_aload_n X.1 X.2.1 dX12_mole_5 rfl (lv_at hl 0 rfl) ?_
  refine lv_aload_n X.1 X.2.1 dX12_mole_6 rfl (lv_at hl 0 rfl) ?_
  refine gf_X12_32 X hK hG h0 wl_6_210 dX12_mole_7 (fun q2 hq2 kq2 => ?_)
  refine lv_iload_n X.1 X.2.1 dX12_mole_10 rfl (lv_at hl 1 rfl) ?_
  refine ca_X12_canDig_1 X hK hG hC (fun _ h => h) hS hb hp4 a0 h0 q2 hq2 x1 wl_8_140 hl.1 (rest := []) rfl (Nat.le_of_ble_eq_true rfl) ⟨Nat.le_of_ble_eq_true rfl, Nat.le_of_ble_eq_true rfl⟩ ⟨Nat.le_of_ble_eq_true rfl, Nat.le_of_ble_eq_true rfl⟩ dX12_mole_11 (fun f3 locs hf3 hS => ?_)
  refine lv_if_ne (tgt := 19) X.1 X.2.1 dX12_mole_14 (by decide) (fun c4 => ?_) (fun c4 => ?_)
  · refine lv_aload_n X.1 X.2.1 dX12_mole_19 rfl (lv_at hl 0 rfl) ?_
    refine ca_X12_remember X hK hG hC hS hb a0 h0 wl_8_98 hl.1 (rest := []) rfl (Nat.le_of_ble_eq_true rfl) ⟨Nat.le_of_ble_eq_true rfl, Nat.le_of_ble_eq_true rfl⟩ ⟨Nat.le_of_ble_eq_true rfl, Nat.le_of_ble_eq_true rfl⟩ dX12_mole_20 (fun H locs hG hS => ?_)
    refine lv_aload_n X.1 X.2.1 dX12_mole_23 rfl (lv_at hl 0 rfl) ?_
    refine gf_X12_32 X hK hG h0 wl_6_210 dX12_mole_24 (fun q6 hq6 kq6 => ?_)
    refine lv_iload_n X.1 X.2.1 dX12_mole_27 rfl (lv_at hl 1 rfl) ?_
    refine ca_X12_digs_1 X hK hG hC hS hb hp10 q6 hq6 x1 wl_8_144 hl.1 (rest := []) rfl (Nat.le_of_ble_eq_true rfl) ⟨Nat.le_of_ble_eq_true rfl, Nat.le_of_ble_eq_true rfl⟩ ⟨Nat.le_of_ble_eq_true rfl, Nat.le_of_ble_eq_true rfl⟩ dX12_mole_28 (fun H locs hG hS => ?_)
    refine lv_aload_n X.1 X.2.1 dX12_mole_31 rfl (lv_at hl 0 rfl) ?_
    refine gf_X12_32 X hK hG h0 wl_6_210 dX12_mole_32 (fun q8 hq8 kq8 => ?_)
    refine lv_iconst (v := 0) X.1 X.2.1 dX12_mole_35 (by decide +kernel) ?_
    refine al_54 X hK hG hq8 (iv_vpin (iv_c 0 (a := 0) (b := 0) (by decide +kernel)) (by decide +kernel)) dX12_mole_36 (fun f9 hf9 => ?_)
    have hf9 := sg_nw_now hf9
    have of9 := hf9
    have hf9 : iv (-2147483648) 2147483647 f9 := sg_sp_now hf9 (iv_c 0 (a := 0) (b := 0) (by decide +kernel)) (by decide +kernel) rfl
    refine ca_J6_bitCount_0f7a4 X hK hG hC (fun _ h => h) hS hb f9 wl_8_68 hl.1 (rest := []) rfl (Nat.le_of_ble_eq_true rfl) ⟨Nat.le_of_ble_eq_true rfl, Nat.le_of_ble_eq_true rfl⟩ ⟨Nat.le_of_ble_eq_true rfl, Nat.le_of_ble_eq_true rfl⟩ dX12_mole_37 (fun f10 locs hf10 hS => ?_)
    exact sg_iret X hr hlk hb hK hC hG hS trivial dX12_mole_40
  · refine lv_iconst (v := (-1)) X.1 X.2.1 dX12_mole_17 (by decide +kernel) ?_
    exact sg_iret X hr hlk hb hK hC hG hS trivial dX12_mole_18

theorem ca_X12_mole_1   (X : CallFix p m c cc nL s args sg_tbl own) (hK : va_K D vwCl tys s) (hG : sgG (KT P) D vwCl (fun q : Nat => base ≤ q) tys ad ks H) (hC : sgC base s) (hS : va_S (fun q : Nat => base ≤ q) s.heap H locs) (hb : base ≤ s.heap.size) (hp4 : P.2.2.2.2.1 = true) (hp10 : sgPin P = none) (a0 : Nat) (h0 : isK ad ks 12 a0) (x1 : Int32) (hl : Cond.methodLink own index yX12_mole ∈ sg_tbl) (hsize : ls.size = nL) (hst : st0 = [.int x1].reverse ++ .ref a0 :: rest) (hW : (rest.map fun v => v.category).sum ≤ 8) (hR : 3 ≤ R.frames ∧ 67 ≤ R.locals) (hf : cells ≤ R.cells ∧ slots ≤ R.slots) (hdg : decode cc pc = .ok (.invokevirtual index, 3)) (kk : ∀ (r : Int32) (H1 : Heap) (locs1 : List Loc), (fun r : Int32 => True) r → sgG (KT P) D vwCl (fun q : Nat => base ≤ q) tys ad ks H1 → va_S (fun q : Nat => base ≤ q) s.heap H1 locs1 → W p l e R s m args below meth c H1 locs1 cells slots Q (F0 m (pc + 3) ls (.int r :: rest))) : W p l e R s m args below meth c H locs cells slots Q (F0 m pc ls st0) :=
  sg_callVi X hK hG hC hS hb (m_X12_mole_1 l hp4 hp10 a0 h0 x1) h0 (k := 12) (ci := 12) rfl (C := RX12) (T := TX12) (N := 53) rfl wl_8_139 wl_1_13 wl_8_137 wl_8_138 (n := 1) (by decide +kernel) rfl rfl rfl hl hsize hst hW hR hf hdg kk

set_option maxHeartbeats 8000000 in
set_option maxRecDepth 100000 in
theorem m_X12_listed_1 (l : Launch) {D : va_G} {base : Nat} {tys : List (ClassId × FieldType)} {ad ks : List Nat} {P : sgPm} (hp4 : P.2.2.2.2.1 = true) (a0 : Nat) (h0 : isK ad ks 12 a0) (x1 : Int32) (x2 : Int32) (h2 : iv 0 1 x2) : sgMi l (KT P) D vwCl base tys ad ks yX12_listed cX12_listed 6 (some .int) ({ frames := 35, cells := 0, slots := 0, locals := 819 }) [.ref a0, .int x1, .int x2] (fun r : Int32 => True) := by
  refine sg_ofW (by decide +kernel) (Nat.le_of_ble_eq_true rfl) (fun p e s m below meth c X hr hlk hb hK hC hG ls hl => ?_)
  have hS : va_S (fun q : Nat => base ≤ q) s.heap s.heap [] := va_S.rf
  have hl : lv_has ls 6 [(0, .ref a0), (1, .int x1), (2, .int x2)] := hl
  refine lv_iconst (v := 0) X.1 X.2.1 dX12_listed_0 (by decide +kernel) ?_
  refine lv_istore_n (lv' := [(3, .int 0), (0, .ref a0), (1, .int x1), (2, .int x2)]) X.1 X.2.1 dX12_listed_1 rfl hl (by decide) rfl (fun ls hl => ?_)
  refine lv_iconst (v := 0) X.1 X.2.1 dX12_listed_2 (by decide +kernel) ?_
  refine lv_istore (lv' := [(4, .int 0), (3, .int 0), (0, .ref a0), (1, .int x1), (2, .int x2)]) X.1 X.2.1 dX12_listed_3 hl (by decide) rfl (fun ls hl => ?_)
  have B1_5 : ∀ (N : Nat) (H : Heap) (locs : List Loc) (ls : Array Slot) (z1_3 : Int32) (z1_4 : Int32), sgG (KT P) D vwCl (fun q : Nat => base ≤ q) tys ad ks H → va_S (fun q : Nat => base ≤ q) s.heap H locs → lv_has ls 6 [(0, .ref a0), (1, .int x1), (2, .int x2), (3, .int z1_3), (4, .int z1_4)] → iv 0 300 z1_4 → (301 - z1_4.toInt).toNat ≤ N → W p l e (headSpec (Cond.code yX12_listed cX12_listed 6 (some .int) :: sg_tbl) ({ frames := 35, cells := 0, slots := 0, locals := 819 })).room s m #[.ref a0, .int x1, .int x2] below meth c H locs 0 0 (MQ below (va_Qi (fun r (_ : Unit) => (fun r : Int32 => True) r) (fun _ => sgB (KT P) D vwCl base tys ad ks) (fun q : Nat => base ≤ q)) #[.ref a0, .int x1, .int x2] s 0 0 (fun q : Nat => base ≤ q)) (F0 m 5 ls []) := by
    intro N; induction N with
    | zero =>
      intro H locs ls z1_3 z1_4 hG hS hl hz1_4 hN
      exact absurd hN (by have := iv_up hz1_4; omega)
    | succ N ih1 =>
      intro H locs ls z1_3 z1_4 hG hS hl hz1_4 hN1
      refine lv_iload X.1 X.2.1 dX12_listed_5 (lv_at hl 4 rfl) ?_
      refine lv_bipush (v := 10) X.1 X.2.1 dX12_listed_7 (by decide +kernel) ?_
      refine lv_aload_n X.1 X.2.1 dX12_listed_9 rfl (lv_at hl 0 rfl) ?_
      refine gf_X12_23s X hK hG h0 hp4 wl_6_201 dX12_listed_10 (fun f2 hf2 kf2 => ?_)
      refine lv_imul X.1 X.2.1 dX12_listed_13 ?_
      refine lv_topi (fun f3 ef3 => ?_)
      refine lv_icmp_ge (tgt := 92) X.1 X.2.1 dX12_listed_14 (by decide) (fun c4 => ?_) (fun c4 => ?_)
      · refine lv_iload_n X.1 X.2.1 dX12_listed_92 rfl (lv_at hl 1 rfl) ?_
        refine lv_iconst (v := (-1)) X.1 X.2.1 dX12_listed_93 (by decide +kernel) ?_
        refine lv_icmp_ne (tgt := 101) X.1 X.2.1 dX12_listed_94 (by decide) (fun c5 => ?_) (fun c5 => ?_)
        · refine lv_iconst (v := (-1)) X.1 X.2.1 dX12_listed_101 (by decide +kernel) ?_
          exact sg_iret X hr hlk hb hK hC hG hS trivial dX12_listed_102
        · refine lv_iload_n X.1 X.2.1 dX12_listed_97 rfl (lv_at hl 3 rfl) ?_
          refine lv_goto (tgt := 102) X.1 X.2.1 dX12_listed_98 (by decide) ?_
          exact sg_iret X hr hlk hb hK hC hG hS trivial dX12_listed_102
      · refine lv_aload_n X.1 X.2.1 dX12_listed_17 rfl (lv_at hl 0 rfl) ?_
        refine lv_aload_n X.1 X.2.1 dX12_listed_18 rfl (lv_at hl 0 rfl) ?_
        refine gf_X12_32 X hK hG h0 wl_6_210 dX12_listed_19 (fun q6 hq6 kq6 => ?_)
        refine lv_iconst (v := 0) X.1 X.2.1 dX12_listed_22 (by decide +kernel) ?_
        refine al_54 X hK hG hq6 (iv_vpin (iv_c 0 (a := 0) (b := 0) (by decide +kernel)) (by decide +kernel)) dX12_listed_23 (fun f7 hf7 => ?_)
        have hf7 := sg_nw_now hf7
        have of7 := hf7
        have hf7 : iv (-2147483648) 2147483647 f7 := sg_sp_now hf7 (iv_c 0 (a := 0) (b := 0) (by decide +kernel)) (by decide +kernel) rfl
        refine lv_iload X.1 X.2.1 dX12_listed_24 (lv_at hl 4 rfl) ?_
        refine ca_X12_codeOf_1 X hK hG hC (fun _ h => h) hS hb hp4 a0 h0 f7 z1_4 (iv_of (iv_lt (b' := 299) (iv_gt_of c4) hz1_4 (iv_mul (a' := 10) (b' := 300) ef3 (iv_c 10 (a := 10) (b := 10) (by decide +kernel)) hf2 (by decide +kernel)) (by decide +kernel)) (a' := 0) (b' := 300) (by decide +kernel)) wl_8_173 hl.1 (rest := []) rfl (Nat.le_of_ble_eq_true rfl) ⟨Nat.le_of_ble_eq_true rfl, Nat.le_of_ble_eq_true rfl⟩ ⟨Nat.le_of_ble_eq_true rfl, Nat.le_of_ble_eq_true rfl⟩ dX12_listed_26 (fun f8 locs hf8 hS => ?_)
        refine lv_istore (lv' := [(5, .int f8), (0, .ref a0), (1, .int x1), (2, .int x2), (3, .int z1_3), (4, .int z1_4)]) X.1 X.2.1 dX12_listed_29 hl (by decide) rfl (fun ls hl => ?_)
        refine lv_iload X.1 X.2.1 dX12_listed_31 (lv_at hl 0 rfl) ?_
        refine lv_iconst (v := (-1)) X.1 X.2.1 dX12_listed_33 (by decide +kernel) ?_
        have B10_86 : ∀ (H : Heap) (locs : List Loc) (ls : Array Slot) (z10_3 : Int32), sgG (KT P) D vwCl (fun q : Nat => base ≤ q) tys ad ks H → va_S (fun q : Nat => base ≤ q) s.heap H locs → lv_has ls 6 [(0, .ref a0), (1, .int x1), (2, .int x2), (3, .int z10_3), (4, .int z1_4)] → W p l e (headSpec (Cond.code yX12_listed cX12_listed 6 (some .int) :: sg_tbl) ({ frames := 35, cells := 0, slots := 0, locals := 819 })).room s m #[.ref a0, .int x1, .int x2] below meth c H locs 0 0 (MQ below (va_Qi (fun r (_ : Unit) => (fun r : Int32 => True) r) (fun _ => sgB (KT P) D vwCl base tys ad ks) (fun q : Nat => base ≤ q)) #[.ref a0, .int x1, .int x2] s 0 0 (fun q : Nat => base ≤ q)) (F0 m 86 ls []) := by
          intro H locs ls z10_3 hG hS hl
          obtain ⟨y11, ey11⟩ : ∃ y : Int32, y = z1_4 + Int32.ofInt 1 := ⟨_, rfl⟩
          refine lv_iinc (v := y11) (lv' := [(4, .int y11), (0, .ref a0), (1, .int x1), (2, .int x2), (3, .int z10_3)]) X.1 X.2.1 dX12_listed_86 hl (k := 4) rfl ey11.symm (by decide) rfl (fun ls hl => ?_)
          refine lv_goto (tgt := 5) X.1 X.2.1 dX12_listed_89 (by decide) ?_
          exact ih1 H _ _ z10_3 y11 hG hS (lv_sub hl [1, 2, 3, 4, 0] rfl) (iv_of (iv_add (a' := 1) (b' := 300) ey11 (iv_lt (b' := 299) (iv_gt_of c4) hz1_4 (iv_mul (a' := 10) (b' := 300) ef3 (iv_c 10 (a := 10) (b := 10) (by decide +kernel)) hf2 (by decide +kernel)) (by decide +kernel)) (iv_c _ (a := 1) (b := 1) (by decide +kernel)) (by decide +kernel)) (a' := 0) (b' := 300) (by decide +kernel)) (iv_stepU ey11 (iv_lt (b' := 299) (iv_gt_of c4) hz1_4 (iv_mul (a' := 10) (b' := 300) ef3 (iv_c 10 (a := 10) (b := 10) (by decide +kernel)) hf2 (by decide +kernel)) (by decide +kernel)) (by decide +kernel) hN1)
        refine lv_icmp_eq (tgt := 86) X.1 X.2.1 dX12_listed_34 (by decide) (fun c9 => ?_) (fun c9 => ?_)
        · exact B10_86 H _ _ z1_3 hG hS (lv_sub hl [1, 2, 3, 4, 5] rfl)
        · refine lv_iload_n X.1 X.2.1 dX12_listed_37 rfl (lv_at hl 3 rfl) ?_
          have B13_75 : ∀ (H : Heap) (locs : List Loc) (ls : Array Slot), sgG (KT P) D vwCl (fun q : Nat => base ≤ q) tys ad ks H → va_S (fun q : Nat => base ≤ q) s.heap H locs → lv_has ls 6 [(0, .ref a0), (1, .int x1), (2, .int x2), (3, .int z1_3), (4, .int z1_4), (5, .int f8)] → W p l e (headSpec (Cond.code yX12_listed cX12_listed 6 (some .int) :: sg_tbl) ({ frames := 35, cells := 0, slots := 0, locals := 819 })).room s m #[.ref a0, .int x1, .int x2] below meth c H locs 0 0 (MQ below (va_Qi (fun r (_ : Unit) => (fun r : Int32 => True) r) (fun _ => sgB (KT P) D vwCl base tys ad ks) (fun q : Nat => base ≤ q)) #[.ref a0, .int x1, .int x2] s 0 0 (fun q : Nat => base ≤ q)) (F0 m 75 ls []) := by
            intro H locs ls hG hS hl
            refine lv_iload_n X.1 X.2.1 dX12_listed_75 rfl (lv_at hl 3 rfl) ?_
            refine lv_iload_n X.1 X.2.1 dX12_listed_76 rfl (lv_at hl 1 rfl) ?_
            refine lv_icmp_ne (tgt := 83) X.1 X.2.1 dX12_listed_77 (by decide) (fun c14 => ?_) (fun c14 => ?_)
            · obtain ⟨y15, ey15⟩ : ∃ y : Int32, y = z1_3 + Int32.ofInt 1 := ⟨_, rfl⟩
              refine lv_iinc (v := y15) (lv' := [(3, .int y15), (0, .ref a0), (1, .int x1), (2, .int x2), (4, .int z1_4), (5, .int f8)]) X.1 X.2.1 dX12_listed_83 hl (k := 3) rfl ey15.symm (by decide) rfl (fun ls hl => ?_)
              exact B10_86 H _ _ y15 hG hS (lv_sub hl [1, 2, 3, 0, 4] rfl)
            · refine lv_iload X.1 X.2.1 dX12_listed_80 (lv_at hl 5 rfl) ?_
              exact sg_iret X hr hlk hb hK hC hG hS trivial dX12_listed_82
          refine lv_if_eq (tgt := 75) X.1 X.2.1 dX12_listed_38 (by decide) (fun c12 => ?_) (fun c12 => ?_)
          · exact B13_75 H _ _ hG hS (lv_sub hl [1, 2, 3, 4, 5, 0] rfl)
          · refine lv_aload_n X.1 X.2.1 dX12_listed_41 rfl (lv_at hl 1 rfl) ?_
            refine lv_aload_n X.1 X.2.1 dX12_listed_42 rfl (lv_at hl 1 rfl) ?_
            refine lv_aload_n X.1 X.2.1 dX12_listed_43 rfl (lv_at hl 1 rfl) ?_
            refine gg_X12_32 X hK hG h0 wl_6_210 kq6 dX12_listed_44 ?_
            refine lv_iconst (v := 0) X.1 X.2.1 dX12_listed_47 (by decide +kernel) ?_
            refine al_54 X hK hG hq6 (iv_vpin (iv_c 0 (a := 0) (b := 0) (by decide +kernel)) (by decide +kernel)) dX12_listed_48 (fun f16 hf16 => ?_)
            have hf16 := sg_nw_now hf16
            have of16 := hf16
            have hf16 : iv (-2147483648) 2147483647 f16 := sg_sp_now hf16 (iv_c 0 (a := 0) (b := 0) (by decide +kernel)) (by decide +kernel) rfl
            refine lv_iload X.1 X.2.1 dX12_listed_49 (lv_at hl 0 rfl) ?_
            refine ca_X12_without_1 X hK hG hC (fun _ h => h) hS hb hp4 a0 h0 f16 f8 wl_8_177 hl.1 (rest := [.ref a0]) rfl (Nat.le_of_ble_eq_true rfl) ⟨Nat.le_of_ble_eq_true rfl, Nat.le_of_ble_eq_true rfl⟩ ⟨Nat.le_of_ble_eq_true rfl, Nat.le_of_ble_eq_true rfl⟩ dX12_listed_51 (fun f17 locs hf17 hS => ?_)
            refine lv_aload_n X.1 X.2.1 dX12_listed_54 rfl (lv_at hl 1 rfl) ?_
            refine gg_X12_32 X hK hG h0 wl_6_210 kq6 dX12_listed_55 ?_
            refine lv_iconst (v := 1) X.1 X.2.1 dX12_listed_58 (by decide +kernel) ?_
            refine al_54 X hK hG hq6 (iv_vpin (iv_c 1 (a := 1) (b := 1) (by decide +kernel)) (by decide +kernel)) dX12_listed_59 (fun f18 hf18 => ?_)
            have hf18 := sg_nw_now hf18
            have of18 := hf18
            have hf18 : iv (-2147483648) 2147483647 f18 := sg_sp_now hf18 (iv_c 1 (a := 1) (b := 1) (by decide +kernel)) (by decide +kernel) rfl
            refine lv_aload_n X.1 X.2.1 dX12_listed_60 rfl (lv_at hl 1 rfl) ?_
            refine gg_X12_32 X hK hG h0 wl_6_210 kq6 dX12_listed_61 ?_
            refine lv_iconst (v := 4) X.1 X.2.1 dX12_listed_64 (by decide +kernel) ?_
            refine al_54 X hK hG hq6 (iv_vpin (iv_c 4 (a := 4) (b := 4) (by decide +kernel)) (by decide +kernel)) dX12_listed_65 (fun f19 hf19 => ?_)
            have hf19 := sg_nw_now hf19
            have of19 := hf19
            have hf19 : iv 0 1000000000 f19 := sg_day hf19 (iv_c 4 (a := 4) (b := 4) (by decide +kernel))
            refine ca_X12_threatsIn_1 X hK hG hC hS hb hp4 a0 h0 f17 f18 f19 (iv_of hf19 (a' := 0) (b' := 2147483647) (by decide +kernel)) wl_8_106 hl.1 (rest := []) rfl (Nat.le_of_ble_eq_true rfl) ⟨Nat.le_of_ble_eq_true rfl, Nat.le_of_ble_eq_true rfl⟩ ⟨Nat.le_of_ble_eq_true rfl, Nat.le_of_ble_eq_true rfl⟩ dX12_listed_66 (fun f20 H locs hf20 hG hS => ?_)
            refine lv_if_eq (tgt := 75) X.1 X.2.1 dX12_listed_69 (by decide) (fun c21 => ?_) (fun c21 => ?_)
            · exact B13_75 H _ _ hG hS (lv_sub hl [1, 2, 3, 4, 5, 0] rfl)
            · refine lv_goto (tgt := 86) X.1 X.2.1 dX12_listed_72 (by decide) ?_
              exact B10_86 H _ _ z1_3 hG hS (lv_sub hl [1, 2, 3, 4, 5] rfl)
  exact B1_5 _ s.heap _ _ 0 0 hG hS (lv_sub hl [2, 3, 4, 1, 0] rfl) (iv_of (iv_c 0 (a := 0) (b := 0) (by decide +kernel)) (a' := 0) (b' := 300) (by decide +kernel)) (Nat.le_refl _)

theorem ca_X12_listed_1   (X : CallFix p m c cc nL s args sg_tbl own) (hK : va_K D vwCl tys s) (hG : sgG (KT P) D vwCl (fun q : Nat => base ≤ q) tys ad ks H) (hC : sgC base s) (hS : va_S (fun q : Nat => base ≤ q) s.heap H locs) (hb : base ≤ s.heap.size) (hp4 : P.2.2.2.2.1 = true) (a0 : Nat) (h0 : isK ad ks 12 a0) (x1 : Int32) (x2 : Int32) (h2 : iv 0 1 x2) (hl : Cond.methodLink own index yX12_listed ∈ sg_tbl) (hsize : ls.size = nL) (hst : st0 = [.int x1, .int x2].reverse ++ .ref a0 :: rest) (hW : (rest.map fun v => v.category).sum ≤ 8) (hR : 36 ≤ R.frames ∧ 844 ≤ R.locals) (hf : cells ≤ R.cells ∧ slots ≤ R.slots) (hdg : decode cc pc = .ok (.invokevirtual index, 3)) (kk : ∀ (r : Int32) (H1 : Heap) (locs1 : List Loc), (fun r : Int32 => True) r → sgG (KT P) D vwCl (fun q : Nat => base ≤ q) tys ad ks H1 → va_S (fun q : Nat => base ≤ q) s.heap H1 locs1 → W p l e R s m args below meth c H1 locs1 cells slots Q (F0 m (pc + 3) ls (.int r :: rest))) : W p l e R s m args below meth c H locs cells slots Q (F0 m pc ls st0) :=
  sg_callVi X hK hG hC hS hb (m_X12_listed_1 l hp4 a0 h0 x1 x2 h2) h0 (k := 12) (ci := 12) rfl (C := RX12) (T := TX12) (N := 53) rfl wl_9_6 wl_1_13 wl_9_5 wl_0_97 (n := 2) (by decide +kernel) rfl rfl rfl hl hsize hst hW hR hf hdg kk

set_option maxHeartbeats 8000000 in
set_option maxRecDepth 100000 in
theorem m_X12_cuts_1 (l : Launch) {D : va_G} {base : Nat} {tys : List (ClassId × FieldType)} {ad ks : List Nat} {P : sgPm} (hp4 : P.2.2.2.2.1 = true) (a0 : Nat) (h0 : isK ad ks 12 a0) (x1 : Int32) : sgMi l (KT P) D vwCl base tys ad ks yX12_cuts cX12_cuts 2 (some .int) ({ frames := 36, cells := 0, slots := 0, locals := 844 }) [.ref a0, .int x1] (fun r : Int32 => True) := by
  refine sg_ofW (by decide +kernel) (Nat.le_of_ble_eq_true rfl) (fun p e s m below meth c X hr hlk hb hK hC hG ls hl => ?_)
  have hS : va_S (fun q : Nat => base ≤ q) s.heap s.heap [] := va_S.rf
  have hl : lv_has ls 2 [(0, .ref a0), (1, .int x1)] := hl
  refine lv_aload_n X.1 X.2.1 dX12_cuts_0 rfl (lv_at hl 0 rfl) ?_
  refine lv_iconst (v := 0) X.1 X.2.1 dX12_cuts_1 (by decide +kernel) ?_
  refine pf_X12_0 X hK hG hS h0 wl_6_178 ⟨_, rfl, (iv_top _)⟩ dX12_cuts_2 (fun H locs hG hS ku1 ru1 => ?_)
  refine lv_aload_n X.1 X.2.1 dX12_cuts_5 rfl (lv_at hl 0 rfl) ?_
  refine gf_X12_23s X hK hG h0 hp4 wl_6_201 dX12_cuts_6 (fun f2 hf2 kf2 => ?_)
  have B4_17 : ∀ (locs : List Loc) (ls : Array Slot), va_S (fun q : Nat => base ≤ q) s.heap H locs → lv_has ls 2 [] → W p l e (headSpec (Cond.code yX12_cuts cX12_cuts 2 (some .int) :: sg_tbl) ({ frames := 36, cells := 0, slots := 0, locals := 844 })).room s m #[.ref a0, .int x1] below meth c H locs 0 0 (MQ below (va_Qi (fun r (_ : Unit) => (fun r : Int32 => True) r) (fun _ => sgB (KT P) D vwCl base tys ad ks) (fun q : Nat => base ≤ q)) #[.ref a0, .int x1] s 0 0 (fun q : Nat => base ≤ q)) (F0 m 17 ls []) := by
    intro locs ls hS hl
    refine lv_iconst (v := (-1)) X.1 X.2.1 dX12_cuts_17 (by decide +kernel) ?_
    refine lv_goto (tgt := 27) X.1 X.2.1 dX12_cuts_18 (by decide) ?_
    exact sg_iret X hr hlk hb hK hC hG hS trivial dX12_cuts_27
  refine lv_if_eq (tgt := 17) X.1 X.2.1 dX12_cuts_9 (by decide) (fun c3 => ?_) (fun c3 => ?_)
  · exact ((iv_no (a := 1) (b := 0) (iv_eqm c3 hf2 (iv_c 0 (a := 0) (b := 0) (by decide +kernel)) (by decide +kernel)) (by decide +kernel))).elim
  · refine lv_iload_n X.1 X.2.1 dX12_cuts_12 rfl (lv_at hl 1 rfl) ?_
    refine lv_iconst (v := (-1)) X.1 X.2.1 dX12_cuts_13 (by decide +kernel) ?_
    refine lv_icmp_ge (tgt := 21) X.1 X.2.1 dX12_cuts_14 (by decide) (fun c5 => ?_) (fun c5 => ?_)
    · refine lv_aload_n X.1 X.2.1 dX12_cuts_21 rfl (lv_at hl 0 rfl) ?_
      refine lv_iload_n X.1 X.2.1 dX12_cuts_22 rfl (lv_at hl 1 rfl) ?_
      refine lv_iconst (v := 0) X.1 X.2.1 dX12_cuts_23 (by decide +kernel) ?_
      refine ca_X12_listed_1 X hK hG hC hS hb hp4 a0 h0 x1 0 (iv_of (iv_c 0 (a := 0) (b := 0) (by decide +kernel)) (a' := 0) (b' := 1) (by decide +kernel)) wl_9_3 hl.1 (rest := []) rfl (Nat.le_of_ble_eq_true rfl) ⟨Nat.le_of_ble_eq_true rfl, Nat.le_of_ble_eq_true rfl⟩ ⟨Nat.le_of_ble_eq_true rfl, Nat.le_of_ble_eq_true rfl⟩ dX12_cuts_24 (fun f6 H locs hf6 hG hS => ?_)
      exact sg_iret X hr hlk hb hK hC hG hS trivial dX12_cuts_27
    · exact B4_17 _ _ hS (lv_sub hl [] rfl)

theorem ca_X12_cuts_1   (X : CallFix p m c cc nL s args sg_tbl own) (hK : va_K D vwCl tys s) (hG : sgG (KT P) D vwCl (fun q : Nat => base ≤ q) tys ad ks H) (hC : sgC base s) (hS : va_S (fun q : Nat => base ≤ q) s.heap H locs) (hb : base ≤ s.heap.size) (hp4 : P.2.2.2.2.1 = true) (a0 : Nat) (h0 : isK ad ks 12 a0) (x1 : Int32) (hl : Cond.methodLink own index yX12_cuts ∈ sg_tbl) (hsize : ls.size = nL) (hst : st0 = [.int x1].reverse ++ .ref a0 :: rest) (hW : (rest.map fun v => v.category).sum ≤ 8) (hR : 37 ≤ R.frames ∧ 865 ≤ R.locals) (hf : cells ≤ R.cells ∧ slots ≤ R.slots) (hdg : decode cc pc = .ok (.invokevirtual index, 3)) (kk : ∀ (r : Int32) (H1 : Heap) (locs1 : List Loc), (fun r : Int32 => True) r → sgG (KT P) D vwCl (fun q : Nat => base ≤ q) tys ad ks H1 → va_S (fun q : Nat => base ≤ q) s.heap H1 locs1 → W p l e R s m args below meth c H1 locs1 cells slots Q (F0 m (pc + 3) ls (.int r :: rest))) : W p l e R s m args below meth c H locs cells slots Q (F0 m pc ls st0) :=
  sg_callVi X hK hG hC hS hb (m_X12_cuts_1 l hp4 a0 h0 x1) h0 (k := 12) (ci := 12) rfl (C := RX12) (T := TX12) (N := 53) rfl wl_9_2 wl_1_13 wl_9_0 wl_9_1 (n := 1) (by decide +kernel) rfl rfl rfl hl hsize hst hW hR hf hdg kk

set_option maxHeartbeats 8000000 in
set_option maxRecDepth 100000 in
theorem m_X12_answers_1 (l : Launch) {D : va_G} {base : Nat} {tys : List (ClassId × FieldType)} {ad ks : List Nat} {P : sgPm} (hp4 : P.2.2.2.2.1 = true) (a0 : Nat) (h0 : isK ad ks 12 a0) (x1 : Int32) : sgMi l (KT P) D vwCl base tys ad ks yX12_answers cX12_answers 2 (some .int) ({ frames := 36, cells := 0, slots := 0, locals := 844 }) [.ref a0, .int x1] (fun r : Int32 => True) := by
  refine sg_ofW (by decide +kernel) (Nat.le_of_ble_eq_true rfl) (fun p e s m below meth c X hr hlk hb hK hC hG ls hl => ?_)
  have hS : va_S (fun q : Nat => base ≤ q) s.heap s.heap [] := va_S.rf
  have hl : lv_has ls 2 [(0, .ref a0), (1, .int x1)] := hl
  refine lv_aload_n X.1 X.2.1 dX12_answers_0 rfl (lv_at hl 0 rfl) ?_
  refine lv_iconst (v := 0) X.1 X.2.1 dX12_answers_1 (by decide +kernel) ?_
  refine pf_X12_0 X hK hG hS h0 wl_6_178 ⟨_, rfl, (iv_top _)⟩ dX12_answers_2 (fun H locs hG hS ku1 ru1 => ?_)
  refine lv_aload_n X.1 X.2.1 dX12_answers_5 rfl (lv_at hl 0 rfl) ?_
  refine gf_X12_23s X hK hG h0 hp4 wl_6_201 dX12_answers_6 (fun f2 hf2 kf2 => ?_)
  have B4_17 : ∀ (locs : List Loc) (ls : Array Slot), va_S (fun q : Nat => base ≤ q) s.heap H locs → lv_has ls 2 [] → W p l e (headSpec (Cond.code yX12_answers cX12_answers 2 (some .int) :: sg_tbl) ({ frames := 36, cells := 0, slots := 0, locals := 844 })).room s m #[.ref a0, .int x1] below meth c H locs 0 0 (MQ below (va_Qi (fun r (_ : Unit) => (fun r : Int32 => True) r) (fun _ => sgB (KT P) D vwCl base tys ad ks) (fun q : Nat => base ≤ q)) #[.ref a0, .int x1] s 0 0 (fun q : Nat => base ≤ q)) (F0 m 17 ls []) := by
    intro locs ls hS hl
    refine lv_iconst (v := (-1)) X.1 X.2.1 dX12_answers_17 (by decide +kernel) ?_
    refine lv_goto (tgt := 27) X.1 X.2.1 dX12_answers_18 (by decide) ?_
    exact sg_iret X hr hlk hb hK hC hG hS trivial dX12_answers_27
  refine lv_if_eq (tgt := 17) X.1 X.2.1 dX12_answers_9 (by decide) (fun c3 => ?_) (fun c3 => ?_)
  · exact ((iv_no (a := 1) (b := 0) (iv_eqm c3 hf2 (iv_c 0 (a := 0) (b := 0) (by decide +kernel)) (by decide +kernel)) (by decide +kernel))).elim
  · refine lv_iload_n X.1 X.2.1 dX12_answers_12 rfl (lv_at hl 1 rfl) ?_
    refine lv_iconst (v := (-1)) X.1 X.2.1 dX12_answers_13 (by decide +kernel) ?_
    refine lv_icmp_ge (tgt := 21) X.1 X.2.1 dX12_answers_14 (by decide) (fun c5 => ?_) (fun c5 => ?_)
    · refine lv_aload_n X.1 X.2.1 dX12_answers_21 rfl (lv_at hl 0 rfl) ?_
      refine lv_iload_n X.1 X.2.1 dX12_answers_22 rfl (lv_at hl 1 rfl) ?_
      refine lv_iconst (v := 1) X.1 X.2.1 dX12_answers_23 (by decide +kernel) ?_
      refine ca_X12_listed_1 X hK hG hC hS hb hp4 a0 h0 x1 1 (iv_of (iv_c 1 (a := 1) (b := 1) (by decide +kernel)) (a' := 0) (b' := 1) (by decide +kernel)) wl_9_3 hl.1 (rest := []) rfl (Nat.le_of_ble_eq_true rfl) ⟨Nat.le_of_ble_eq_true rfl, Nat.le_of_ble_eq_true rfl⟩ ⟨Nat.le_of_ble_eq_true rfl, Nat.le_of_ble_eq_true rfl⟩ dX12_answers_24 (fun f6 H locs hf6 hG hS => ?_)
      exact sg_iret X hr hlk hb hK hC hG hS trivial dX12_answers_27
    · exact B4_17 _ _ hS (lv_sub hl [] rfl)

theorem ca_X12_answers_1   (X : CallFix p m c cc nL s args sg_tbl own) (hK : va_K D vwCl tys s) (hG : sgG (KT P) D vwCl (fun q : Nat => base ≤ q) tys ad ks H) (hC : sgC base s) (hS : va_S (fun q : Nat => base ≤ q) s.heap H locs) (hb : base ≤ s.heap.size) (hp4 : P.2.2.2.2.1 = true) (a0 : Nat) (h0 : isK ad ks 12 a0) (x1 : Int32) (hl : Cond.methodLink own index yX12_answers ∈ sg_tbl) (hsize : ls.size = nL) (hst : st0 = [.int x1].reverse ++ .ref a0 :: rest) (hW : (rest.map fun v => v.category).sum ≤ 8) (hR : 37 ≤ R.frames ∧ 865 ≤ R.locals) (hf : cells ≤ R.cells ∧ slots ≤ R.slots) (hdg : decode cc pc = .ok (.invokevirtual index, 3)) (kk : ∀ (r : Int32) (H1 : Heap) (locs1 : List Loc), (fun r : Int32 => True) r → sgG (KT P) D vwCl (fun q : Nat => base ≤ q) tys ad ks H1 → va_S (fun q : Nat => base ≤ q) s.heap H1 locs1 → W p l e R s m args below meth c H1 locs1 cells slots Q (F0 m (pc + 3) ls (.int r :: rest))) : W p l e R s m args below meth c H locs cells slots Q (F0 m pc ls st0) :=
  sg_callVi X hK hG hC hS hb (m_X12_answers_1 l hp4 a0 h0 x1) h0 (k := 12) (ci := 12) rfl (C := RX12) (T := TX12) (N := 53) rfl wl_9_10 wl_1_13 wl_9_8 wl_9_9 (n := 1) (by decide +kernel) rfl rfl rfl hl hsize hst hW hR hf hdg kk

set_option maxHeartbeats 8000000 in
set_option maxRecDepth 100000 in
theorem m_X12_layAdvice_1 (l : Launch) {D : va_G} {base : Nat} {tys : List (ClassId × FieldType)} {ad ks : List Nat} {P : sgPm} (hp4 : P.2.2.2.2.1 = true) (a0 : Nat) (h0 : isK ad ks 12 a0) (x1 : Int32) (x2 : Int32) (x3 : Int32) (h3 : iv 0 2147483647 x3) : sgMv l (KT P) D vwCl base tys ad ks yX12_layAdvice cX12_layAdvice 7 none ({ frames := 35, cells := 0, slots := 0, locals := 819 }) [.ref a0, .int x1, .int x2, .int x3] := by
  refine sg_ofW (by decide +kernel) (Nat.le_of_ble_eq_true rfl) (fun p e s m below meth c X hr hlk hb hK hC hG ls hl => ?_)
  have hS : va_S (fun q : Nat => base ≤ q) s.heap s.heap [] := va_S.rf
  have hl : lv_has ls 7 [(0, .ref a0), (1, .int x1), (2, .int x2), (3, .int x3)] := hl
  refine lv_aload_n X.1 X.2.1 dX12_layAdvice_0 rfl (lv_at hl 0 rfl) ?_
  refine lv_iconst (v := (-1)) X.1 X.2.1 dX12_layAdvice_1 (by decide +kernel) ?_
  refine pf_X12_42 X hK hG hS h0 wl_6_220 ⟨_, rfl, (iv_top _)⟩ dX12_layAdvice_2 (fun H locs hG hS ku1 ru1 => ?_)
  refine lv_iconst (v := 0) X.1 X.2.1 dX12_layAdvice_5 (by decide +kernel) ?_
  refine lv_istore (lv' := [(4, .int 0), (0, .ref a0), (1, .int x1), (2, .int x2), (3, .int x3)]) X.1 X.2.1 dX12_layAdvice_6 hl (by decide) rfl (fun ls hl => ?_)
  have B2_8 : ∀ (N : Nat) (H : Heap) (locs : List Loc) (ls : Array Slot) (z2_4 : Int32), sgG (KT P) D vwCl (fun q : Nat => base ≤ q) tys ad ks H → va_S (fun q : Nat => base ≤ q) s.heap H locs → lv_has ls 7 [(0, .ref a0), (1, .int x1), (2, .int x2), (3, .int x3), (4, .int z2_4)] → iv 0 300 z2_4 → (301 - z2_4.toInt).toNat ≤ N → W p l e (headSpec (Cond.code yX12_layAdvice cX12_layAdvice 7 none :: sg_tbl) ({ frames := 35, cells := 0, slots := 0, locals := 819 })).room s m #[.ref a0, .int x1, .int x2, .int x3] below meth c H locs 0 0 (MQ below (va_Qv (fun (_ : Unit) => True) (fun _ => sgB (KT P) D vwCl base tys ad ks) (fun q : Nat => base ≤ q)) #[.ref a0, .int x1, .int x2, .int x3] s 0 0 (fun q : Nat => base ≤ q)) (F0 m 8 ls []) := by
    intro N; induction N with
    | zero =>
      intro H locs ls z2_4 hG hS hl hz2_4 hN
      exact absurd hN (by have := iv_up hz2_4; omega)
    | succ N ih2 =>
      intro H locs ls z2_4 hG hS hl hz2_4 hN2
      refine lv_iload X.1 X.2.1 dX12_layAdvice_8 (lv_at hl 4 rfl) ?_
      refine lv_bipush (v := 10) X.1 X.2.1 dX12_layAdvice_10 (by decide +kernel) ?_
      refine lv_aload_n X.1 X.2.1 dX12_layAdvice_12 rfl (lv_at hl 0 rfl) ?_
      refine gf_X12_23s X hK hG h0 hp4 wl_6_201 dX12_layAdvice_13 (fun f3 hf3 kf3 => ?_)
      refine lv_imul X.1 X.2.1 dX12_layAdvice_16 ?_
      refine lv_topi (fun f4 ef4 => ?_)
      refine lv_icmp_ge (tgt := 118) X.1 X.2.1 dX12_layAdvice_17 (by decide) (fun c5 => ?_) (fun c5 => ?_)
      · exact sg_vret X hr hlk hb hK hC hG hS dX12_layAdvice_118
      · refine lv_aload_n X.1 X.2.1 dX12_layAdvice_20 rfl (lv_at hl 0 rfl) ?_
        refine lv_iload_n X.1 X.2.1 dX12_layAdvice_21 rfl (lv_at hl 1 rfl) ?_
        refine lv_iload X.1 X.2.1 dX12_layAdvice_22 (lv_at hl 4 rfl) ?_
        refine ca_X12_codeOf_1 X hK hG hC (fun _ h => h) hS hb hp4 a0 h0 x1 z2_4 (iv_of (iv_lt (b' := 299) (iv_gt_of c5) hz2_4 (iv_mul (a' := 10) (b' := 300) ef4 (iv_c 10 (a := 10) (b := 10) (by decide +kernel)) hf3 (by decide +kernel)) (by decide +kernel)) (a' := 0) (b' := 300) (by decide +kernel)) wl_8_173 hl.1 (rest := []) rfl (Nat.le_of_ble_eq_true rfl) ⟨Nat.le_of_ble_eq_true rfl, Nat.le_of_ble_eq_true rfl⟩ ⟨Nat.le_of_ble_eq_true rfl, Nat.le_of_ble_eq_true rfl⟩ dX12_layAdvice_24 (fun f6 locs hf6 hS => ?_)
        refine lv_istore (lv' := [(5, .int f6), (0, .ref a0), (1, .int x1), (2, .int x2), (3, .int x3), (4, .int z2_4)]) X.1 X.2.1 dX12_layAdvice_27 hl (by decide) rfl (fun ls hl => ?_)
        refine lv_iload X.1 X.2.1 dX12_layAdvice_29 (lv_at hl 0 rfl) ?_
        refine lv_iconst (v := (-1)) X.1 X.2.1 dX12_layAdvice_31 (by decide +kernel) ?_
        have B8_112 : ∀ (H : Heap) (locs : List Loc) (ls : Array Slot), sgG (KT P) D vwCl (fun q : Nat => base ≤ q) tys ad ks H → va_S (fun q : Nat => base ≤ q) s.heap H locs → lv_has ls 7 [(0, .ref a0), (1, .int x1), (2, .int x2), (3, .int x3), (4, .int z2_4)] → W p l e (headSpec (Cond.code yX12_layAdvice cX12_layAdvice 7 none :: sg_tbl) ({ frames := 35, cells := 0, slots := 0, locals := 819 })).room s m #[.ref a0, .int x1, .int x2, .int x3] below meth c H locs 0 0 (MQ below (va_Qv (fun (_ : Unit) => True) (fun _ => sgB (KT P) D vwCl base tys ad ks) (fun q : Nat => base ≤ q)) #[.ref a0, .int x1, .int x2, .int x3] s 0 0 (fun q : Nat => base ≤ q)) (F0 m 112 ls []) := by
          intro H locs ls hG hS hl
          obtain ⟨y9, ey9⟩ : ∃ y : Int32, y = z2_4 + Int32.ofInt 1 := ⟨_, rfl⟩
          refine lv_iinc (v := y9) (lv' := [(4, .int y9), (0, .ref a0), (1, .int x1), (2, .int x2), (3, .int x3)]) X.1 X.2.1 dX12_layAdvice_112 hl (k := 4) rfl ey9.symm (by decide) rfl (fun ls hl => ?_)
          refine lv_goto (tgt := 8) X.1 X.2.1 dX12_layAdvice_115 (by decide) ?_
          exact ih2 H _ _ y9 hG hS (lv_sub hl [1, 2, 3, 4, 0] rfl) (iv_of (iv_add (a' := 1) (b' := 300) ey9 (iv_lt (b' := 299) (iv_gt_of c5) hz2_4 (iv_mul (a' := 10) (b' := 300) ef4 (iv_c 10 (a := 10) (b := 10) (by decide +kernel)) hf3 (by decide +kernel)) (by decide +kernel)) (iv_c _ (a := 1) (b := 1) (by decide +kernel)) (by decide +kernel)) (a' := 0) (b' := 300) (by decide +kernel)) (iv_stepU ey9 (iv_lt (b' := 299) (iv_gt_of c5) hz2_4 (iv_mul (a' := 10) (b' := 300) ef4 (iv_c 10 (a := 10) (b := 10) (by decide +kernel)) hf3 (by decide +kernel)) (by decide +kernel)) (by decide +kernel) hN2)
        refine lv_icmp_ne (tgt := 38) X.1 X.2.1 dX12_layAdvice_32 (by decide) (fun c7 => ?_) (fun c7 => ?_)
        · refine lv_aload_n X.1 X.2.1 dX12_layAdvice_38 rfl (lv_at hl 1 rfl) ?_
          refine lv_aload_n X.1 X.2.1 dX12_layAdvice_39 rfl (lv_at hl 1 rfl) ?_
          refine lv_iload_n X.1 X.2.1 dX12_layAdvice_40 rfl (lv_at hl 2 rfl) ?_
          refine lv_iload X.1 X.2.1 dX12_layAdvice_41 (lv_at hl 0 rfl) ?_
          refine ca_X12_without_1 X hK hG hC (fun _ h => h) hS hb hp4 a0 h0 x1 f6 wl_8_177 hl.1 (rest := [.ref a0]) rfl (Nat.le_of_ble_eq_true rfl) ⟨Nat.le_of_ble_eq_true rfl, Nat.le_of_ble_eq_true rfl⟩ ⟨Nat.le_of_ble_eq_true rfl, Nat.le_of_ble_eq_true rfl⟩ dX12_layAdvice_43 (fun f10 locs hf10 hS => ?_)
          refine lv_iload_n X.1 X.2.1 dX12_layAdvice_46 rfl (lv_at hl 3 rfl) ?_
          refine lv_iload_n X.1 X.2.1 dX12_layAdvice_47 rfl (lv_at hl 4 rfl) ?_
          refine ca_X12_threatsIn_1 X hK hG hC hS hb hp4 a0 h0 f10 x2 x3 h3 wl_8_106 hl.1 (rest := []) rfl (Nat.le_of_ble_eq_true rfl) ⟨Nat.le_of_ble_eq_true rfl, Nat.le_of_ble_eq_true rfl⟩ ⟨Nat.le_of_ble_eq_true rfl, Nat.le_of_ble_eq_true rfl⟩ dX12_layAdvice_48 (fun f11 H locs hf11 hG hS => ?_)
          refine ca_J6_bitCount_0f7a4 X hK hG hC (fun _ h => h) hS hb f11 wl_8_68 hl.1 (rest := []) rfl (Nat.le_of_ble_eq_true rfl) ⟨Nat.le_of_ble_eq_true rfl, Nat.le_of_ble_eq_true rfl⟩ ⟨Nat.le_of_ble_eq_true rfl, Nat.le_of_ble_eq_true rfl⟩ dX12_layAdvice_51 (fun f12 locs hf12 hS => ?_)
          refine lv_istore (lv' := [(6, .int f12), (5, .int f6), (0, .ref a0), (1, .int x1), (2, .int x2), (3, .int x3), (4, .int z2_4)]) X.1 X.2.1 dX12_layAdvice_54 hl (by decide) rfl (fun ls hl => ?_)
          refine lv_aload_n X.1 X.2.1 dX12_layAdvice_56 rfl (lv_at hl 2 rfl) ?_
          refine gf_X12_42 X hK hG h0 wl_6_220 dX12_layAdvice_57 (fun f13 hf13 kf13 => ?_)
          refine lv_iconst (v := (-1)) X.1 X.2.1 dX12_layAdvice_60 (by decide +kernel) ?_
          have B15_100 : ∀ (locs : List Loc) (ls : Array Slot), va_S (fun q : Nat => base ≤ q) s.heap H locs → lv_has ls 7 [(0, .ref a0), (1, .int x1), (2, .int x2), (3, .int x3), (4, .int z2_4), (5, .int f6), (6, .int f12)] → W p l e (headSpec (Cond.code yX12_layAdvice cX12_layAdvice 7 none :: sg_tbl) ({ frames := 35, cells := 0, slots := 0, locals := 819 })).room s m #[.ref a0, .int x1, .int x2, .int x3] below meth c H locs 0 0 (MQ below (va_Qv (fun (_ : Unit) => True) (fun _ => sgB (KT P) D vwCl base tys ad ks) (fun q : Nat => base ≤ q)) #[.ref a0, .int x1, .int x2, .int x3] s 0 0 (fun q : Nat => base ≤ q)) (F0 m 100 ls []) := by
            intro locs ls hS hl
            refine lv_aload_n X.1 X.2.1 dX12_layAdvice_100 rfl (lv_at hl 0 rfl) ?_
            refine lv_iload X.1 X.2.1 dX12_layAdvice_101 (lv_at hl 5 rfl) ?_
            refine pf_X12_42 X hK hG hS h0 wl_6_220 ⟨_, rfl, (iv_top _)⟩ dX12_layAdvice_103 (fun H locs hG hS ku16 ru16 => ?_)
            refine lv_aload_n X.1 X.2.1 dX12_layAdvice_106 rfl (lv_at hl 0 rfl) ?_
            refine lv_iload X.1 X.2.1 dX12_layAdvice_107 (lv_at hl 6 rfl) ?_
            refine pf_X12_43 X hK hG hS h0 wl_6_221 ⟨_, rfl, (iv_top _)⟩ dX12_layAdvice_109 (fun H locs hG hS ku17 ru17 => ?_)
            exact B8_112 H _ _ hG hS (lv_sub hl [0, 1, 2, 3, 4] rfl)
          refine lv_icmp_eq (tgt := 100) X.1 X.2.1 dX12_layAdvice_61 (by decide) (fun c14 => ?_) (fun c14 => ?_)
          · exact B15_100 _ _ hS (lv_sub hl [2, 3, 4, 5, 6, 1, 0] rfl)
          · refine lv_iload X.1 X.2.1 dX12_layAdvice_64 (lv_at hl 0 rfl) ?_
            refine lv_aload_n X.1 X.2.1 dX12_layAdvice_66 rfl (lv_at hl 2 rfl) ?_
            refine gf_X12_43 X hK hG h0 wl_6_221 dX12_layAdvice_67 (fun f18 hf18 kf18 => ?_)
            refine lv_icmp_gt (tgt := 112) X.1 X.2.1 dX12_layAdvice_70 (by decide) (fun c19 => ?_) (fun c19 => ?_)
            · exact B8_112 H _ _ hG hS (lv_sub hl [2, 3, 4, 5, 6] rfl)
            · refine lv_iload X.1 X.2.1 dX12_layAdvice_73 (lv_at hl 0 rfl) ?_
              refine lv_aload_n X.1 X.2.1 dX12_layAdvice_75 rfl (lv_at hl 2 rfl) ?_
              refine gg_X12_43 X hK hG h0 wl_6_221 kf18 dX12_layAdvice_76 ?_
              refine lv_icmp_ne (tgt := 100) X.1 X.2.1 dX12_layAdvice_79 (by decide) (fun c20 => ?_) (fun c20 => ?_)
              · exact B15_100 _ _ hS (lv_sub hl [2, 3, 4, 5, 6, 1, 0] rfl)
              · refine lv_iload X.1 X.2.1 dX12_layAdvice_82 (lv_at hl 1 rfl) ?_
                refine lv_bipush (v := 10) X.1 X.2.1 dX12_layAdvice_84 (by decide +kernel) ?_
                refine lv_irem X.1 X.2.1 dX12_layAdvice_86 (iv_ne0 (iv_c 10 (a := 10) (b := 10) (by decide +kernel)) (by decide +kernel)) ?_
                refine lv_topi (fun f21 ef21 => ?_)
                refine lv_aload_n X.1 X.2.1 dX12_layAdvice_87 rfl (lv_at hl 2 rfl) ?_
                refine gg_X12_42 X hK hG h0 wl_6_220 kf13 dX12_layAdvice_88 ?_
                refine lv_bipush (v := 10) X.1 X.2.1 dX12_layAdvice_91 (by decide +kernel) ?_
                refine lv_irem X.1 X.2.1 dX12_layAdvice_93 (iv_ne0 (iv_c 10 (a := 10) (b := 10) (by decide +kernel)) (by decide +kernel)) ?_
                refine lv_topi (fun f22 ef22 => ?_)
                refine lv_icmp_gt (tgt := 100) X.1 X.2.1 dX12_layAdvice_94 (by decide) (fun c23 => ?_) (fun c23 => ?_)
                · exact B15_100 _ _ hS (lv_sub hl [2, 3, 4, 5, 6, 1, 0] rfl)
                · refine lv_goto (tgt := 112) X.1 X.2.1 dX12_layAdvice_97 (by decide) ?_
                  exact B8_112 H _ _ hG hS (lv_sub hl [2, 3, 4, 5, 6] rfl)
        · refine lv_goto (tgt := 112) X.1 X.2.1 dX12_layAdvice_35 (by decide) ?_
          exact B8_112 H _ _ hG hS (lv_sub hl [1, 2, 3, 4, 5] rfl)
  exact B2_8 _ H _ _ 0 hG hS (lv_sub hl [1, 2, 3, 4, 0] rfl) (iv_of (iv_c 0 (a := 0) (b := 0) (by decide +kernel)) (a' := 0) (b' := 300) (by decide +kernel)) (Nat.le_refl _)

theorem ca_X12_layAdvice_1   (X : CallFix p m c cc nL s args sg_tbl own) (hK : va_K D vwCl tys s) (hG : sgG (KT P) D vwCl (fun q : Nat => base ≤ q) tys ad ks H) (hC : sgC base s) (hS : va_S (fun q : Nat => base ≤ q) s.heap H locs) (hb : base ≤ s.heap.size) (hp4 : P.2.2.2.2.1 = true) (a0 : Nat) (h0 : isK ad ks 12 a0) (x1 : Int32) (x2 : Int32) (x3 : Int32) (h3 : iv 0 2147483647 x3) (hl : Cond.methodLink own index yX12_layAdvice ∈ sg_tbl) (hsize : ls.size = nL) (hst : st0 = [.int x1, .int x2, .int x3].reverse ++ .ref a0 :: rest) (hW : (rest.map fun v => v.category).sum ≤ 8) (hR : 36 ≤ R.frames ∧ 845 ≤ R.locals) (hf : cells ≤ R.cells ∧ slots ≤ R.slots) (hdg : decode cc pc = .ok (.invokevirtual index, 3)) (kk : ∀ (H1 : Heap) (locs1 : List Loc), sgG (KT P) D vwCl (fun q : Nat => base ≤ q) tys ad ks H1 → va_S (fun q : Nat => base ≤ q) s.heap H1 locs1 → W p l e R s m args below meth c H1 locs1 cells slots Q (F0 m (pc + 3) ls rest)) : W p l e R s m args below meth c H locs cells slots Q (F0 m pc ls st0) :=
  sg_callVv X hK hG hC hS hb (m_X12_layAdvice_1 l hp4 a0 h0 x1 x2 x3 h3) h0 (k := 12) (ci := 12) rfl (C := RX12) (T := TX12) (N := 53) rfl wl_8_172 wl_1_13 wl_8_171 wl_0_88 (n := 3) (by decide +kernel) rfl rfl rfl hl hsize hst hW hR hf hdg kk

set_option maxHeartbeats 8000000 in
set_option maxRecDepth 100000 in
theorem m_X12_advice_1 (l : Launch) {D : va_G} {base : Nat} {tys : List (ClassId × FieldType)} {ad ks : List Nat} {P : sgPm} (hp4 : P.2.2.2.2.1 = true) (a0 : Nat) (h0 : isK ad ks 12 a0) (x1 : Int32) : sgMi l (KT P) D vwCl base tys ad ks yX12_advice cX12_advice 2 (some .int) ({ frames := 36, cells := 0, slots := 0, locals := 845 }) [.ref a0, .int x1] (fun r : Int32 => True) := by
  refine sg_ofW (by decide +kernel) (Nat.le_of_ble_eq_true rfl) (fun p e s m below meth c X hr hlk hb hK hC hG ls hl => ?_)
  have hS : va_S (fun q : Nat => base ≤ q) s.heap s.heap [] := va_S.rf
  have hl : lv_has ls 2 [(0, .ref a0), (1, .int x1)] := hl
  refine lv_aload_n X.1 X.2.1 dX12_advice_0 rfl (lv_at hl 0 rfl) ?_
  refine lv_iconst (v := 0) X.1 X.2.1 dX12_advice_1 (by decide +kernel) ?_
  refine pf_X12_0 X hK hG hS h0 wl_6_178 ⟨_, rfl, (iv_top _)⟩ dX12_advice_2 (fun H locs hG hS ku1 ru1 => ?_)
  refine lv_aload_n X.1 X.2.1 dX12_advice_5 rfl (lv_at hl 0 rfl) ?_
  refine gf_X12_23s X hK hG h0 hp4 wl_6_201 dX12_advice_6 (fun f2 hf2 kf2 => ?_)
  refine lv_if_eq (tgt := 22) X.1 X.2.1 dX12_advice_9 (by decide) (fun c3 => ?_) (fun c3 => ?_)
  · exact ((iv_no (a := 1) (b := 0) (iv_eqm c3 hf2 (iv_c 0 (a := 0) (b := 0) (by decide +kernel)) (by decide +kernel)) (by decide +kernel))).elim
  · refine lv_iload_n X.1 X.2.1 dX12_advice_12 rfl (lv_at hl 1 rfl) ?_
    obtain ⟨g4, eg4⟩ : ∃ y : Int64, y = (x1 : Int32).toInt64 := ⟨_, rfl⟩
    refine lv_i2l (v := g4) X.1 X.2.1 dX12_advice_13 eg4.symm ?_
    refine lv_lconst (v := 0) X.1 X.2.1 dX12_advice_14 (by decide +kernel) ?_
    refine lv_lconst (v := 1) X.1 X.2.1 dX12_advice_15 (by decide +kernel) ?_
    refine ca_X12_isIn X hK hG hC (fun _ h => h) hS hb g4 0 1 wl_7_119 hl.1 (rest := []) rfl (Nat.le_of_ble_eq_true rfl) ⟨Nat.le_of_ble_eq_true rfl, Nat.le_of_ble_eq_true rfl⟩ ⟨Nat.le_of_ble_eq_true rfl, Nat.le_of_ble_eq_true rfl⟩ dX12_advice_16 (fun f5 locs hf5 hS => ?_)
    refine lv_if_ne (tgt := 24) X.1 X.2.1 dX12_advice_19 (by decide) (fun c6 => ?_) (fun c6 => ?_)
    · refine lv_aload_n X.1 X.2.1 dX12_advice_24 rfl (lv_at hl 0 rfl) ?_
      refine lv_aload_n X.1 X.2.1 dX12_advice_25 rfl (lv_at hl 0 rfl) ?_
      refine gf_X12_32 X hK hG h0 wl_6_210 dX12_advice_26 (fun q7 hq7 kq7 => ?_)
      refine lv_iconst (v := 0) X.1 X.2.1 dX12_advice_29 (by decide +kernel) ?_
      refine al_54 X hK hG hq7 (iv_vpin (iv_c 0 (a := 0) (b := 0) (by decide +kernel)) (by decide +kernel)) dX12_advice_30 (fun f8 hf8 => ?_)
      have hf8 := sg_nw_now hf8
      have of8 := hf8
      have hf8 : iv (-2147483648) 2147483647 f8 := sg_sp_now hf8 (iv_c 0 (a := 0) (b := 0) (by decide +kernel)) (by decide +kernel) rfl
      refine lv_aload_n X.1 X.2.1 dX12_advice_31 rfl (lv_at hl 0 rfl) ?_
      refine gg_X12_32 X hK hG h0 wl_6_210 kq7 dX12_advice_32 ?_
      refine lv_iconst (v := 1) X.1 X.2.1 dX12_advice_35 (by decide +kernel) ?_
      refine al_54 X hK hG hq7 (iv_vpin (iv_c 1 (a := 1) (b := 1) (by decide +kernel)) (by decide +kernel)) dX12_advice_36 (fun f9 hf9 => ?_)
      have hf9 := sg_nw_now hf9
      have of9 := hf9
      have hf9 : iv (-2147483648) 2147483647 f9 := sg_sp_now hf9 (iv_c 1 (a := 1) (b := 1) (by decide +kernel)) (by decide +kernel) rfl
      refine lv_aload_n X.1 X.2.1 dX12_advice_37 rfl (lv_at hl 0 rfl) ?_
      refine gg_X12_32 X hK hG h0 wl_6_210 kq7 dX12_advice_38 ?_
      refine lv_iconst (v := 4) X.1 X.2.1 dX12_advice_41 (by decide +kernel) ?_
      refine al_54 X hK hG hq7 (iv_vpin (iv_c 4 (a := 4) (b := 4) (by decide +kernel)) (by decide +kernel)) dX12_advice_42 (fun f10 hf10 => ?_)
      have hf10 := sg_nw_now hf10
      have of10 := hf10
      have hf10 : iv 0 1000000000 f10 := sg_day hf10 (iv_c 4 (a := 4) (b := 4) (by decide +kernel))
      refine ca_X12_layAdvice_1 X hK hG hC hS hb hp4 a0 h0 f8 f9 f10 (iv_of hf10 (a' := 0) (b' := 2147483647) (by decide +kernel)) wl_8_169 hl.1 (rest := []) rfl (Nat.le_of_ble_eq_true rfl) ⟨Nat.le_of_ble_eq_true rfl, Nat.le_of_ble_eq_true rfl⟩ ⟨Nat.le_of_ble_eq_true rfl, Nat.le_of_ble_eq_true rfl⟩ dX12_advice_43 (fun H locs hG hS => ?_)
      refine lv_aload_n X.1 X.2.1 dX12_advice_46 rfl (lv_at hl 0 rfl) ?_
      refine gf_X12_42 X hK hG h0 wl_6_220 dX12_advice_47 (fun f12 hf12 kf12 => ?_)
      refine lv_iconst (v := (-1)) X.1 X.2.1 dX12_advice_50 (by decide +kernel) ?_
      refine lv_icmp_ne (tgt := 58) X.1 X.2.1 dX12_advice_51 (by decide) (fun c13 => ?_) (fun c13 => ?_)
      · refine lv_iload_n X.1 X.2.1 dX12_advice_58 rfl (lv_at hl 1 rfl) ?_
        refine lv_if_ne (tgt := 69) X.1 X.2.1 dX12_advice_59 (by decide) (fun c14 => ?_) (fun c14 => ?_)
        · refine lv_aload_n X.1 X.2.1 dX12_advice_69 rfl (lv_at hl 0 rfl) ?_
          refine gf_X12_43 X hK hG h0 wl_6_221 dX12_advice_70 (fun f15 hf15 kf15 => ?_)
          exact sg_iret X hr hlk hb hK hC hG hS trivial dX12_advice_73
        · refine lv_aload_n X.1 X.2.1 dX12_advice_62 rfl (lv_at hl 0 rfl) ?_
          refine gg_X12_42 X hK hG h0 wl_6_220 kf12 dX12_advice_63 ?_
          refine lv_goto (tgt := 73) X.1 X.2.1 dX12_advice_66 (by decide) ?_
          exact sg_iret X hr hlk hb hK hC hG hS trivial dX12_advice_73
      · refine lv_iconst (v := (-1)) X.1 X.2.1 dX12_advice_54 (by decide +kernel) ?_
        refine lv_goto (tgt := 73) X.1 X.2.1 dX12_advice_55 (by decide) ?_
        exact sg_iret X hr hlk hb hK hC hG hS trivial dX12_advice_73
    · refine lv_iconst (v := (-1)) X.1 X.2.1 dX12_advice_22 (by decide +kernel) ?_
      exact sg_iret X hr hlk hb hK hC hG hS trivial dX12_advice_23

theorem ca_X12_advice_1   (X : CallFix p m c cc nL s args sg_tbl own) (hK : va_K D vwCl tys s) (hG : sgG (KT P) D vwCl (fun q : Nat => base ≤ q) tys ad ks H) (hC : sgC base s) (hS : va_S (fun q : Nat => base ≤ q) s.heap H locs) (hb : base ≤ s.heap.size) (hp4 : P.2.2.2.2.1 = true) (a0 : Nat) (h0 : isK ad ks 12 a0) (x1 : Int32) (hl : Cond.methodLink own index yX12_advice ∈ sg_tbl) (hsize : ls.size = nL) (hst : st0 = [.int x1].reverse ++ .ref a0 :: rest) (hW : (rest.map fun v => v.category).sum ≤ 8) (hR : 37 ≤ R.frames ∧ 866 ≤ R.locals) (hf : cells ≤ R.cells ∧ slots ≤ R.slots) (hdg : decode cc pc = .ok (.invokevirtual index, 3)) (kk : ∀ (r : Int32) (H1 : Heap) (locs1 : List Loc), (fun r : Int32 => True) r → sgG (KT P) D vwCl (fun q : Nat => base ≤ q) tys ad ks H1 → va_S (fun q : Nat => base ≤ q) s.heap H1 locs1 → W p l e R s m args below meth c H1 locs1 cells slots Q (F0 m (pc + 3) ls (.int r :: rest))) : W p l e R s m args below meth c H locs cells slots Q (F0 m pc ls st0) :=
  sg_callVi X hK hG hC hS hb (m_X12_advice_1 l hp4 a0 h0 x1) h0 (k := 12) (ci := 12) rfl (C := RX12) (T := TX12) (N := 53) rfl wl_9_14 wl_1_13 wl_9_12 wl_9_13 (n := 1) (by decide +kernel) rfl rfl rfl hl hsize hst hW hR hf hdg kk

set_option maxHeartbeats 8000000 in
set_option maxRecDepth 100000 in
theorem m_X12_canHold_1 (l : Launch) {D : va_G} {base : Nat} {tys : List (ClassId × FieldType)} {ad ks : List Nat} {P : sgPm} (hp4 : P.2.2.2.2.1 = true) (a0 : Nat) (h0 : isK ad ks 12 a0) (x1 : Int32) : sgMi l (KT P) D vwCl base tys ad ks yX12_canHold cX12_canHold 5 (some .boolean) ({ frames := 35, cells := 0, slots := 0, locals := 819 }) [.ref a0, .int x1] (fun r : Int32 => iv 0 1 r) := by
  refine sg_ofW (by decide +kernel) (Nat.le_of_ble_eq_true rfl) (fun p e s m below meth c X hr hlk hb hK hC hG ls hl => ?_)
  have hS : va_S (fun q : Nat => base ≤ q) s.heap s.heap [] := va_S.rf
  have hl : lv_has ls 5 [(0, .ref a0), (1, .int x1)] := hl
  refine lv_aload_n X.1 X.2.1 dX12_canHold_0 rfl (lv_at hl 0 rfl) ?_
  refine gf_X12_32 X hK hG h0 wl_6_210 dX12_canHold_1 (fun q1 hq1 kq1 => ?_)
  refine lv_iconst (v := 4) X.1 X.2.1 dX12_canHold_4 (by decide +kernel) ?_
  refine al_54 X hK hG hq1 (iv_vpin (iv_c 4 (a := 4) (b := 4) (by decide +kernel)) (by decide +kernel)) dX12_canHold_5 (fun f2 hf2 => ?_)
  have hf2 := sg_nw_now hf2
  have of2 := hf2
  have hf2 : iv 0 1000000000 f2 := sg_day hf2 (iv_c 4 (a := 4) (b := 4) (by decide +kernel))
  refine lv_iconst (v := 1) X.1 X.2.1 dX12_canHold_6 (by decide +kernel) ?_
  refine lv_iadd X.1 X.2.1 dX12_canHold_7 ?_
  refine lv_topi (fun f3 ef3 => ?_)
  refine lv_istore_n (lv' := [(2, .int f3), (0, .ref a0), (1, .int x1)]) X.1 X.2.1 dX12_canHold_8 rfl hl (by decide) rfl (fun ls hl => ?_)
  refine lv_aload_n X.1 X.2.1 dX12_canHold_9 rfl (lv_at hl 1 rfl) ?_
  refine lv_iload_n X.1 X.2.1 dX12_canHold_10 rfl (lv_at hl 2 rfl) ?_
  refine lv_aload_n X.1 X.2.1 dX12_canHold_11 rfl (lv_at hl 1 rfl) ?_
  refine gg_X12_32 X hK hG h0 wl_6_210 kq1 dX12_canHold_12 ?_
  refine lv_iconst (v := 1) X.1 X.2.1 dX12_canHold_15 (by decide +kernel) ?_
  refine al_54 X hK hG hq1 (iv_vpin (iv_c 1 (a := 1) (b := 1) (by decide +kernel)) (by decide +kernel)) dX12_canHold_16 (fun f4 hf4 => ?_)
  have hf4 := sg_nw_now hf4
  have of4 := hf4
  have hf4 : iv (-2147483648) 2147483647 f4 := sg_sp_now hf4 (iv_c 1 (a := 1) (b := 1) (by decide +kernel)) (by decide +kernel) rfl
  refine lv_iload_n X.1 X.2.1 dX12_canHold_17 rfl (lv_at hl 0 rfl) ?_
  refine ca_X12_threatsIn_1 X hK hG hC hS hb hp4 a0 h0 x1 f4 f3 (iv_of (iv_add (a' := 1) (b' := 1000000001) ef3 hf2 (iv_c 1 (a := 1) (b := 1) (by decide +kernel)) (by decide +kernel)) (a' := 0) (b' := 2147483647) (by decide +kernel)) wl_8_106 hl.1 (rest := []) rfl (Nat.le_of_ble_eq_true rfl) ⟨Nat.le_of_ble_eq_true rfl, Nat.le_of_ble_eq_true rfl⟩ ⟨Nat.le_of_ble_eq_true rfl, Nat.le_of_ble_eq_true rfl⟩ dX12_canHold_18 (fun f5 H locs hf5 hG hS => ?_)
  refine lv_if_ne (tgt := 26) X.1 X.2.1 dX12_canHold_21 (by decide) (fun c6 => ?_) (fun c6 => ?_)
  · refine lv_iconst (v := 0) X.1 X.2.1 dX12_canHold_26 (by decide +kernel) ?_
    refine lv_istore_n (lv' := [(3, .int 0), (2, .int f3), (0, .ref a0), (1, .int x1)]) X.1 X.2.1 dX12_canHold_27 rfl hl (by decide) rfl (fun ls hl => ?_)
    have B7_28 : ∀ (N : Nat) (H : Heap) (locs : List Loc) (ls : Array Slot) (z7_3 : Int32), sgG (KT P) D vwCl (fun q : Nat => base ≤ q) tys ad ks H → va_S (fun q : Nat => base ≤ q) s.heap H locs → lv_has ls 5 [(0, .ref a0), (1, .int x1), (2, .int f3), (3, .int z7_3)] → iv 0 300 z7_3 → (301 - z7_3.toInt).toNat ≤ N → W p l e (headSpec (Cond.code yX12_canHold cX12_canHold 5 (some .boolean) :: sg_tbl) ({ frames := 35, cells := 0, slots := 0, locals := 819 })).room s m #[.ref a0, .int x1] below meth c H locs 0 0 (MQ below (va_Qi (fun r (_ : Unit) => (fun r : Int32 => iv 0 1 r) r) (fun _ => sgB (KT P) D vwCl base tys ad ks) (fun q : Nat => base ≤ q)) #[.ref a0, .int x1] s 0 0 (fun q : Nat => base ≤ q)) (F0 m 28 ls []) := by
      intro N; induction N with
      | zero =>
        intro H locs ls z7_3 hG hS hl hz7_3 hN
        exact absurd hN (by have := iv_up hz7_3; omega)
      | succ N ih7 =>
        intro H locs ls z7_3 hG hS hl hz7_3 hN7
        refine lv_iload_n X.1 X.2.1 dX12_canHold_28 rfl (lv_at hl 3 rfl) ?_
        refine lv_bipush (v := 10) X.1 X.2.1 dX12_canHold_29 (by decide +kernel) ?_
        refine lv_aload_n X.1 X.2.1 dX12_canHold_31 rfl (lv_at hl 0 rfl) ?_
        refine gf_X12_23s X hK hG h0 hp4 wl_6_201 dX12_canHold_32 (fun f8 hf8 kf8 => ?_)
        refine lv_imul X.1 X.2.1 dX12_canHold_35 ?_
        refine lv_topi (fun f9 ef9 => ?_)
        refine lv_icmp_ge (tgt := 82) X.1 X.2.1 dX12_canHold_36 (by decide) (fun c10 => ?_) (fun c10 => ?_)
        · refine lv_iconst (v := 0) X.1 X.2.1 dX12_canHold_82 (by decide +kernel) ?_
          exact sg_zret X hr (sg_zn (iv_of (iv_c 0 (a := 0) (b := 0) (by decide +kernel)) (a' := 0) (b' := 1) (by decide +kernel))) hlk hb hK hC hG hS (iv_of (iv_c 0 (a := 0) (b := 0) (by decide +kernel)) (a' := 0) (b' := 1) (by decide +kernel)) dX12_canHold_83
        · refine lv_aload_n X.1 X.2.1 dX12_canHold_39 rfl (lv_at hl 0 rfl) ?_
          refine lv_iload_n X.1 X.2.1 dX12_canHold_40 rfl (lv_at hl 1 rfl) ?_
          refine lv_iload_n X.1 X.2.1 dX12_canHold_41 rfl (lv_at hl 3 rfl) ?_
          refine ca_X12_codeOf_1 X hK hG hC (fun _ h => h) hS hb hp4 a0 h0 x1 z7_3 (iv_of (iv_lt (b' := 299) (iv_gt_of c10) hz7_3 (iv_mul (a' := 10) (b' := 300) ef9 (iv_c 10 (a := 10) (b := 10) (by decide +kernel)) hf8 (by decide +kernel)) (by decide +kernel)) (a' := 0) (b' := 300) (by decide +kernel)) wl_8_173 hl.1 (rest := []) rfl (Nat.le_of_ble_eq_true rfl) ⟨Nat.le_of_ble_eq_true rfl, Nat.le_of_ble_eq_true rfl⟩ ⟨Nat.le_of_ble_eq_true rfl, Nat.le_of_ble_eq_true rfl⟩ dX12_canHold_42 (fun f11 locs hf11 hS => ?_)
          refine lv_istore (lv' := [(4, .int f11), (0, .ref a0), (1, .int x1), (2, .int f3), (3, .int z7_3)]) X.1 X.2.1 dX12_canHold_45 hl (by decide) rfl (fun ls hl => ?_)
          refine lv_iload X.1 X.2.1 dX12_canHold_47 (lv_at hl 0 rfl) ?_
          refine lv_iconst (v := (-1)) X.1 X.2.1 dX12_canHold_49 (by decide +kernel) ?_
          have B13_76 : ∀ (H : Heap) (locs : List Loc) (ls : Array Slot), sgG (KT P) D vwCl (fun q : Nat => base ≤ q) tys ad ks H → va_S (fun q : Nat => base ≤ q) s.heap H locs → lv_has ls 5 [(0, .ref a0), (1, .int x1), (2, .int f3), (3, .int z7_3)] → W p l e (headSpec (Cond.code yX12_canHold cX12_canHold 5 (some .boolean) :: sg_tbl) ({ frames := 35, cells := 0, slots := 0, locals := 819 })).room s m #[.ref a0, .int x1] below meth c H locs 0 0 (MQ below (va_Qi (fun r (_ : Unit) => (fun r : Int32 => iv 0 1 r) r) (fun _ => sgB (KT P) D vwCl base tys ad ks) (fun q : Nat => base ≤ q)) #[.ref a0, .int x1] s 0 0 (fun q : Nat => base ≤ q)) (F0 m 76 ls []) := by
            intro H locs ls hG hS hl
            obtain ⟨y14, ey14⟩ : ∃ y : Int32, y = z7_3 + Int32.ofInt 1 := ⟨_, rfl⟩
            refine lv_iinc (v := y14) (lv' := [(3, .int y14), (0, .ref a0), (1, .int x1), (2, .int f3)]) X.1 X.2.1 dX12_canHold_76 hl (k := 3) rfl ey14.symm (by decide) rfl (fun ls hl => ?_)
            refine lv_goto (tgt := 28) X.1 X.2.1 dX12_canHold_79 (by decide) ?_
            exact ih7 H _ _ y14 hG hS (lv_sub hl [1, 2, 3, 0] rfl) (iv_of (iv_add (a' := 1) (b' := 300) ey14 (iv_lt (b' := 299) (iv_gt_of c10) hz7_3 (iv_mul (a' := 10) (b' := 300) ef9 (iv_c 10 (a := 10) (b := 10) (by decide +kernel)) hf8 (by decide +kernel)) (by decide +kernel)) (iv_c _ (a := 1) (b := 1) (by decide +kernel)) (by decide +kernel)) (a' := 0) (b' := 300) (by decide +kernel)) (iv_stepU ey14 (iv_lt (b' := 299) (iv_gt_of c10) hz7_3 (iv_mul (a' := 10) (b' := 300) ef9 (iv_c 10 (a := 10) (b := 10) (by decide +kernel)) hf8 (by decide +kernel)) (by decide +kernel)) (by decide +kernel) hN7)
          refine lv_icmp_eq (tgt := 76) X.1 X.2.1 dX12_canHold_50 (by decide) (fun c12 => ?_) (fun c12 => ?_)
          · exact B13_76 H _ _ hG hS (lv_sub hl [1, 2, 3, 4] rfl)
          · refine lv_aload_n X.1 X.2.1 dX12_canHold_53 rfl (lv_at hl 1 rfl) ?_
            refine lv_aload_n X.1 X.2.1 dX12_canHold_54 rfl (lv_at hl 1 rfl) ?_
            refine lv_iload_n X.1 X.2.1 dX12_canHold_55 rfl (lv_at hl 2 rfl) ?_
            refine lv_iload X.1 X.2.1 dX12_canHold_56 (lv_at hl 0 rfl) ?_
            refine ca_X12_without_1 X hK hG hC (fun _ h => h) hS hb hp4 a0 h0 x1 f11 wl_8_177 hl.1 (rest := [.ref a0]) rfl (Nat.le_of_ble_eq_true rfl) ⟨Nat.le_of_ble_eq_true rfl, Nat.le_of_ble_eq_true rfl⟩ ⟨Nat.le_of_ble_eq_true rfl, Nat.le_of_ble_eq_true rfl⟩ dX12_canHold_58 (fun f15 locs hf15 hS => ?_)
            refine lv_aload_n X.1 X.2.1 dX12_canHold_61 rfl (lv_at hl 1 rfl) ?_
            refine gf_X12_32 X hK hG h0 wl_6_210 dX12_canHold_62 (fun q16 hq16 kq16 => ?_)
            refine lv_iconst (v := 1) X.1 X.2.1 dX12_canHold_65 (by decide +kernel) ?_
            refine al_54 X hK hG hq16 (iv_vpin (iv_c 1 (a := 1) (b := 1) (by decide +kernel)) (by decide +kernel)) dX12_canHold_66 (fun f17 hf17 => ?_)
            have hf17 := sg_nw_now hf17
            have of17 := hf17
            have hf17 : iv (-2147483648) 2147483647 f17 := sg_sp_now hf17 (iv_c 1 (a := 1) (b := 1) (by decide +kernel)) (by decide +kernel) rfl
            refine lv_iload_n X.1 X.2.1 dX12_canHold_67 rfl (lv_at hl 3 rfl) ?_
            refine ca_X12_threatsIn_1 X hK hG hC hS hb hp4 a0 h0 f15 f17 f3 (iv_of (iv_add (a' := 1) (b' := 1000000001) ef3 hf2 (iv_c 1 (a := 1) (b := 1) (by decide +kernel)) (by decide +kernel)) (a' := 0) (b' := 2147483647) (by decide +kernel)) wl_8_106 hl.1 (rest := []) rfl (Nat.le_of_ble_eq_true rfl) ⟨Nat.le_of_ble_eq_true rfl, Nat.le_of_ble_eq_true rfl⟩ ⟨Nat.le_of_ble_eq_true rfl, Nat.le_of_ble_eq_true rfl⟩ dX12_canHold_68 (fun f18 H locs hf18 hG hS => ?_)
            refine lv_if_ne (tgt := 76) X.1 X.2.1 dX12_canHold_71 (by decide) (fun c19 => ?_) (fun c19 => ?_)
            · exact B13_76 H _ _ hG hS (lv_sub hl [1, 2, 3, 4] rfl)
            · refine lv_iconst (v := 1) X.1 X.2.1 dX12_canHold_74 (by decide +kernel) ?_
              exact sg_zret X hr (sg_zn (iv_of (iv_c 1 (a := 1) (b := 1) (by decide +kernel)) (a' := 0) (b' := 1) (by decide +kernel))) hlk hb hK hC hG hS (iv_of (iv_c 1 (a := 1) (b := 1) (by decide +kernel)) (a' := 0) (b' := 1) (by decide +kernel)) dX12_canHold_75
    exact B7_28 _ H _ _ 0 hG hS (lv_sub hl [2, 3, 1, 0] rfl) (iv_of (iv_c 0 (a := 0) (b := 0) (by decide +kernel)) (a' := 0) (b' := 300) (by decide +kernel)) (Nat.le_refl _)
  · refine lv_iconst (v := 1) X.1 X.2.1 dX12_canHold_24 (by decide +kernel) ?_
    exact sg_zret X hr (sg_zn (iv_of (iv_c 1 (a := 1) (b := 1) (by decide +kernel)) (a' := 0) (b' := 1) (by decide +kernel))) hlk hb hK hC hG hS (iv_of (iv_c 1 (a := 1) (b := 1) (by decide +kernel)) (a' := 0) (b' := 1) (by decide +kernel)) dX12_canHold_25

theorem ca_X12_canHold_1   (X : CallFix p m c cc nL s args sg_tbl own) (hK : va_K D vwCl tys s) (hG : sgG (KT P) D vwCl (fun q : Nat => base ≤ q) tys ad ks H) (hC : sgC base s) (hS : va_S (fun q : Nat => base ≤ q) s.heap H locs) (hb : base ≤ s.heap.size) (hp4 : P.2.2.2.2.1 = true) (a0 : Nat) (h0 : isK ad ks 12 a0) (x1 : Int32) (hl : Cond.methodLink own index yX12_canHold ∈ sg_tbl) (hsize : ls.size = nL) (hst : st0 = [.int x1].reverse ++ .ref a0 :: rest) (hW : (rest.map fun v => v.category).sum ≤ 8) (hR : 36 ≤ R.frames ∧ 843 ≤ R.locals) (hf : cells ≤ R.cells ∧ slots ≤ R.slots) (hdg : decode cc pc = .ok (.invokevirtual index, 3)) (kk : ∀ (r : Int32) (H1 : Heap) (locs1 : List Loc), (fun r : Int32 => iv 0 1 r) r → sgG (KT P) D vwCl (fun q : Nat => base ≤ q) tys ad ks H1 → va_S (fun q : Nat => base ≤ q) s.heap H1 locs1 → W p l e R s m args below meth c H1 locs1 cells slots Q (F0 m (pc + 3) ls (.int r :: rest))) : W p l e R s m args below meth c H locs cells slots Q (F0 m pc ls st0) :=
  sg_callVi X hK hG hC hS hb (m_X12_canHold_1 l hp4 a0 h0 x1) h0 (k := 12) (ci := 12) rfl (C := RX12) (T := TX12) (N := 53) rfl wl_9_30 wl_1_13 wl_9_29 wl_0_100 (n := 1) (by decide +kernel) rfl rfl rfl hl hsize hst hW hR hf hdg kk

set_option maxHeartbeats 8000000 in
set_option maxRecDepth 100000 in
theorem m_X12_isHeldBehind_1 (l : Launch) {D : va_G} {base : Nat} {tys : List (ClassId × FieldType)} {ad ks : List Nat} {P : sgPm} (hp4 : P.2.2.2.2.1 = true) (a0 : Nat) (h0 : isK ad ks 12 a0) (x1 : Int32) : sgMi l (KT P) D vwCl base tys ad ks yX12_isHeldBehind cX12_isHeldBehind 3 (some .boolean) ({ frames := 36, cells := 0, slots := 0, locals := 843 }) [.ref a0, .int x1] (fun r : Int32 => iv 0 1 r) := by
  refine sg_ofW (by decide +kernel) (Nat.le_of_ble_eq_true rfl) (fun p e s m below meth c X hr hlk hb hK hC hG ls hl => ?_)
  have hS : va_S (fun q : Nat => base ≤ q) s.heap s.heap [] := va_S.rf
  have hl : lv_has ls 3 [(0, .ref a0), (1, .int x1)] := hl
  refine lv_aload_n X.1 X.2.1 dX12_isHeldBehind_0 rfl (lv_at hl 0 rfl) ?_
  refine gf_X12_32 X hK hG h0 wl_6_210 dX12_isHeldBehind_1 (fun q1 hq1 kq1 => ?_)
  refine lv_iconst (v := 0) X.1 X.2.1 dX12_isHeldBehind_4 (by decide +kernel) ?_
  refine al_54 X hK hG hq1 (iv_vpin (iv_c 0 (a := 0) (b := 0) (by decide +kernel)) (by decide +kernel)) dX12_isHeldBehind_5 (fun f2 hf2 => ?_)
  have hf2 := sg_nw_now hf2
  have of2 := hf2
  have hf2 : iv (-2147483648) 2147483647 f2 := sg_sp_now hf2 (iv_c 0 (a := 0) (b := 0) (by decide +kernel)) (by decide +kernel) rfl
  refine lv_iconst (v := 1) X.1 X.2.1 dX12_isHeldBehind_6 (by decide +kernel) ?_
  refine lv_iload_n X.1 X.2.1 dX12_isHeldBehind_7 rfl (lv_at hl 1 rfl) ?_
  refine lv_ishl X.1 X.2.1 dX12_isHeldBehind_8 ?_
  refine lv_topi (fun f3 ef3 => ?_)
  refine lv_ior X.1 X.2.1 dX12_isHeldBehind_9 ?_
  refine lv_topi (fun f4 ef4 => ?_)
  refine lv_istore_n (lv' := [(2, .int f4), (0, .ref a0), (1, .int x1)]) X.1 X.2.1 dX12_isHeldBehind_10 rfl hl (by decide) rfl (fun ls hl => ?_)
  refine lv_iload_n X.1 X.2.1 dX12_isHeldBehind_11 rfl (lv_at hl 0 rfl) ?_
  refine lv_aload_n X.1 X.2.1 dX12_isHeldBehind_12 rfl (lv_at hl 1 rfl) ?_
  refine gf_X12_18 X hK hG h0 wl_6_196 dX12_isHeldBehind_13 (fun q5 hq5 kq5 => ?_)
  refine ca_X12_hasLine_1 X hK hG hC (fun _ h => h) hS hb hp4 f4 q5 hq5 wl_7_196 hl.1 (rest := []) rfl (Nat.le_of_ble_eq_true rfl) ⟨Nat.le_of_ble_eq_true rfl, Nat.le_of_ble_eq_true rfl⟩ ⟨Nat.le_of_ble_eq_true rfl, Nat.le_of_ble_eq_true rfl⟩ dX12_isHeldBehind_16 (fun f6 locs hf6 hS => ?_)
  have B8_34 : ∀ (H : Heap) (locs : List Loc) (ls : Array Slot), sgG (KT P) D vwCl (fun q : Nat => base ≤ q) tys ad ks H → va_S (fun q : Nat => base ≤ q) s.heap H locs → lv_has ls 3 [] → W p l e (headSpec (Cond.code yX12_isHeldBehind cX12_isHeldBehind 3 (some .boolean) :: sg_tbl) ({ frames := 36, cells := 0, slots := 0, locals := 843 })).room s m #[.ref a0, .int x1] below meth c H locs 0 0 (MQ below (va_Qi (fun r (_ : Unit) => (fun r : Int32 => iv 0 1 r) r) (fun _ => sgB (KT P) D vwCl base tys ad ks) (fun q : Nat => base ≤ q)) #[.ref a0, .int x1] s 0 0 (fun q : Nat => base ≤ q)) (F0 m 34 ls []) := by
    intro H locs ls hG hS hl
    refine lv_iconst (v := 0) X.1 X.2.1 dX12_isHeldBehind_34 (by decide +kernel) ?_
    exact sg_zret X hr (sg_zn (iv_of (iv_c 0 (a := 0) (b := 0) (by decide +kernel)) (a' := 0) (b' := 1) (by decide +kernel))) hlk hb hK hC hG hS (iv_of (iv_c 0 (a := 0) (b := 0) (by decide +kernel)) (a' := 0) (b' := 1) (by decide +kernel)) dX12_isHeldBehind_35
  refine lv_if_ne (tgt := 34) X.1 X.2.1 dX12_isHeldBehind_19 (by decide) (fun c7 => ?_) (fun c7 => ?_)
  · exact B8_34 s.heap _ _ hG hS (lv_sub hl [] rfl)
  · refine lv_aload_n X.1 X.2.1 dX12_isHeldBehind_22 rfl (lv_at hl 1 rfl) ?_
    refine lv_iload_n X.1 X.2.1 dX12_isHeldBehind_23 rfl (lv_at hl 0 rfl) ?_
    refine ca_X12_canHold_1 X hK hG hC hS hb hp4 a0 h0 f4 wl_9_27 hl.1 (rest := []) rfl (Nat.le_of_ble_eq_true rfl) ⟨Nat.le_of_ble_eq_true rfl, Nat.le_of_ble_eq_true rfl⟩ ⟨Nat.le_of_ble_eq_true rfl, Nat.le_of_ble_eq_true rfl⟩ dX12_isHeldBehind_24 (fun f9 H locs hf9 hG hS => ?_)
    refine lv_if_eq (tgt := 34) X.1 X.2.1 dX12_isHeldBehind_27 (by decide) (fun c10 => ?_) (fun c10 => ?_)
    · exact B8_34 H _ _ hG hS (lv_sub hl [] rfl)
    · refine lv_iconst (v := 1) X.1 X.2.1 dX12_isHeldBehind_30 (by decide +kernel) ?_
      refine lv_goto (tgt := 35) X.1 X.2.1 dX12_isHeldBehind_31 (by decide) ?_
      exact sg_zret X hr (sg_zn (iv_of (iv_c 1 (a := 1) (b := 1) (by decide +kernel)) (a' := 0) (b' := 1) (by decide +kernel))) hlk hb hK hC hG hS (iv_of (iv_c 1 (a := 1) (b := 1) (by decide +kernel)) (a' := 0) (b' := 1) (by decide +kernel)) dX12_isHeldBehind_35

theorem ca_X12_isHeldBehind_1   (X : CallFix p m c cc nL s args sg_tbl own) (hK : va_K D vwCl tys s) (hG : sgG (KT P) D vwCl (fun q : Nat => base ≤ q) tys ad ks H) (hC : sgC base s) (hS : va_S (fun q : Nat => base ≤ q) s.heap H locs) (hb : base ≤ s.heap.size) (hp4 : P.2.2.2.2.1 = true) (a0 : Nat) (h0 : isK ad ks 12 a0) (x1 : Int32) (hl : Cond.methodLink own index yX12_isHeldBehind ∈ sg_tbl) (hsize : ls.size = nL) (hst : st0 = [.int x1].reverse ++ .ref a0 :: rest) (hW : (rest.map fun v => v.category).sum ≤ 8) (hR : 37 ≤ R.frames ∧ 865 ≤ R.locals) (hf : cells ≤ R.cells ∧ slots ≤ R.slots) (hdg : decode cc pc = .ok (.invokevirtual index, 3)) (kk : ∀ (r : Int32) (H1 : Heap) (locs1 : List Loc), (fun r : Int32 => iv 0 1 r) r → sgG (KT P) D vwCl (fun q : Nat => base ≤ q) tys ad ks H1 → va_S (fun q : Nat => base ≤ q) s.heap H1 locs1 → W p l e R s m args below meth c H1 locs1 cells slots Q (F0 m (pc + 3) ls (.int r :: rest))) : W p l e R s m args below meth c H locs cells slots Q (F0 m pc ls st0) :=
  sg_callVi X hK hG hC hS hb (m_X12_isHeldBehind_1 l hp4 a0 h0 x1) h0 (k := 12) (ci := 12) rfl (C := RX12) (T := TX12) (N := 53) rfl wl_9_26 wl_1_13 wl_9_25 wl_0_99 (n := 1) (by decide +kernel) rfl rfl rfl hl hsize hst hW hR hf hdg kk

set_option maxHeartbeats 8000000 in
set_option maxRecDepth 100000 in
theorem m_X12_holds_1 (l : Launch) {D : va_G} {base : Nat} {tys : List (ClassId × FieldType)} {ad ks : List Nat} {P : sgPm} (hp4 : P.2.2.2.2.1 = true) (a0 : Nat) (h0 : isK ad ks 12 a0) (x1 : Int32) : sgMi l (KT P) D vwCl base tys ad ks yX12_holds cX12_holds 4 (some .int) ({ frames := 37, cells := 0, slots := 0, locals := 865 }) [.ref a0, .int x1] (fun r : Int32 => True) := by
  refine sg_ofW (by decide +kernel) (Nat.le_of_ble_eq_true rfl) (fun p e s m below meth c X hr hlk hb hK hC hG ls hl => ?_)
  have hS : va_S (fun q : Nat => base ≤ q) s.heap s.heap [] := va_S.rf
  have hl : lv_has ls 4 [(0, .ref a0), (1, .int x1)] := hl
  refine lv_aload_n X.1 X.2.1 dX12_holds_0 rfl (lv_at hl 0 rfl) ?_
  refine lv_iconst (v := 0) X.1 X.2.1 dX12_holds_1 (by decide +kernel) ?_
  refine pf_X12_0 X hK hG hS h0 wl_6_178 ⟨_, rfl, (iv_top _)⟩ dX12_holds_2 (fun H locs hG hS ku1 ru1 => ?_)
  refine lv_aload_n X.1 X.2.1 dX12_holds_5 rfl (lv_at hl 0 rfl) ?_
  refine ca_X12_isNight_1 X hK hG hC (fun _ h => h) hS hb hp4 a0 h0 wl_9_19 hl.1 (rest := []) rfl (Nat.le_of_ble_eq_true rfl) ⟨Nat.le_of_ble_eq_true rfl, Nat.le_of_ble_eq_true rfl⟩ ⟨Nat.le_of_ble_eq_true rfl, Nat.le_of_ble_eq_true rfl⟩ dX12_holds_6 (fun f2 locs hf2 hS => ?_)
  refine lv_if_eq (tgt := 24) X.1 X.2.1 dX12_holds_9 (by decide) (fun c3 => ?_) (fun c3 => ?_)
  · refine lv_iconst (v := (-1)) X.1 X.2.1 dX12_holds_24 (by decide +kernel) ?_
    exact sg_iret X hr hlk hb hK hC hG hS trivial dX12_holds_25
  · refine lv_iload_n X.1 X.2.1 dX12_holds_12 rfl (lv_at hl 1 rfl) ?_
    obtain ⟨g4, eg4⟩ : ∃ y : Int64, y = (x1 : Int32).toInt64 := ⟨_, rfl⟩
    refine lv_i2l (v := g4) X.1 X.2.1 dX12_holds_13 eg4.symm ?_
    refine lv_lconst (v := 1) X.1 X.2.1 dX12_holds_14 (by decide +kernel) ?_
    refine lv_ldc2 X.1 X.2.1 X.2.2.2.1 (X.2.2.2.2 _ wl_7_118) dX12_holds_15 ?_
    refine ca_X12_isIn X hK hG hC (fun _ h => h) hS hb g4 1 2 wl_7_119 hl.1 (rest := []) rfl (Nat.le_of_ble_eq_true rfl) ⟨Nat.le_of_ble_eq_true rfl, Nat.le_of_ble_eq_true rfl⟩ ⟨Nat.le_of_ble_eq_true rfl, Nat.le_of_ble_eq_true rfl⟩ dX12_holds_18 (fun f5 locs hf5 hS => ?_)
    refine lv_if_ne (tgt := 26) X.1 X.2.1 dX12_holds_21 (by decide) (fun c6 => ?_) (fun c6 => ?_)
    · refine lv_aload_n X.1 X.2.1 dX12_holds_26 rfl (lv_at hl 0 rfl) ?_
      refine lv_aload_n X.1 X.2.1 dX12_holds_27 rfl (lv_at hl 0 rfl) ?_
      refine gf_X12_32 X hK hG h0 wl_6_210 dX12_holds_28 (fun q7 hq7 kq7 => ?_)
      refine lv_iconst (v := 0) X.1 X.2.1 dX12_holds_31 (by decide +kernel) ?_
      refine al_54 X hK hG hq7 (iv_vpin (iv_c 0 (a := 0) (b := 0) (by decide +kernel)) (by decide +kernel)) dX12_holds_32 (fun f8 hf8 => ?_)
      have hf8 := sg_nw_now hf8
      have of8 := hf8
      have hf8 : iv (-2147483648) 2147483647 f8 := sg_sp_now hf8 (iv_c 0 (a := 0) (b := 0) (by decide +kernel)) (by decide +kernel) rfl
      refine lv_aload_n X.1 X.2.1 dX12_holds_33 rfl (lv_at hl 0 rfl) ?_
      refine gg_X12_32 X hK hG h0 wl_6_210 kq7 dX12_holds_34 ?_
      refine lv_iconst (v := 1) X.1 X.2.1 dX12_holds_37 (by decide +kernel) ?_
      refine al_54 X hK hG hq7 (iv_vpin (iv_c 1 (a := 1) (b := 1) (by decide +kernel)) (by decide +kernel)) dX12_holds_38 (fun f9 hf9 => ?_)
      have hf9 := sg_nw_now hf9
      have of9 := hf9
      have hf9 : iv (-2147483648) 2147483647 f9 := sg_sp_now hf9 (iv_c 1 (a := 1) (b := 1) (by decide +kernel)) (by decide +kernel) rfl
      refine lv_aload_n X.1 X.2.1 dX12_holds_39 rfl (lv_at hl 0 rfl) ?_
      refine gg_X12_32 X hK hG h0 wl_6_210 kq7 dX12_holds_40 ?_
      refine lv_iconst (v := 4) X.1 X.2.1 dX12_holds_43 (by decide +kernel) ?_
      refine al_54 X hK hG hq7 (iv_vpin (iv_c 4 (a := 4) (b := 4) (by decide +kernel)) (by decide +kernel)) dX12_holds_44 (fun f10 hf10 => ?_)
      have hf10 := sg_nw_now hf10
      have of10 := hf10
      have hf10 : iv 0 1000000000 f10 := sg_day hf10 (iv_c 4 (a := 4) (b := 4) (by decide +kernel))
      refine ca_X12_freeIn_1 X hK hG hC hS hb hp4 a0 h0 f8 f9 f10 (iv_of hf10 (a' := 0) (b' := 2147483647) (by decide +kernel)) wl_8_162 hl.1 (rest := []) rfl (Nat.le_of_ble_eq_true rfl) ⟨Nat.le_of_ble_eq_true rfl, Nat.le_of_ble_eq_true rfl⟩ ⟨Nat.le_of_ble_eq_true rfl, Nat.le_of_ble_eq_true rfl⟩ dX12_holds_45 (fun f11 H locs hf11 hG hS => ?_)
      refine lv_istore_n (lv' := [(2, .int f11), (0, .ref a0), (1, .int x1)]) X.1 X.2.1 dX12_holds_48 rfl hl (by decide) rfl (fun ls hl => ?_)
      refine lv_aload_n X.1 X.2.1 dX12_holds_49 rfl (lv_at hl 1 rfl) ?_
      refine lv_aload_n X.1 X.2.1 dX12_holds_50 rfl (lv_at hl 1 rfl) ?_
      refine gf_X12_32 X hK hG h0 wl_6_210 dX12_holds_51 (fun q12 hq12 kq12 => ?_)
      refine lv_iconst (v := 0) X.1 X.2.1 dX12_holds_54 (by decide +kernel) ?_
      refine al_54 X hK hG hq12 (iv_vpin (iv_c 0 (a := 0) (b := 0) (by decide +kernel)) (by decide +kernel)) dX12_holds_55 (fun f13 hf13 => ?_)
      have hf13 := sg_nw_now hf13
      have of13 := hf13
      have hf13 : iv (-2147483648) 2147483647 f13 := sg_sp_now hf13 (iv_c 0 (a := 0) (b := 0) (by decide +kernel)) (by decide +kernel) rfl
      refine lv_aload_n X.1 X.2.1 dX12_holds_56 rfl (lv_at hl 1 rfl) ?_
      refine gg_X12_32 X hK hG h0 wl_6_210 kq12 dX12_holds_57 ?_
      refine lv_iconst (v := 1) X.1 X.2.1 dX12_holds_60 (by decide +kernel) ?_
      refine al_54 X hK hG hq12 (iv_vpin (iv_c 1 (a := 1) (b := 1) (by decide +kernel)) (by decide +kernel)) dX12_holds_61 (fun f14 hf14 => ?_)
      have hf14 := sg_nw_now hf14
      have of14 := hf14
      have hf14 : iv (-2147483648) 2147483647 f14 := sg_sp_now hf14 (iv_c 1 (a := 1) (b := 1) (by decide +kernel)) (by decide +kernel) rfl
      refine lv_aload_n X.1 X.2.1 dX12_holds_62 rfl (lv_at hl 1 rfl) ?_
      refine gg_X12_32 X hK hG h0 wl_6_210 kq12 dX12_holds_63 ?_
      refine lv_iconst (v := 4) X.1 X.2.1 dX12_holds_66 (by decide +kernel) ?_
      refine al_54 X hK hG hq12 (iv_vpin (iv_c 4 (a := 4) (b := 4) (by decide +kernel)) (by decide +kernel)) dX12_holds_67 (fun f15 hf15 => ?_)
      have hf15 := sg_nw_now hf15
      have of15 := hf15
      have hf15 : iv 0 1000000000 f15 := sg_day hf15 (iv_c 4 (a := 4) (b := 4) (by decide +kernel))
      refine ca_X12_threatsIn_1 X hK hG hC hS hb hp4 a0 h0 f13 f14 f15 (iv_of hf15 (a' := 0) (b' := 2147483647) (by decide +kernel)) wl_8_106 hl.1 (rest := []) rfl (Nat.le_of_ble_eq_true rfl) ⟨Nat.le_of_ble_eq_true rfl, Nat.le_of_ble_eq_true rfl⟩ ⟨Nat.le_of_ble_eq_true rfl, Nat.le_of_ble_eq_true rfl⟩ dX12_holds_68 (fun f16 H locs hf16 hG hS => ?_)
      refine lv_if_eq (tgt := 76) X.1 X.2.1 dX12_holds_71 (by decide) (fun c17 => ?_) (fun c17 => ?_)
      · refine lv_iload_n X.1 X.2.1 dX12_holds_76 rfl (lv_at hl 2 rfl) ?_
        refine lv_iconst (v := 1) X.1 X.2.1 dX12_holds_77 (by decide +kernel) ?_
        refine lv_icmp_ne (tgt := 83) X.1 X.2.1 dX12_holds_78 (by decide) (fun c18 => ?_) (fun c18 => ?_)
        · refine lv_iconst (v := 0) X.1 X.2.1 dX12_holds_83 (by decide +kernel) ?_
          refine lv_istore_n (lv' := [(3, .int 0), (2, .int f11), (0, .ref a0), (1, .int x1)]) X.1 X.2.1 dX12_holds_84 rfl hl (by decide) rfl (fun ls hl => ?_)
          have B19_85 : ∀ (N : Nat) (H : Heap) (locs : List Loc) (ls : Array Slot) (z19_3 : Int32), sgG (KT P) D vwCl (fun q : Nat => base ≤ q) tys ad ks H → va_S (fun q : Nat => base ≤ q) s.heap H locs → lv_has ls 4 [(0, .ref a0), (2, .int f11), (3, .int z19_3)] → iv 0 30 z19_3 → (31 - z19_3.toInt).toNat ≤ N → W p l e (headSpec (Cond.code yX12_holds cX12_holds 4 (some .int) :: sg_tbl) ({ frames := 37, cells := 0, slots := 0, locals := 865 })).room s m #[.ref a0, .int x1] below meth c H locs 0 0 (MQ below (va_Qi (fun r (_ : Unit) => (fun r : Int32 => True) r) (fun _ => sgB (KT P) D vwCl base tys ad ks) (fun q : Nat => base ≤ q)) #[.ref a0, .int x1] s 0 0 (fun q : Nat => base ≤ q)) (F0 m 85 ls []) := by
            intro N; induction N with
            | zero =>
              intro H locs ls z19_3 hG hS hl hz19_3 hN
              exact absurd hN (by have := iv_up hz19_3; omega)
            | succ N ih19 =>
              intro H locs ls z19_3 hG hS hl hz19_3 hN19
              refine lv_iload_n X.1 X.2.1 dX12_holds_85 rfl (lv_at hl 2 rfl) ?_
              refine lv_aload_n X.1 X.2.1 dX12_holds_86 rfl (lv_at hl 0 rfl) ?_
              refine gf_X12_23s X hK hG h0 hp4 wl_6_201 dX12_holds_87 (fun f20 hf20 kf20 => ?_)
              refine lv_icmp_ge (tgt := 117) X.1 X.2.1 dX12_holds_90 (by decide) (fun c21 => ?_) (fun c21 => ?_)
              · refine lv_aload_n X.1 X.2.1 dX12_holds_117 rfl (lv_at hl 0 rfl) ?_
                refine lv_aload_n X.1 X.2.1 dX12_holds_118 rfl (lv_at hl 0 rfl) ?_
                refine gf_X12_32 X hK hG h0 wl_6_210 dX12_holds_119 (fun q22 hq22 kq22 => ?_)
                refine lv_iconst (v := 0) X.1 X.2.1 dX12_holds_122 (by decide +kernel) ?_
                refine al_54 X hK hG hq22 (iv_vpin (iv_c 0 (a := 0) (b := 0) (by decide +kernel)) (by decide +kernel)) dX12_holds_123 (fun f23 hf23 => ?_)
                have hf23 := sg_nw_now hf23
                have of23 := hf23
                have hf23 : iv (-2147483648) 2147483647 f23 := sg_sp_now hf23 (iv_c 0 (a := 0) (b := 0) (by decide +kernel)) (by decide +kernel) rfl
                refine ca_X12_canHold_1 X hK hG hC hS hb hp4 a0 h0 f23 wl_9_27 hl.1 (rest := []) rfl (Nat.le_of_ble_eq_true rfl) ⟨Nat.le_of_ble_eq_true rfl, Nat.le_of_ble_eq_true rfl⟩ ⟨Nat.le_of_ble_eq_true rfl, Nat.le_of_ble_eq_true rfl⟩ dX12_holds_124 (fun f24 H locs hf24 hG hS => ?_)
                refine lv_if_eq (tgt := 134) X.1 X.2.1 dX12_holds_127 (by decide) (fun c25 => ?_) (fun c25 => ?_)
                · refine lv_iconst (v := 0) X.1 X.2.1 dX12_holds_134 (by decide +kernel) ?_
                  exact sg_iret X hr hlk hb hK hC hG hS trivial dX12_holds_135
                · refine lv_iconst (v := 1) X.1 X.2.1 dX12_holds_130 (by decide +kernel) ?_
                  refine lv_goto (tgt := 135) X.1 X.2.1 dX12_holds_131 (by decide) ?_
                  exact sg_iret X hr hlk hb hK hC hG hS trivial dX12_holds_135
              · refine lv_iload_n X.1 X.2.1 dX12_holds_93 rfl (lv_at hl 1 rfl) ?_
                refine lv_iload_n X.1 X.2.1 dX12_holds_94 rfl (lv_at hl 2 rfl) ?_
                refine ca_X12_has X hK hG hC (fun _ h => h) hS hb f11 z19_3 wl_7_174 hl.1 (rest := []) rfl (Nat.le_of_ble_eq_true rfl) ⟨Nat.le_of_ble_eq_true rfl, Nat.le_of_ble_eq_true rfl⟩ ⟨Nat.le_of_ble_eq_true rfl, Nat.le_of_ble_eq_true rfl⟩ dX12_holds_95 (fun f26 locs hf26 hS => ?_)
                have B28_111 : ∀ (H : Heap) (locs : List Loc) (ls : Array Slot), sgG (KT P) D vwCl (fun q : Nat => base ≤ q) tys ad ks H → va_S (fun q : Nat => base ≤ q) s.heap H locs → lv_has ls 4 [(0, .ref a0), (2, .int f11), (3, .int z19_3)] → W p l e (headSpec (Cond.code yX12_holds cX12_holds 4 (some .int) :: sg_tbl) ({ frames := 37, cells := 0, slots := 0, locals := 865 })).room s m #[.ref a0, .int x1] below meth c H locs 0 0 (MQ below (va_Qi (fun r (_ : Unit) => (fun r : Int32 => True) r) (fun _ => sgB (KT P) D vwCl base tys ad ks) (fun q : Nat => base ≤ q)) #[.ref a0, .int x1] s 0 0 (fun q : Nat => base ≤ q)) (F0 m 111 ls []) := by
                  intro H locs ls hG hS hl
                  obtain ⟨y29, ey29⟩ : ∃ y : Int32, y = z19_3 + Int32.ofInt 1 := ⟨_, rfl⟩
                  refine lv_iinc (v := y29) (lv' := [(3, .int y29), (0, .ref a0), (2, .int f11)]) X.1 X.2.1 dX12_holds_111 hl (k := 2) rfl ey29.symm (by decide) rfl (fun ls hl => ?_)
                  refine lv_goto (tgt := 85) X.1 X.2.1 dX12_holds_114 (by decide) ?_
                  exact ih19 H _ _ y29 hG hS (lv_sub hl [1, 2, 0] rfl) (iv_of (iv_add (a' := 1) (b' := 30) ey29 (iv_lt (b' := 29) (iv_gt_of c21) hz19_3 hf20 (by decide +kernel)) (iv_c _ (a := 1) (b := 1) (by decide +kernel)) (by decide +kernel)) (a' := 0) (b' := 30) (by decide +kernel)) (iv_stepU ey29 (iv_lt (b' := 29) (iv_gt_of c21) hz19_3 hf20 (by decide +kernel)) (by decide +kernel) hN19)
                refine lv_if_eq (tgt := 111) X.1 X.2.1 dX12_holds_98 (by decide) (fun c27 => ?_) (fun c27 => ?_)
                · exact B28_111 H _ _ hG hS (lv_sub hl [0, 1, 2] rfl)
                · refine lv_aload_n X.1 X.2.1 dX12_holds_101 rfl (lv_at hl 0 rfl) ?_
                  refine lv_iload_n X.1 X.2.1 dX12_holds_102 rfl (lv_at hl 2 rfl) ?_
                  refine ca_X12_isHeldBehind_1 X hK hG hC hS hb hp4 a0 h0 z19_3 wl_9_23 hl.1 (rest := []) rfl (Nat.le_of_ble_eq_true rfl) ⟨Nat.le_of_ble_eq_true rfl, Nat.le_of_ble_eq_true rfl⟩ ⟨Nat.le_of_ble_eq_true rfl, Nat.le_of_ble_eq_true rfl⟩ dX12_holds_103 (fun f30 H locs hf30 hG hS => ?_)
                  refine lv_if_ne (tgt := 111) X.1 X.2.1 dX12_holds_106 (by decide) (fun c31 => ?_) (fun c31 => ?_)
                  · exact B28_111 H _ _ hG hS (lv_sub hl [0, 1, 2] rfl)
                  · refine lv_iconst (v := 0) X.1 X.2.1 dX12_holds_109 (by decide +kernel) ?_
                    exact sg_iret X hr hlk hb hK hC hG hS trivial dX12_holds_110
          exact B19_85 _ H _ _ 0 hG hS (lv_sub hl [2, 1, 0] rfl) (iv_of (iv_c 0 (a := 0) (b := 0) (by decide +kernel)) (a' := 0) (b' := 30) (by decide +kernel)) (Nat.le_refl _)
        · refine lv_iconst (v := 1) X.1 X.2.1 dX12_holds_81 (by decide +kernel) ?_
          exact sg_iret X hr hlk hb hK hC hG hS trivial dX12_holds_82
      · refine lv_iconst (v := 0) X.1 X.2.1 dX12_holds_74 (by decide +kernel) ?_
        exact sg_iret X hr hlk hb hK hC hG hS trivial dX12_holds_75
    · refine lv_iconst (v := (-1)) X.1 X.2.1 dX12_holds_24 (by decide +kernel) ?_
      exact sg_iret X hr hlk hb hK hC hG hS trivial dX12_holds_25

theorem ca_X12_holds_1   (X : CallFix p m c cc nL s args sg_tbl own) (hK : va_K D vwCl tys s) (hG : sgG (KT P) D vwCl (fun q : Nat => base ≤ q) tys ad ks H) (hC : sgC base s) (hS : va_S (fun q : Nat => base ≤ q) s.heap H locs) (hb : base ≤ s.heap.size) (hp4 : P.2.2.2.2.1 = true) (a0 : Nat) (h0 : isK ad ks 12 a0) (x1 : Int32) (hl : Cond.methodLink own index yX12_holds ∈ sg_tbl) (hsize : ls.size = nL) (hst : st0 = [.int x1].reverse ++ .ref a0 :: rest) (hW : (rest.map fun v => v.category).sum ≤ 8) (hR : 38 ≤ R.frames ∧ 888 ≤ R.locals) (hf : cells ≤ R.cells ∧ slots ≤ R.slots) (hdg : decode cc pc = .ok (.invokevirtual index, 3)) (kk : ∀ (r : Int32) (H1 : Heap) (locs1 : List Loc), (fun r : Int32 => True) r → sgG (KT P) D vwCl (fun q : Nat => base ≤ q) tys ad ks H1 → va_S (fun q : Nat => base ≤ q) s.heap H1 locs1 → W p l e R s m args below meth c H1 locs1 cells slots Q (F0 m (pc + 3) ls (.int r :: rest))) : W p l e R s m args below meth c H locs cells slots Q (F0 m pc ls st0) :=
  sg_callVi X hK hG hC hS hb (m_X12_holds_1 l hp4 a0 h0 x1) h0 (k := 12) (ci := 12) rfl (C := RX12) (T := TX12) (N := 53) rfl wl_9_18 wl_1_13 wl_9_16 wl_9_17 (n := 1) (by decide +kernel) rfl rfl rfl hl hsize hst hW hR hf hdg kk
end
