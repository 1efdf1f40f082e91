abbrev cX1_apart : ByteArray := prog_3_method_6_code
def yX1_apart : MethodName := ⟨RX1, "apart", "(I)I"⟩
abbrev cX4_around : ByteArray := prog_6_method_15_code
def yX4_around : MethodName := ⟨RX4, "around", "(II)I"⟩
abbrev cX4_besideAnyWay : ByteArray := prog_6_method_11_code
def yX4_besideAnyWay : MethodName := ⟨RX4, "besideAnyWay", "(I)I"⟩
abbrev cX4_layOut : ByteArray := prog_6_method_9_code
def yX4_layOut : MethodName := ⟨RX4, "layOut", "()V"⟩
abbrev cX4_setWay : ByteArray := prog_6_method_10_code
def yX4_setWay : MethodName := ⟨RX4, "setWay", "(III)V"⟩
abbrev cX5_clear : ByteArray := prog_7_method_2_code
def yX5_clear : MethodName := ⟨RX5, "clear", "()V"⟩
abbrev cX5_keep : ByteArray := prog_7_method_4_code
def yX5_keep : MethodName := ⟨RX5, "keep", "(LLawnAhead$State;I)V"⟩
abbrev cX5_shown : ByteArray := prog_7_method_3_code
def yX5_shown : MethodName := ⟨RX5, "shown", "()I"⟩
abbrev cX5_takeBack : ByteArray := prog_7_method_5_code
def yX5_takeBack : MethodName := ⟨RX5, "takeBack", "(LLawnAhead$State;)Z"⟩
abbrev cX6_comparison : ByteArray := prog_8_method_6_code
def yX6_comparison : MethodName := ⟨RX6, "comparison", "(I)I"⟩
abbrev cX6_joined : ByteArray := prog_8_method_13_code
def yX6_joined : MethodName := ⟨RX6, "joined", "(IJJ)I"⟩
abbrev cX6_put : ByteArray := prog_8_method_10_code
def yX6_put : MethodName := ⟨RX6, "put", "(I)V"⟩
abbrev cX6_reckon : ByteArray := prog_8_method_12_code
def yX6_reckon : MethodName := ⟨RX6, "reckon", "(II[I)I"⟩
abbrev cX6_worth : ByteArray := prog_8_method_11_code
def yX6_worth : MethodName := ⟨RX6, "worth", "([I)I"⟩
theorem dX1_apart_0 : decode cX1_apart 0 = .ok (.iconst 0, 1) := by decide +kernel
theorem dX1_apart_1 : decode cX1_apart 1 = .ok (.istore_n 2, 1) := by decide +kernel
theorem dX1_apart_2 : decode cX1_apart 2 = .ok (.iconst 0, 1) := by decide +kernel
theorem dX1_apart_3 : decode cX1_apart 3 = .ok (.istore_n 3, 1) := by decide +kernel
theorem dX1_apart_4 : decode cX1_apart 4 = .ok (.iload_n 3, 1) := by decide +kernel
theorem dX1_apart_5 : decode cX1_apart 5 = .ok (.bipush 8, 2) := by decide +kernel
theorem dX1_apart_7 : decode cX1_apart 7 = .ok (.if_icmp .gt 54, 3) := by decide +kernel
theorem dX1_apart_10 : decode cX1_apart 10 = .ok (.iload_n 3, 1) := by decide +kernel
theorem dX1_apart_11 : decode cX1_apart 11 = .ok (.istore 4, 2) := by decide +kernel
theorem dX1_apart_13 : decode cX1_apart 13 = .ok (.iload 4, 2) := by decide +kernel
theorem dX1_apart_15 : decode cX1_apart 15 = .ok (.bipush 8, 2) := by decide +kernel
theorem dX1_apart_17 : decode cX1_apart 17 = .ok (.if_icmp .gt 38, 3) := by decide +kernel
theorem dX1_apart_20 : decode cX1_apart 20 = .ok (.aload_n 0, 1) := by decide +kernel
theorem dX1_apart_21 : decode cX1_apart 21 = .ok (.iload_n 3, 1) := by decide +kernel
theorem dX1_apart_22 : decode cX1_apart 22 = .ok (.iload 4, 2) := by decide +kernel
theorem dX1_apart_24 : decode cX1_apart 24 = .ok (.invokevirtual 23, 3) := by decide +kernel
theorem dX1_apart_27 : decode cX1_apart 27 = .ok (.ifCond .eq 22, 3) := by decide +kernel
theorem dX1_apart_30 : decode cX1_apart 30 = .ok (.iload_n 2, 1) := by decide +kernel
theorem dX1_apart_31 : decode cX1_apart 31 = .ok (.iload_n 1, 1) := by decide +kernel
theorem dX1_apart_32 : decode cX1_apart 32 = .ok (.iload_n 3, 1) := by decide +kernel
theorem dX1_apart_33 : decode cX1_apart 33 = .ok (.if_icmp .lt 13, 3) := by decide +kernel
theorem dX1_apart_36 : decode cX1_apart 36 = .ok (.iload_n 1, 1) := by decide +kernel
theorem dX1_apart_37 : decode cX1_apart 37 = .ok (.iload 4, 2) := by decide +kernel
theorem dX1_apart_39 : decode cX1_apart 39 = .ok (.if_icmp .gt 7, 3) := by decide +kernel
theorem dX1_apart_42 : decode cX1_apart 42 = .ok (.iconst 1, 1) := by decide +kernel
theorem dX1_apart_43 : decode cX1_apart 43 = .ok (.goto 4, 3) := by decide +kernel
theorem dX1_apart_46 : decode cX1_apart 46 = .ok (.iconst (-1), 1) := by decide +kernel
theorem dX1_apart_47 : decode cX1_apart 47 = .ok (.iadd, 1) := by decide +kernel
theorem dX1_apart_48 : decode cX1_apart 48 = .ok (.istore_n 2, 1) := by decide +kernel
theorem dX1_apart_49 : decode cX1_apart 49 = .ok (.iinc 4 1, 3) := by decide +kernel
theorem dX1_apart_52 : decode cX1_apart 52 = .ok (.goto (-39), 3) := by decide +kernel
theorem dX1_apart_55 : decode cX1_apart 55 = .ok (.iinc 3 1, 3) := by decide +kernel
theorem dX1_apart_58 : decode cX1_apart 58 = .ok (.goto (-54), 3) := by decide +kernel
theorem dX1_apart_61 : decode cX1_apart 61 = .ok (.iload_n 2, 1) := by decide +kernel
theorem dX1_apart_62 : decode cX1_apart 62 = .ok (.invokestatic 27, 3) := by decide +kernel
theorem dX1_apart_65 : decode cX1_apart 65 = .ok (.ireturn, 1) := by decide +kernel
theorem dX4_around_0 : decode cX4_around 0 = .ok (.iload_n 1, 1) := by decide +kernel
theorem dX4_around_1 : decode cX4_around 1 = .ok (.ifCond .lt 11, 3) := by decide +kernel
theorem dX4_around_4 : decode cX4_around 4 = .ok (.iload_n 1, 1) := by decide +kernel
theorem dX4_around_5 : decode cX4_around 5 = .ok (.aload_n 0, 1) := by decide +kernel
theorem dX4_around_6 : decode cX4_around 6 = .ok (.getfield 123, 3) := by decide +kernel
theorem dX4_around_9 : decode cX4_around 9 = .ok (.if_icmp .lt 7, 3) := by decide +kernel
theorem dX4_around_12 : decode cX4_around 12 = .ok (.iconst 0, 1) := by decide +kernel
theorem dX4_around_13 : decode cX4_around 13 = .ok (.goto 14, 3) := by decide +kernel
theorem dX4_around_16 : decode cX4_around 16 = .ok (.aload_n 0, 1) := by decide +kernel
theorem dX4_around_17 : decode cX4_around 17 = .ok (.getfield 15, 3) := by decide +kernel
theorem dX4_around_20 : decode cX4_around 20 = .ok (.iload_n 1, 1) := by decide +kernel
theorem dX4_around_21 : decode cX4_around 21 = .ok (.iaload, 1) := by decide +kernel
theorem dX4_around_22 : decode cX4_around 22 = .ok (.iload_n 2, 1) := by decide +kernel
theorem dX4_around_23 : decode cX4_around 23 = .ok (.iand, 1) := by decide +kernel
theorem dX4_around_24 : decode cX4_around 24 = .ok (.invokestatic 145, 3) := by decide +kernel
theorem dX4_around_27 : decode cX4_around 27 = .ok (.ireturn, 1) := by decide +kernel
theorem dX4_besideAnyWay_0 : decode cX4_besideAnyWay 0 = .ok (.iconst 0, 1) := by decide +kernel
theorem dX4_besideAnyWay_1 : decode cX4_besideAnyWay 1 = .ok (.istore_n 2, 1) := by decide +kernel
theorem dX4_besideAnyWay_2 : decode cX4_besideAnyWay 2 = .ok (.iconst 0, 1) := by decide +kernel
theorem dX4_besideAnyWay_3 : decode cX4_besideAnyWay 3 = .ok (.istore_n 3, 1) := by decide +kernel
theorem dX4_besideAnyWay_4 : decode cX4_besideAnyWay 4 = .ok (.iload_n 3, 1) := by decide +kernel
theorem dX4_besideAnyWay_5 : decode cX4_besideAnyWay 5 = .ok (.iconst 4, 1) := by decide +kernel
theorem dX4_besideAnyWay_6 : decode cX4_besideAnyWay 6 = .ok (.if_icmp .ge 43, 3) := by decide +kernel
theorem dX4_besideAnyWay_9 : decode cX4_besideAnyWay 9 = .ok (.iload_n 2, 1) := by decide +kernel
theorem dX4_besideAnyWay_10 : decode cX4_besideAnyWay 10 = .ok (.iload_n 1, 1) := by decide +kernel
theorem dX4_besideAnyWay_11 : decode cX4_besideAnyWay 11 = .ok (.aload_n 0, 1) := by decide +kernel
theorem dX4_besideAnyWay_12 : decode cX4_besideAnyWay 12 = .ok (.getfield 21, 3) := by decide +kernel
theorem dX4_besideAnyWay_15 : decode cX4_besideAnyWay 15 = .ok (.iload_n 3, 1) := by decide +kernel
theorem dX4_besideAnyWay_16 : decode cX4_besideAnyWay 16 = .ok (.iaload, 1) := by decide +kernel
theorem dX4_besideAnyWay_17 : decode cX4_besideAnyWay 17 = .ok (.iand, 1) := by decide +kernel
theorem dX4_besideAnyWay_18 : decode cX4_besideAnyWay 18 = .ok (.aload_n 0, 1) := by decide +kernel
theorem dX4_besideAnyWay_19 : decode cX4_besideAnyWay 19 = .ok (.getfield 18, 3) := by decide +kernel
theorem dX4_besideAnyWay_22 : decode cX4_besideAnyWay 22 = .ok (.iload_n 3, 1) := by decide +kernel
theorem dX4_besideAnyWay_23 : decode cX4_besideAnyWay 23 = .ok (.iaload, 1) := by decide +kernel
theorem dX4_besideAnyWay_24 : decode cX4_besideAnyWay 24 = .ok (.ishl, 1) := by decide +kernel
theorem dX4_besideAnyWay_25 : decode cX4_besideAnyWay 25 = .ok (.iload_n 1, 1) := by decide +kernel
theorem dX4_besideAnyWay_26 : decode cX4_besideAnyWay 26 = .ok (.aload_n 0, 1) := by decide +kernel
theorem dX4_besideAnyWay_27 : decode cX4_besideAnyWay 27 = .ok (.getfield 18, 3) := by decide +kernel
theorem dX4_besideAnyWay_30 : decode cX4_besideAnyWay 30 = .ok (.iload_n 3, 1) := by decide +kernel
theorem dX4_besideAnyWay_31 : decode cX4_besideAnyWay 31 = .ok (.iaload, 1) := by decide +kernel
theorem dX4_besideAnyWay_32 : decode cX4_besideAnyWay 32 = .ok (.iushr, 1) := by decide +kernel
theorem dX4_besideAnyWay_33 : decode cX4_besideAnyWay 33 = .ok (.aload_n 0, 1) := by decide +kernel
theorem dX4_besideAnyWay_34 : decode cX4_besideAnyWay 34 = .ok (.getfield 21, 3) := by decide +kernel
theorem dX4_besideAnyWay_37 : decode cX4_besideAnyWay 37 = .ok (.iload_n 3, 1) := by decide +kernel
theorem dX4_besideAnyWay_38 : decode cX4_besideAnyWay 38 = .ok (.iaload, 1) := by decide +kernel
theorem dX4_besideAnyWay_39 : decode cX4_besideAnyWay 39 = .ok (.iand, 1) := by decide +kernel
theorem dX4_besideAnyWay_40 : decode cX4_besideAnyWay 40 = .ok (.ior, 1) := by decide +kernel
theorem dX4_besideAnyWay_41 : decode cX4_besideAnyWay 41 = .ok (.ior, 1) := by decide +kernel
theorem dX4_besideAnyWay_42 : decode cX4_besideAnyWay 42 = .ok (.istore_n 2, 1) := by decide +kernel
theorem dX4_besideAnyWay_43 : decode cX4_besideAnyWay 43 = .ok (.iinc 3 1, 3) := by decide +kernel
theorem dX4_besideAnyWay_46 : decode cX4_besideAnyWay 46 = .ok (.goto (-42), 3) := by decide +kernel
theorem dX4_besideAnyWay_49 : decode cX4_besideAnyWay 49 = .ok (.iload_n 2, 1) := by decide +kernel
theorem dX4_besideAnyWay_50 : decode cX4_besideAnyWay 50 = .ok (.aload_n 0, 1) := by decide +kernel
theorem dX4_besideAnyWay_51 : decode cX4_besideAnyWay 51 = .ok (.getfield 126, 3) := by decide +kernel
theorem dX4_besideAnyWay_54 : decode cX4_besideAnyWay 54 = .ok (.iand, 1) := by decide +kernel
theorem dX4_besideAnyWay_55 : decode cX4_besideAnyWay 55 = .ok (.ireturn, 1) := by decide +kernel
theorem dX4_layOut_0 : decode cX4_layOut 0 = .ok (.iconst 0, 1) := by decide +kernel
theorem dX4_layOut_1 : decode cX4_layOut 1 = .ok (.istore_n 1, 1) := by decide +kernel
theorem dX4_layOut_2 : decode cX4_layOut 2 = .ok (.iconst 0, 1) := by decide +kernel
theorem dX4_layOut_3 : decode cX4_layOut 3 = .ok (.istore_n 2, 1) := by decide +kernel
theorem dX4_layOut_4 : decode cX4_layOut 4 = .ok (.iconst 0, 1) := by decide +kernel
theorem dX4_layOut_5 : decode cX4_layOut 5 = .ok (.istore_n 3, 1) := by decide +kernel
theorem dX4_layOut_6 : decode cX4_layOut 6 = .ok (.iload_n 3, 1) := by decide +kernel
theorem dX4_layOut_7 : decode cX4_layOut 7 = .ok (.aload_n 0, 1) := by decide +kernel
theorem dX4_layOut_8 : decode cX4_layOut 8 = .ok (.getfield 123, 3) := by decide +kernel
theorem dX4_layOut_11 : decode cX4_layOut 11 = .ok (.if_icmp .ge 43, 3) := by decide +kernel
theorem dX4_layOut_14 : decode cX4_layOut 14 = .ok (.aload_n 0, 1) := by decide +kernel
theorem dX4_layOut_15 : decode cX4_layOut 15 = .ok (.iload_n 3, 1) := by decide +kernel
theorem dX4_layOut_16 : decode cX4_layOut 16 = .ok (.invokevirtual 135, 3) := by decide +kernel
theorem dX4_layOut_19 : decode cX4_layOut 19 = .ok (.aload_n 0, 1) := by decide +kernel
theorem dX4_layOut_20 : decode cX4_layOut 20 = .ok (.getfield 117, 3) := by decide +kernel
theorem dX4_layOut_23 : decode cX4_layOut 23 = .ok (.iconst 1, 1) := by decide +kernel
theorem dX4_layOut_24 : decode cX4_layOut 24 = .ok (.isub, 1) := by decide +kernel
theorem dX4_layOut_25 : decode cX4_layOut 25 = .ok (.if_icmp .ge 9, 3) := by decide +kernel
theorem dX4_layOut_28 : decode cX4_layOut 28 = .ok (.iload_n 1, 1) := by decide +kernel
theorem dX4_layOut_29 : decode cX4_layOut 29 = .ok (.iconst 1, 1) := by decide +kernel
theorem dX4_layOut_30 : decode cX4_layOut 30 = .ok (.iload_n 3, 1) := by decide +kernel
theorem dX4_layOut_31 : decode cX4_layOut 31 = .ok (.ishl, 1) := by decide +kernel
theorem dX4_layOut_32 : decode cX4_layOut 32 = .ok (.ior, 1) := by decide +kernel
theorem dX4_layOut_33 : decode cX4_layOut 33 = .ok (.istore_n 1, 1) := by decide +kernel
theorem dX4_layOut_34 : decode cX4_layOut 34 = .ok (.aload_n 0, 1) := by decide +kernel
theorem dX4_layOut_35 : decode cX4_layOut 35 = .ok (.iload_n 3, 1) := by decide +kernel
theorem dX4_layOut_36 : decode cX4_layOut 36 = .ok (.invokevirtual 135, 3) := by decide +kernel
theorem dX4_layOut_39 : decode cX4_layOut 39 = .ok (.ifCond .le 9, 3) := by decide +kernel
theorem dX4_layOut_42 : decode cX4_layOut 42 = .ok (.iload_n 2, 1) := by decide +kernel
theorem dX4_layOut_43 : decode cX4_layOut 43 = .ok (.iconst 1, 1) := by decide +kernel
theorem dX4_layOut_44 : decode cX4_layOut 44 = .ok (.iload_n 3, 1) := by decide +kernel
theorem dX4_layOut_45 : decode cX4_layOut 45 = .ok (.ishl, 1) := by decide +kernel
theorem dX4_layOut_46 : decode cX4_layOut 46 = .ok (.ior, 1) := by decide +kernel
theorem dX4_layOut_47 : decode cX4_layOut 47 = .ok (.istore_n 2, 1) := by decide +kernel
theorem dX4_layOut_48 : decode cX4_layOut 48 = .ok (.iinc 3 1, 3) := by decide +kernel
theorem dX4_layOut_51 : decode cX4_layOut 51 = .ok (.goto (-45), 3) := by decide +kernel
theorem dX4_layOut_54 : decode cX4_layOut 54 = .ok (.aload_n 0, 1) := by decide +kernel
theorem dX4_layOut_55 : decode cX4_layOut 55 = .ok (.iconst 0, 1) := by decide +kernel
theorem dX4_layOut_56 : decode cX4_layOut 56 = .ok (.iconst 1, 1) := by decide +kernel
theorem dX4_layOut_57 : decode cX4_layOut 57 = .ok (.iload_n 1, 1) := by decide +kernel
theorem dX4_layOut_58 : decode cX4_layOut 58 = .ok (.invokevirtual 138, 3) := by decide +kernel
theorem dX4_layOut_61 : decode cX4_layOut 61 = .ok (.aload_n 0, 1) := by decide +kernel
theorem dX4_layOut_62 : decode cX4_layOut 62 = .ok (.iconst 1, 1) := by decide +kernel
theorem dX4_layOut_63 : decode cX4_layOut 63 = .ok (.aload_n 0, 1) := by decide +kernel
theorem dX4_layOut_64 : decode cX4_layOut 64 = .ok (.getfield 117, 3) := by decide +kernel
theorem dX4_layOut_67 : decode cX4_layOut 67 = .ok (.aload_n 0, 1) := by decide +kernel
theorem dX4_layOut_68 : decode cX4_layOut 68 = .ok (.getfield 126, 3) := by decide +kernel
theorem dX4_layOut_71 : decode cX4_layOut 71 = .ok (.invokevirtual 138, 3) := by decide +kernel
theorem dX4_layOut_74 : decode cX4_layOut 74 = .ok (.aload_n 0, 1) := by decide +kernel
theorem dX4_layOut_75 : decode cX4_layOut 75 = .ok (.iconst 2, 1) := by decide +kernel
theorem dX4_layOut_76 : decode cX4_layOut 76 = .ok (.aload_n 0, 1) := by decide +kernel
theorem dX4_layOut_77 : decode cX4_layOut 77 = .ok (.getfield 117, 3) := by decide +kernel
theorem dX4_layOut_80 : decode cX4_layOut 80 = .ok (.iconst 1, 1) := by decide +kernel
theorem dX4_layOut_81 : decode cX4_layOut 81 = .ok (.iadd, 1) := by decide +kernel
theorem dX4_layOut_82 : decode cX4_layOut 82 = .ok (.iload_n 1, 1) := by decide +kernel
theorem dX4_layOut_83 : decode cX4_layOut 83 = .ok (.invokevirtual 138, 3) := by decide +kernel
theorem dX4_layOut_86 : decode cX4_layOut 86 = .ok (.aload_n 0, 1) := by decide +kernel
theorem dX4_layOut_87 : decode cX4_layOut 87 = .ok (.iconst 3, 1) := by decide +kernel
theorem dX4_layOut_88 : decode cX4_layOut 88 = .ok (.aload_n 0, 1) := by decide +kernel
theorem dX4_layOut_89 : decode cX4_layOut 89 = .ok (.getfield 117, 3) := by decide +kernel
theorem dX4_layOut_92 : decode cX4_layOut 92 = .ok (.iconst 1, 1) := by decide +kernel
theorem dX4_layOut_93 : decode cX4_layOut 93 = .ok (.isub, 1) := by decide +kernel
theorem dX4_layOut_94 : decode cX4_layOut 94 = .ok (.iload_n 2, 1) := by decide +kernel
theorem dX4_layOut_95 : decode cX4_layOut 95 = .ok (.invokevirtual 138, 3) := by decide +kernel
theorem dX4_layOut_98 : decode cX4_layOut 98 = .ok (.iconst 0, 1) := by decide +kernel
theorem dX4_layOut_99 : decode cX4_layOut 99 = .ok (.istore_n 3, 1) := by decide +kernel
theorem dX4_layOut_100 : decode cX4_layOut 100 = .ok (.iload_n 3, 1) := by decide +kernel
theorem dX4_layOut_101 : decode cX4_layOut 101 = .ok (.aload_n 0, 1) := by decide +kernel
theorem dX4_layOut_102 : decode cX4_layOut 102 = .ok (.getfield 123, 3) := by decide +kernel
theorem dX4_layOut_105 : decode cX4_layOut 105 = .ok (.if_icmp .ge 22, 3) := by decide +kernel
theorem dX4_layOut_108 : decode cX4_layOut 108 = .ok (.aload_n 0, 1) := by decide +kernel
theorem dX4_layOut_109 : decode cX4_layOut 109 = .ok (.getfield 15, 3) := by decide +kernel
theorem dX4_layOut_112 : decode cX4_layOut 112 = .ok (.iload_n 3, 1) := by decide +kernel
theorem dX4_layOut_113 : decode cX4_layOut 113 = .ok (.aload_n 0, 1) := by decide +kernel
theorem dX4_layOut_114 : decode cX4_layOut 114 = .ok (.iconst 1, 1) := by decide +kernel
theorem dX4_layOut_115 : decode cX4_layOut 115 = .ok (.iload_n 3, 1) := by decide +kernel
theorem dX4_layOut_116 : decode cX4_layOut 116 = .ok (.ishl, 1) := by decide +kernel
theorem dX4_layOut_117 : decode cX4_layOut 117 = .ok (.invokevirtual 142, 3) := by decide +kernel
theorem dX4_layOut_120 : decode cX4_layOut 120 = .ok (.iastore, 1) := by decide +kernel
theorem dX4_layOut_121 : decode cX4_layOut 121 = .ok (.iinc 3 1, 3) := by decide +kernel
theorem dX4_layOut_124 : decode cX4_layOut 124 = .ok (.goto (-24), 3) := by decide +kernel
theorem dX4_layOut_127 : decode cX4_layOut 127 = .ok (.return_, 1) := by decide +kernel
theorem dX4_setWay_0 : decode cX4_setWay 0 = .ok (.aload_n 0, 1) := by decide +kernel
theorem dX4_setWay_1 : decode cX4_setWay 1 = .ok (.getfield 18, 3) := by decide +kernel
theorem dX4_setWay_4 : decode cX4_setWay 4 = .ok (.iload_n 1, 1) := by decide +kernel
theorem dX4_setWay_5 : decode cX4_setWay 5 = .ok (.iload_n 2, 1) := by decide +kernel
theorem dX4_setWay_6 : decode cX4_setWay 6 = .ok (.iastore, 1) := by decide +kernel
theorem dX4_setWay_7 : decode cX4_setWay 7 = .ok (.aload_n 0, 1) := by decide +kernel
theorem dX4_setWay_8 : decode cX4_setWay 8 = .ok (.getfield 21, 3) := by decide +kernel
theorem dX4_setWay_11 : decode cX4_setWay 11 = .ok (.iload_n 1, 1) := by decide +kernel
theorem dX4_setWay_12 : decode cX4_setWay 12 = .ok (.iload_n 3, 1) := by decide +kernel
theorem dX4_setWay_13 : decode cX4_setWay 13 = .ok (.iastore, 1) := by decide +kernel
theorem dX4_setWay_14 : decode cX4_setWay 14 = .ok (.aload_n 0, 1) := by decide +kernel
theorem dX4_setWay_15 : decode cX4_setWay 15 = .ok (.getfield 126, 3) := by decide +kernel
theorem dX4_setWay_18 : decode cX4_setWay 18 = .ok (.istore 4, 2) := by decide +kernel
theorem dX4_setWay_20 : decode cX4_setWay 20 = .ok (.iconst 1, 1) := by decide +kernel
theorem dX4_setWay_21 : decode cX4_setWay 21 = .ok (.istore 5, 2) := by decide +kernel
theorem dX4_setWay_23 : decode cX4_setWay 23 = .ok (.iload 5, 2) := by decide +kernel
theorem dX4_setWay_25 : decode cX4_setWay 25 = .ok (.aload_n 0, 1) := by decide +kernel
theorem dX4_setWay_26 : decode cX4_setWay 26 = .ok (.getfield 11, 3) := by decide +kernel
theorem dX4_setWay_29 : decode cX4_setWay 29 = .ok (.iconst 2, 1) := by decide +kernel
theorem dX4_setWay_30 : decode cX4_setWay 30 = .ok (.iaload, 1) := by decide +kernel
theorem dX4_setWay_31 : decode cX4_setWay 31 = .ok (.if_icmp .ge 17, 3) := by decide +kernel
theorem dX4_setWay_34 : decode cX4_setWay 34 = .ok (.iload_n 3, 1) := by decide +kernel
theorem dX4_setWay_35 : decode cX4_setWay 35 = .ok (.iload 4, 2) := by decide +kernel
theorem dX4_setWay_37 : decode cX4_setWay 37 = .ok (.iload_n 2, 1) := by decide +kernel
theorem dX4_setWay_38 : decode cX4_setWay 38 = .ok (.iushr, 1) := by decide +kernel
theorem dX4_setWay_39 : decode cX4_setWay 39 = .ok (.iand, 1) := by decide +kernel
theorem dX4_setWay_40 : decode cX4_setWay 40 = .ok (.istore 4, 2) := by decide +kernel
theorem dX4_setWay_42 : decode cX4_setWay 42 = .ok (.iinc 5 1, 3) := by decide +kernel
theorem dX4_setWay_45 : decode cX4_setWay 45 = .ok (.goto (-22), 3) := by decide +kernel
theorem dX4_setWay_48 : decode cX4_setWay 48 = .ok (.aload_n 0, 1) := by decide +kernel
theorem dX4_setWay_49 : decode cX4_setWay 49 = .ok (.getfield 24, 3) := by decide +kernel
theorem dX4_setWay_52 : decode cX4_setWay 52 = .ok (.iload_n 1, 1) := by decide +kernel
theorem dX4_setWay_53 : decode cX4_setWay 53 = .ok (.iload 4, 2) := by decide +kernel
theorem dX4_setWay_55 : decode cX4_setWay 55 = .ok (.iastore, 1) := by decide +kernel
theorem dX4_setWay_56 : decode cX4_setWay 56 = .ok (.return_, 1) := by decide +kernel
theorem dX5_clear_0 : decode cX5_clear 0 = .ok (.aload_n 0, 1) := by decide +kernel
theorem dX5_clear_1 : decode cX5_clear 1 = .ok (.iconst 0, 1) := by decide +kernel
theorem dX5_clear_2 : decode cX5_clear 2 = .ok (.putfield 27, 3) := by decide +kernel
theorem dX5_clear_5 : decode cX5_clear 5 = .ok (.aload_n 0, 1) := by decide +kernel
theorem dX5_clear_6 : decode cX5_clear 6 = .ok (.iconst 0, 1) := by decide +kernel
theorem dX5_clear_7 : decode cX5_clear 7 = .ok (.putfield 31, 3) := by decide +kernel
theorem dX5_clear_10 : decode cX5_clear 10 = .ok (.aload_n 0, 1) := by decide +kernel
theorem dX5_clear_11 : decode cX5_clear 11 = .ok (.iconst 0, 1) := by decide +kernel
theorem dX5_clear_12 : decode cX5_clear 12 = .ok (.putfield 34, 3) := by decide +kernel
theorem dX5_clear_15 : decode cX5_clear 15 = .ok (.return_, 1) := by decide +kernel
theorem dX5_keep_0 : decode cX5_keep 0 = .ok (.aload_n 0, 1) := by decide +kernel
theorem dX5_keep_1 : decode cX5_keep 1 = .ok (.getfield 11, 3) := by decide +kernel
theorem dX5_keep_4 : decode cX5_keep 4 = .ok (.aload_n 0, 1) := by decide +kernel
theorem dX5_keep_5 : decode cX5_keep 5 = .ok (.getfield 44, 3) := by decide +kernel
theorem dX5_keep_8 : decode cX5_keep 8 = .ok (.aaload, 1) := by decide +kernel
theorem dX5_keep_9 : decode cX5_keep 9 = .ok (.aload_n 1, 1) := by decide +kernel
theorem dX5_keep_10 : decode cX5_keep 10 = .ok (.invokevirtual 47, 3) := by decide +kernel
theorem dX5_keep_13 : decode cX5_keep 13 = .ok (.aload_n 0, 1) := by decide +kernel
theorem dX5_keep_14 : decode cX5_keep 14 = .ok (.aload_n 0, 1) := by decide +kernel
theorem dX5_keep_15 : decode cX5_keep 15 = .ok (.getfield 44, 3) := by decide +kernel
theorem dX5_keep_18 : decode cX5_keep 18 = .ok (.iconst 1, 1) := by decide +kernel
theorem dX5_keep_19 : decode cX5_keep 19 = .ok (.iadd, 1) := by decide +kernel
theorem dX5_keep_20 : decode cX5_keep 20 = .ok (.bipush 40, 2) := by decide +kernel
theorem dX5_keep_22 : decode cX5_keep 22 = .ok (.irem, 1) := by decide +kernel
theorem dX5_keep_23 : decode cX5_keep 23 = .ok (.putfield 44, 3) := by decide +kernel
theorem dX5_keep_26 : decode cX5_keep 26 = .ok (.aload_n 0, 1) := by decide +kernel
theorem dX5_keep_27 : decode cX5_keep 27 = .ok (.aload_n 0, 1) := by decide +kernel
theorem dX5_keep_28 : decode cX5_keep 28 = .ok (.getfield 27, 3) := by decide +kernel
theorem dX5_keep_31 : decode cX5_keep 31 = .ok (.iconst 1, 1) := by decide +kernel
theorem dX5_keep_32 : decode cX5_keep 32 = .ok (.iadd, 1) := by decide +kernel
theorem dX5_keep_33 : decode cX5_keep 33 = .ok (.bipush 40, 2) := by decide +kernel
theorem dX5_keep_35 : decode cX5_keep 35 = .ok (.invokestatic 38, 3) := by decide +kernel
theorem dX5_keep_38 : decode cX5_keep 38 = .ok (.putfield 27, 3) := by decide +kernel
theorem dX5_keep_41 : decode cX5_keep 41 = .ok (.aload_n 0, 1) := by decide +kernel
theorem dX5_keep_42 : decode cX5_keep 42 = .ok (.getfield 15, 3) := by decide +kernel
theorem dX5_keep_45 : decode cX5_keep 45 = .ok (.aload_n 0, 1) := by decide +kernel
theorem dX5_keep_46 : decode cX5_keep 46 = .ok (.getfield 51, 3) := by decide +kernel
theorem dX5_keep_49 : decode cX5_keep 49 = .ok (.iload_n 2, 1) := by decide +kernel
theorem dX5_keep_50 : decode cX5_keep 50 = .ok (.iastore, 1) := by decide +kernel
theorem dX5_keep_51 : decode cX5_keep 51 = .ok (.aload_n 0, 1) := by decide +kernel
theorem dX5_keep_52 : decode cX5_keep 52 = .ok (.aload_n 0, 1) := by decide +kernel
theorem dX5_keep_53 : decode cX5_keep 53 = .ok (.getfield 51, 3) := by decide +kernel
theorem dX5_keep_56 : decode cX5_keep 56 = .ok (.iconst 1, 1) := by decide +kernel
theorem dX5_keep_57 : decode cX5_keep 57 = .ok (.iadd, 1) := by decide +kernel
theorem dX5_keep_58 : decode cX5_keep 58 = .ok (.bipush 100, 2) := by decide +kernel
theorem dX5_keep_60 : decode cX5_keep 60 = .ok (.irem, 1) := by decide +kernel
theorem dX5_keep_61 : decode cX5_keep 61 = .ok (.putfield 51, 3) := by decide +kernel
theorem dX5_keep_64 : decode cX5_keep 64 = .ok (.aload_n 0, 1) := by decide +kernel
theorem dX5_keep_65 : decode cX5_keep 65 = .ok (.aload_n 0, 1) := by decide +kernel
theorem dX5_keep_66 : decode cX5_keep 66 = .ok (.getfield 31, 3) := by decide +kernel
theorem dX5_keep_69 : decode cX5_keep 69 = .ok (.iconst 1, 1) := by decide +kernel
theorem dX5_keep_70 : decode cX5_keep 70 = .ok (.iadd, 1) := by decide +kernel
theorem dX5_keep_71 : decode cX5_keep 71 = .ok (.bipush 100, 2) := by decide +kernel
theorem dX5_keep_73 : decode cX5_keep 73 = .ok (.invokestatic 38, 3) := by decide +kernel
theorem dX5_keep_76 : decode cX5_keep 76 = .ok (.putfield 31, 3) := by decide +kernel
theorem dX5_keep_79 : decode cX5_keep 79 = .ok (.return_, 1) := by decide +kernel
theorem dX5_shown_0 : decode cX5_shown 0 = .ok (.aload_n 0, 1) := by decide +kernel
theorem dX5_shown_1 : decode cX5_shown 1 = .ok (.getfield 31, 3) := by decide +kernel
theorem dX5_shown_4 : decode cX5_shown 4 = .ok (.bipush 60, 2) := by decide +kernel
theorem dX5_shown_6 : decode cX5_shown 6 = .ok (.invokestatic 38, 3) := by decide +kernel
theorem dX5_shown_9 : decode cX5_shown 9 = .ok (.ireturn, 1) := by decide +kernel
theorem dX5_takeBack_0 : decode cX5_takeBack 0 = .ok (.aload_n 0, 1) := by decide +kernel
theorem dX5_takeBack_1 : decode cX5_takeBack 1 = .ok (.getfield 27, 3) := by decide +kernel
theorem dX5_takeBack_4 : decode cX5_takeBack 4 = .ok (.iconst 1, 1) := by decide +kernel
theorem dX5_takeBack_5 : decode cX5_takeBack 5 = .ok (.if_icmp .ge 5, 3) := by decide +kernel
theorem dX5_takeBack_8 : decode cX5_takeBack 8 = .ok (.iconst 0, 1) := by decide +kernel
theorem dX5_takeBack_9 : decode cX5_takeBack 9 = .ok (.ireturn, 1) := by decide +kernel
theorem dX5_takeBack_10 : decode cX5_takeBack 10 = .ok (.aload_n 0, 1) := by decide +kernel
theorem dX5_takeBack_11 : decode cX5_takeBack 11 = .ok (.aload_n 0, 1) := by decide +kernel
theorem dX5_takeBack_12 : decode cX5_takeBack 12 = .ok (.getfield 44, 3) := by decide +kernel
theorem dX5_takeBack_15 : decode cX5_takeBack 15 = .ok (.bipush 40, 2) := by decide +kernel
theorem dX5_takeBack_17 : decode cX5_takeBack 17 = .ok (.iadd, 1) := by decide +kernel
theorem dX5_takeBack_18 : decode cX5_takeBack 18 = .ok (.iconst 1, 1) := by decide +kernel
theorem dX5_takeBack_19 : decode cX5_takeBack 19 = .ok (.isub, 1) := by decide +kernel
theorem dX5_takeBack_20 : decode cX5_takeBack 20 = .ok (.bipush 40, 2) := by decide +kernel
theorem dX5_takeBack_22 : decode cX5_takeBack 22 = .ok (.irem, 1) := by decide +kernel
theorem dX5_takeBack_23 : decode cX5_takeBack 23 = .ok (.putfield 44, 3) := by decide +kernel
theorem dX5_takeBack_26 : decode cX5_takeBack 26 = .ok (.aload_n 1, 1) := by decide +kernel
theorem dX5_takeBack_27 : decode cX5_takeBack 27 = .ok (.aload_n 0, 1) := by decide +kernel
theorem dX5_takeBack_28 : decode cX5_takeBack 28 = .ok (.getfield 11, 3) := by decide +kernel
theorem dX5_takeBack_31 : decode cX5_takeBack 31 = .ok (.aload_n 0, 1) := by decide +kernel
theorem dX5_takeBack_32 : decode cX5_takeBack 32 = .ok (.getfield 44, 3) := by decide +kernel
theorem dX5_takeBack_35 : decode cX5_takeBack 35 = .ok (.aaload, 1) := by decide +kernel
theorem dX5_takeBack_36 : decode cX5_takeBack 36 = .ok (.invokevirtual 47, 3) := by decide +kernel
theorem dX5_takeBack_39 : decode cX5_takeBack 39 = .ok (.aload_n 0, 1) := by decide +kernel
theorem dX5_takeBack_40 : decode cX5_takeBack 40 = .ok (.dup, 1) := by decide +kernel
theorem dX5_takeBack_41 : decode cX5_takeBack 41 = .ok (.getfield 27, 3) := by decide +kernel
theorem dX5_takeBack_44 : decode cX5_takeBack 44 = .ok (.iconst 1, 1) := by decide +kernel
theorem dX5_takeBack_45 : decode cX5_takeBack 45 = .ok (.isub, 1) := by decide +kernel
theorem dX5_takeBack_46 : decode cX5_takeBack 46 = .ok (.putfield 27, 3) := by decide +kernel
theorem dX5_takeBack_49 : decode cX5_takeBack 49 = .ok (.aload_n 0, 1) := by decide +kernel
theorem dX5_takeBack_50 : decode cX5_takeBack 50 = .ok (.aload_n 0, 1) := by decide +kernel
theorem dX5_takeBack_51 : decode cX5_takeBack 51 = .ok (.getfield 51, 3) := by decide +kernel
theorem dX5_takeBack_54 : decode cX5_takeBack 54 = .ok (.bipush 100, 2) := by decide +kernel
theorem dX5_takeBack_56 : decode cX5_takeBack 56 = .ok (.iadd, 1) := by decide +kernel
theorem dX5_takeBack_57 : decode cX5_takeBack 57 = .ok (.iconst 1, 1) := by decide +kernel
theorem dX5_takeBack_58 : decode cX5_takeBack 58 = .ok (.isub, 1) := by decide +kernel
theorem dX5_takeBack_59 : decode cX5_takeBack 59 = .ok (.bipush 100, 2) := by decide +kernel
theorem dX5_takeBack_61 : decode cX5_takeBack 61 = .ok (.irem, 1) := by decide +kernel
theorem dX5_takeBack_62 : decode cX5_takeBack 62 = .ok (.putfield 51, 3) := by decide +kernel
theorem dX5_takeBack_65 : decode cX5_takeBack 65 = .ok (.aload_n 0, 1) := by decide +kernel
theorem dX5_takeBack_66 : decode cX5_takeBack 66 = .ok (.dup, 1) := by decide +kernel
theorem dX5_takeBack_67 : decode cX5_takeBack 67 = .ok (.getfield 31, 3) := by decide +kernel
theorem dX5_takeBack_70 : decode cX5_takeBack 70 = .ok (.iconst 1, 1) := by decide +kernel
theorem dX5_takeBack_71 : decode cX5_takeBack 71 = .ok (.isub, 1) := by decide +kernel
theorem dX5_takeBack_72 : decode cX5_takeBack 72 = .ok (.putfield 31, 3) := by decide +kernel
theorem dX5_takeBack_75 : decode cX5_takeBack 75 = .ok (.iconst 1, 1) := by decide +kernel
theorem dX5_takeBack_76 : decode cX5_takeBack 76 = .ok (.ireturn, 1) := by decide +kernel
theorem dX6_comparison_0 : decode cX6_comparison 0 = .ok (.iload_n 0, 1) := by decide +kernel
theorem dX6_comparison_1 : decode cX6_comparison 1 = .ok (.bipush 61, 2) := by decide +kernel
theorem dX6_comparison_3 : decode cX6_comparison 3 = .ok (.if_icmp .ne 8, 3) := by decide +kernel
theorem dX6_comparison_6 : decode cX6_comparison 6 = .ok (.bipush (-14), 2) := by decide +kernel
theorem dX6_comparison_8 : decode cX6_comparison 8 = .ok (.goto 26, 3) := by decide +kernel
theorem dX6_comparison_11 : decode cX6_comparison 11 = .ok (.iload_n 0, 1) := by decide +kernel
theorem dX6_comparison_12 : decode cX6_comparison 12 = .ok (.bipush 60, 2) := by decide +kernel
theorem dX6_comparison_14 : decode cX6_comparison 14 = .ok (.if_icmp .ne 8, 3) := by decide +kernel
theorem dX6_comparison_17 : decode cX6_comparison 17 = .ok (.bipush (-15), 2) := by decide +kernel
theorem dX6_comparison_19 : decode cX6_comparison 19 = .ok (.goto 15, 3) := by decide +kernel
theorem dX6_comparison_22 : decode cX6_comparison 22 = .ok (.iload_n 0, 1) := by decide +kernel
theorem dX6_comparison_23 : decode cX6_comparison 23 = .ok (.bipush 62, 2) := by decide +kernel
theorem dX6_comparison_25 : decode cX6_comparison 25 = .ok (.if_icmp .ne 8, 3) := by decide +kernel
theorem dX6_comparison_28 : decode cX6_comparison 28 = .ok (.bipush (-16), 2) := by decide +kernel
theorem dX6_comparison_30 : decode cX6_comparison 30 = .ok (.goto 4, 3) := by decide +kernel
theorem dX6_comparison_33 : decode cX6_comparison 33 = .ok (.iconst 0, 1) := by decide +kernel
theorem dX6_comparison_34 : decode cX6_comparison 34 = .ok (.ireturn, 1) := by decide +kernel
theorem dX6_joined_0 : decode cX6_joined 0 = .ok (.iload_n 0, 1) := by decide +kernel
theorem dX6_joined_1 : decode cX6_joined 1 = .ok (.tableswitch 143 (-17) (-10) #[125, 113, 101, 89, 71, 63, 55, 47], 47) := by decide +kernel
theorem dX6_joined_48 : decode cX6_joined 48 = .ok (.lload_n 1, 1) := by decide +kernel
theorem dX6_joined_49 : decode cX6_joined 49 = .ok (.lload_n 3, 1) := by decide +kernel
theorem dX6_joined_50 : decode cX6_joined 50 = .ok (.ladd, 1) := by decide +kernel
theorem dX6_joined_51 : decode cX6_joined 51 = .ok (.lstore 5, 2) := by decide +kernel
theorem dX6_joined_53 : decode cX6_joined 53 = .ok (.goto 109, 3) := by decide +kernel
theorem dX6_joined_56 : decode cX6_joined 56 = .ok (.lload_n 1, 1) := by decide +kernel
theorem dX6_joined_57 : decode cX6_joined 57 = .ok (.lload_n 3, 1) := by decide +kernel
theorem dX6_joined_58 : decode cX6_joined 58 = .ok (.lsub, 1) := by decide +kernel
theorem dX6_joined_59 : decode cX6_joined 59 = .ok (.lstore 5, 2) := by decide +kernel
theorem dX6_joined_61 : decode cX6_joined 61 = .ok (.goto 101, 3) := by decide +kernel
theorem dX6_joined_64 : decode cX6_joined 64 = .ok (.lload_n 1, 1) := by decide +kernel
theorem dX6_joined_65 : decode cX6_joined 65 = .ok (.lload_n 3, 1) := by decide +kernel
theorem dX6_joined_66 : decode cX6_joined 66 = .ok (.lmul, 1) := by decide +kernel
theorem dX6_joined_67 : decode cX6_joined 67 = .ok (.lstore 5, 2) := by decide +kernel
theorem dX6_joined_69 : decode cX6_joined 69 = .ok (.goto 93, 3) := by decide +kernel
theorem dX6_joined_72 : decode cX6_joined 72 = .ok (.lload_n 3, 1) := by decide +kernel
theorem dX6_joined_73 : decode cX6_joined 73 = .ok (.lconst 0, 1) := by decide +kernel
theorem dX6_joined_74 : decode cX6_joined 74 = .ok (.lcmp, 1) := by decide +kernel
theorem dX6_joined_75 : decode cX6_joined 75 = .ok (.ifCond .ne 7, 3) := by decide +kernel
theorem dX6_joined_78 : decode cX6_joined 78 = .ok (.lconst 0, 1) := by decide +kernel
theorem dX6_joined_79 : decode cX6_joined 79 = .ok (.goto 6, 3) := by decide +kernel
theorem dX6_joined_82 : decode cX6_joined 82 = .ok (.lload_n 1, 1) := by decide +kernel
theorem dX6_joined_83 : decode cX6_joined 83 = .ok (.lload_n 3, 1) := by decide +kernel
theorem dX6_joined_84 : decode cX6_joined 84 = .ok (.ldiv, 1) := by decide +kernel
theorem dX6_joined_85 : decode cX6_joined 85 = .ok (.lstore 5, 2) := by decide +kernel
theorem dX6_joined_87 : decode cX6_joined 87 = .ok (.goto 75, 3) := by decide +kernel
theorem dX6_joined_90 : decode cX6_joined 90 = .ok (.lload_n 1, 1) := by decide +kernel
theorem dX6_joined_91 : decode cX6_joined 91 = .ok (.lload_n 3, 1) := by decide +kernel
theorem dX6_joined_92 : decode cX6_joined 92 = .ok (.lcmp, 1) := by decide +kernel
theorem dX6_joined_93 : decode cX6_joined 93 = .ok (.ifCond .ne 7, 3) := by decide +kernel
theorem dX6_joined_96 : decode cX6_joined 96 = .ok (.iconst 1, 1) := by decide +kernel
theorem dX6_joined_97 : decode cX6_joined 97 = .ok (.goto 4, 3) := by decide +kernel
theorem dX6_joined_100 : decode cX6_joined 100 = .ok (.iconst 0, 1) := by decide +kernel
theorem dX6_joined_101 : decode cX6_joined 101 = .ok (.ireturn, 1) := by decide +kernel
theorem dX6_joined_102 : decode cX6_joined 102 = .ok (.lload_n 1, 1) := by decide +kernel
theorem dX6_joined_103 : decode cX6_joined 103 = .ok (.lload_n 3, 1) := by decide +kernel
theorem dX6_joined_104 : decode cX6_joined 104 = .ok (.lcmp, 1) := by decide +kernel
theorem dX6_joined_105 : decode cX6_joined 105 = .ok (.ifCond .ge 7, 3) := by decide +kernel
theorem dX6_joined_108 : decode cX6_joined 108 = .ok (.iconst 1, 1) := by decide +kernel
theorem dX6_joined_109 : decode cX6_joined 109 = .ok (.goto 4, 3) := by decide +kernel
theorem dX6_joined_112 : decode cX6_joined 112 = .ok (.iconst 0, 1) := by decide +kernel
theorem dX6_joined_113 : decode cX6_joined 113 = .ok (.ireturn, 1) := by decide +kernel
theorem dX6_joined_114 : decode cX6_joined 114 = .ok (.lload_n 1, 1) := by decide +kernel
theorem dX6_joined_115 : decode cX6_joined 115 = .ok (.lload_n 3, 1) := by decide +kernel
theorem dX6_joined_116 : decode cX6_joined 116 = .ok (.lcmp, 1) := by decide +kernel
theorem dX6_joined_117 : decode cX6_joined 117 = .ok (.ifCond .le 7, 3) := by decide +kernel
theorem dX6_joined_120 : decode cX6_joined 120 = .ok (.iconst 1, 1) := by decide +kernel
theorem dX6_joined_121 : decode cX6_joined 121 = .ok (.goto 4, 3) := by decide +kernel
theorem dX6_joined_124 : decode cX6_joined 124 = .ok (.iconst 0, 1) := by decide +kernel
theorem dX6_joined_125 : decode cX6_joined 125 = .ok (.ireturn, 1) := by decide +kernel
theorem dX6_joined_126 : decode cX6_joined 126 = .ok (.lload_n 1, 1) := by decide +kernel
theorem dX6_joined_127 : decode cX6_joined 127 = .ok (.lconst 0, 1) := by decide +kernel
theorem dX6_joined_128 : decode cX6_joined 128 = .ok (.lcmp, 1) := by decide +kernel
theorem dX6_joined_129 : decode cX6_joined 129 = .ok (.ifCond .eq 13, 3) := by decide +kernel
theorem dX6_joined_132 : decode cX6_joined 132 = .ok (.lload_n 3, 1) := by decide +kernel
theorem dX6_joined_133 : decode cX6_joined 133 = .ok (.lconst 0, 1) := by decide +kernel
theorem dX6_joined_134 : decode cX6_joined 134 = .ok (.lcmp, 1) := by decide +kernel
theorem dX6_joined_135 : decode cX6_joined 135 = .ok (.ifCond .eq 7, 3) := by decide +kernel
theorem dX6_joined_138 : decode cX6_joined 138 = .ok (.iconst 1, 1) := by decide +kernel
theorem dX6_joined_139 : decode cX6_joined 139 = .ok (.goto 4, 3) := by decide +kernel
theorem dX6_joined_142 : decode cX6_joined 142 = .ok (.iconst 0, 1) := by decide +kernel
theorem dX6_joined_143 : decode cX6_joined 143 = .ok (.ireturn, 1) := by decide +kernel
theorem dX6_joined_144 : decode cX6_joined 144 = .ok (.lload_n 1, 1) := by decide +kernel
theorem dX6_joined_145 : decode cX6_joined 145 = .ok (.lconst 0, 1) := by decide +kernel
theorem dX6_joined_146 : decode cX6_joined 146 = .ok (.lcmp, 1) := by decide +kernel
theorem dX6_joined_147 : decode cX6_joined 147 = .ok (.ifCond .ne 9, 3) := by decide +kernel
theorem dX6_joined_150 : decode cX6_joined 150 = .ok (.lload_n 3, 1) := by decide +kernel
theorem dX6_joined_151 : decode cX6_joined 151 = .ok (.lconst 0, 1) := by decide +kernel
theorem dX6_joined_152 : decode cX6_joined 152 = .ok (.lcmp, 1) := by decide +kernel
theorem dX6_joined_153 : decode cX6_joined 153 = .ok (.ifCond .eq 7, 3) := by decide +kernel
theorem dX6_joined_156 : decode cX6_joined 156 = .ok (.iconst 1, 1) := by decide +kernel
theorem dX6_joined_157 : decode cX6_joined 157 = .ok (.goto 4, 3) := by decide +kernel
theorem dX6_joined_160 : decode cX6_joined 160 = .ok (.iconst 0, 1) := by decide +kernel
theorem dX6_joined_161 : decode cX6_joined 161 = .ok (.ireturn, 1) := by decide +kernel
theorem dX6_joined_162 : decode cX6_joined 162 = .ok (.lload 5, 2) := by decide +kernel
theorem dX6_joined_164 : decode cX6_joined 164 = .ok (.ldc2_w 111, 3) := by decide +kernel
theorem dX6_joined_167 : decode cX6_joined 167 = .ok (.lcmp, 1) := by decide +kernel
theorem dX6_joined_168 : decode cX6_joined 168 = .ok (.ifCond .le 8, 3) := by decide +kernel
theorem dX6_joined_171 : decode cX6_joined 171 = .ok (.ldc 113, 2) := by decide +kernel
theorem dX6_joined_173 : decode cX6_joined 173 = .ok (.goto 20, 3) := by decide +kernel
theorem dX6_joined_176 : decode cX6_joined 176 = .ok (.lload 5, 2) := by decide +kernel
theorem dX6_joined_178 : decode cX6_joined 178 = .ok (.ldc2_w 114, 3) := by decide +kernel
theorem dX6_joined_181 : decode cX6_joined 181 = .ok (.lcmp, 1) := by decide +kernel
theorem dX6_joined_182 : decode cX6_joined 182 = .ok (.ifCond .ge 8, 3) := by decide +kernel
theorem dX6_joined_185 : decode cX6_joined 185 = .ok (.ldc 116, 2) := by decide +kernel
theorem dX6_joined_187 : decode cX6_joined 187 = .ok (.goto 6, 3) := by decide +kernel
theorem dX6_joined_190 : decode cX6_joined 190 = .ok (.lload 5, 2) := by decide +kernel
theorem dX6_joined_192 : decode cX6_joined 192 = .ok (.l2i, 1) := by decide +kernel
theorem dX6_joined_193 : decode cX6_joined 193 = .ok (.ireturn, 1) := by decide +kernel
theorem dX6_put_0 : decode cX6_put 0 = .ok (.aload_n 0, 1) := by decide +kernel
theorem dX6_put_1 : decode cX6_put 1 = .ok (.getfield 29, 3) := by decide +kernel
theorem dX6_put_4 : decode cX6_put 4 = .ok (.aload_n 0, 1) := by decide +kernel
theorem dX6_put_5 : decode cX6_put 5 = .ok (.getfield 11, 3) := by decide +kernel
theorem dX6_put_8 : decode cX6_put 8 = .ok (.arraylength, 1) := by decide +kernel
theorem dX6_put_9 : decode cX6_put 9 = .ok (.if_icmp .ge 23, 3) := by decide +kernel
theorem dX6_put_12 : decode cX6_put 12 = .ok (.aload_n 0, 1) := by decide +kernel
theorem dX6_put_13 : decode cX6_put 13 = .ok (.getfield 11, 3) := by decide +kernel
theorem dX6_put_16 : decode cX6_put 16 = .ok (.aload_n 0, 1) := by decide +kernel
theorem dX6_put_17 : decode cX6_put 17 = .ok (.getfield 29, 3) := by decide +kernel
theorem dX6_put_20 : decode cX6_put 20 = .ok (.iload_n 1, 1) := by decide +kernel
theorem dX6_put_21 : decode cX6_put 21 = .ok (.iastore, 1) := by decide +kernel
theorem dX6_put_22 : decode cX6_put 22 = .ok (.aload_n 0, 1) := by decide +kernel
theorem dX6_put_23 : decode cX6_put 23 = .ok (.dup, 1) := by decide +kernel
theorem dX6_put_24 : decode cX6_put 24 = .ok (.getfield 29, 3) := by decide +kernel
theorem dX6_put_27 : decode cX6_put 27 = .ok (.iconst 1, 1) := by decide +kernel
theorem dX6_put_28 : decode cX6_put 28 = .ok (.iadd, 1) := by decide +kernel
theorem dX6_put_29 : decode cX6_put 29 = .ok (.putfield 29, 3) := by decide +kernel
theorem dX6_put_32 : decode cX6_put 32 = .ok (.return_, 1) := by decide +kernel
theorem dX6_reckon_0 : decode cX6_reckon 0 = .ok (.iconst 0, 1) := by decide +kernel
theorem dX6_reckon_1 : decode cX6_reckon 1 = .ok (.istore 4, 2) := by decide +kernel
theorem dX6_reckon_3 : decode cX6_reckon 3 = .ok (.iload_n 1, 1) := by decide +kernel
theorem dX6_reckon_4 : decode cX6_reckon 4 = .ok (.istore 5, 2) := by decide +kernel
theorem dX6_reckon_6 : decode cX6_reckon 6 = .ok (.iload 5, 2) := by decide +kernel
theorem dX6_reckon_8 : decode cX6_reckon 8 = .ok (.iload_n 2, 1) := by decide +kernel
theorem dX6_reckon_9 : decode cX6_reckon 9 = .ok (.if_icmp .ge 142, 3) := by decide +kernel
theorem dX6_reckon_12 : decode cX6_reckon 12 = .ok (.aload_n 0, 1) := by decide +kernel
theorem dX6_reckon_13 : decode cX6_reckon 13 = .ok (.getfield 11, 3) := by decide +kernel
theorem dX6_reckon_16 : decode cX6_reckon 16 = .ok (.iload 5, 2) := by decide +kernel
theorem dX6_reckon_18 : decode cX6_reckon 18 = .ok (.iaload, 1) := by decide +kernel
theorem dX6_reckon_19 : decode cX6_reckon 19 = .ok (.istore 6, 2) := by decide +kernel
theorem dX6_reckon_21 : decode cX6_reckon 21 = .ok (.iload 6, 2) := by decide +kernel
theorem dX6_reckon_23 : decode cX6_reckon 23 = .ok (.bipush (-6), 2) := by decide +kernel
theorem dX6_reckon_25 : decode cX6_reckon 25 = .ok (.if_icmp .lt 44, 3) := by decide +kernel
theorem dX6_reckon_28 : decode cX6_reckon 28 = .ok (.iload 4, 2) := by decide +kernel
theorem dX6_reckon_30 : decode cX6_reckon 30 = .ok (.aload_n 0, 1) := by decide +kernel
theorem dX6_reckon_31 : decode cX6_reckon 31 = .ok (.getfield 17, 3) := by decide +kernel
theorem dX6_reckon_34 : decode cX6_reckon 34 = .ok (.arraylength, 1) := by decide +kernel
theorem dX6_reckon_35 : decode cX6_reckon 35 = .ok (.if_icmp .lt 5, 3) := by decide +kernel
theorem dX6_reckon_38 : decode cX6_reckon 38 = .ok (.iconst 0, 1) := by decide +kernel
theorem dX6_reckon_39 : decode cX6_reckon 39 = .ok (.ireturn, 1) := by decide +kernel
theorem dX6_reckon_40 : decode cX6_reckon 40 = .ok (.aload_n 0, 1) := by decide +kernel
theorem dX6_reckon_41 : decode cX6_reckon 41 = .ok (.getfield 17, 3) := by decide +kernel
theorem dX6_reckon_44 : decode cX6_reckon 44 = .ok (.iload 4, 2) := by decide +kernel
theorem dX6_reckon_46 : decode cX6_reckon 46 = .ok (.iload 6, 2) := by decide +kernel
theorem dX6_reckon_48 : decode cX6_reckon 48 = .ok (.ifCond .lt 8, 3) := by decide +kernel
theorem dX6_reckon_51 : decode cX6_reckon 51 = .ok (.iload 6, 2) := by decide +kernel
theorem dX6_reckon_53 : decode cX6_reckon 53 = .ok (.goto 9, 3) := by decide +kernel
theorem dX6_reckon_56 : decode cX6_reckon 56 = .ok (.aload_n 3, 1) := by decide +kernel
theorem dX6_reckon_57 : decode cX6_reckon 57 = .ok (.iconst (-1), 1) := by decide +kernel
theorem dX6_reckon_58 : decode cX6_reckon 58 = .ok (.iload 6, 2) := by decide +kernel
theorem dX6_reckon_60 : decode cX6_reckon 60 = .ok (.isub, 1) := by decide +kernel
theorem dX6_reckon_61 : decode cX6_reckon 61 = .ok (.iaload, 1) := by decide +kernel
theorem dX6_reckon_62 : decode cX6_reckon 62 = .ok (.iastore, 1) := by decide +kernel
theorem dX6_reckon_63 : decode cX6_reckon 63 = .ok (.iinc 4 1, 3) := by decide +kernel
theorem dX6_reckon_66 : decode cX6_reckon 66 = .ok (.goto 79, 3) := by decide +kernel
theorem dX6_reckon_69 : decode cX6_reckon 69 = .ok (.iload 6, 2) := by decide +kernel
theorem dX6_reckon_71 : decode cX6_reckon 71 = .ok (.bipush (-19), 2) := by decide +kernel
theorem dX6_reckon_73 : decode cX6_reckon 73 = .ok (.if_icmp .ne 31, 3) := by decide +kernel
theorem dX6_reckon_76 : decode cX6_reckon 76 = .ok (.iload 4, 2) := by decide +kernel
theorem dX6_reckon_78 : decode cX6_reckon 78 = .ok (.ifCond .le 26, 3) := by decide +kernel
theorem dX6_reckon_81 : decode cX6_reckon 81 = .ok (.aload_n 0, 1) := by decide +kernel
theorem dX6_reckon_82 : decode cX6_reckon 82 = .ok (.getfield 17, 3) := by decide +kernel
theorem dX6_reckon_85 : decode cX6_reckon 85 = .ok (.iload 4, 2) := by decide +kernel
theorem dX6_reckon_87 : decode cX6_reckon 87 = .ok (.iconst 1, 1) := by decide +kernel
theorem dX6_reckon_88 : decode cX6_reckon 88 = .ok (.isub, 1) := by decide +kernel
theorem dX6_reckon_89 : decode cX6_reckon 89 = .ok (.iconst 1, 1) := by decide +kernel
theorem dX6_reckon_90 : decode cX6_reckon 90 = .ok (.aload_n 0, 1) := by decide +kernel
theorem dX6_reckon_91 : decode cX6_reckon 91 = .ok (.getfield 17, 3) := by decide +kernel
theorem dX6_reckon_94 : decode cX6_reckon 94 = .ok (.iload 4, 2) := by decide +kernel
theorem dX6_reckon_96 : decode cX6_reckon 96 = .ok (.iconst 1, 1) := by decide +kernel
theorem dX6_reckon_97 : decode cX6_reckon 97 = .ok (.isub, 1) := by decide +kernel
theorem dX6_reckon_98 : decode cX6_reckon 98 = .ok (.iaload, 1) := by decide +kernel
theorem dX6_reckon_99 : decode cX6_reckon 99 = .ok (.isub, 1) := by decide +kernel
theorem dX6_reckon_100 : decode cX6_reckon 100 = .ok (.iastore, 1) := by decide +kernel
theorem dX6_reckon_101 : decode cX6_reckon 101 = .ok (.goto 44, 3) := by decide +kernel
theorem dX6_reckon_104 : decode cX6_reckon 104 = .ok (.iload 4, 2) := by decide +kernel
theorem dX6_reckon_106 : decode cX6_reckon 106 = .ok (.iconst 1, 1) := by decide +kernel
theorem dX6_reckon_107 : decode cX6_reckon 107 = .ok (.if_icmp .le 38, 3) := by decide +kernel
theorem dX6_reckon_110 : decode cX6_reckon 110 = .ok (.iinc 4 (-1), 3) := by decide +kernel
theorem dX6_reckon_113 : decode cX6_reckon 113 = .ok (.aload_n 0, 1) := by decide +kernel
theorem dX6_reckon_114 : decode cX6_reckon 114 = .ok (.getfield 17, 3) := by decide +kernel
theorem dX6_reckon_117 : decode cX6_reckon 117 = .ok (.iload 4, 2) := by decide +kernel
theorem dX6_reckon_119 : decode cX6_reckon 119 = .ok (.iconst 1, 1) := by decide +kernel
theorem dX6_reckon_120 : decode cX6_reckon 120 = .ok (.isub, 1) := by decide +kernel
theorem dX6_reckon_121 : decode cX6_reckon 121 = .ok (.iload 6, 2) := by decide +kernel
theorem dX6_reckon_123 : decode cX6_reckon 123 = .ok (.aload_n 0, 1) := by decide +kernel
theorem dX6_reckon_124 : decode cX6_reckon 124 = .ok (.getfield 17, 3) := by decide +kernel
theorem dX6_reckon_127 : decode cX6_reckon 127 = .ok (.iload 4, 2) := by decide +kernel
theorem dX6_reckon_129 : decode cX6_reckon 129 = .ok (.iconst 1, 1) := by decide +kernel
theorem dX6_reckon_130 : decode cX6_reckon 130 = .ok (.isub, 1) := by decide +kernel
theorem dX6_reckon_131 : decode cX6_reckon 131 = .ok (.iaload, 1) := by decide +kernel
theorem dX6_reckon_132 : decode cX6_reckon 132 = .ok (.i2l, 1) := by decide +kernel
theorem dX6_reckon_133 : decode cX6_reckon 133 = .ok (.aload_n 0, 1) := by decide +kernel
theorem dX6_reckon_134 : decode cX6_reckon 134 = .ok (.getfield 17, 3) := by decide +kernel
theorem dX6_reckon_137 : decode cX6_reckon 137 = .ok (.iload 4, 2) := by decide +kernel
theorem dX6_reckon_139 : decode cX6_reckon 139 = .ok (.iaload, 1) := by decide +kernel
theorem dX6_reckon_140 : decode cX6_reckon 140 = .ok (.i2l, 1) := by decide +kernel
theorem dX6_reckon_141 : decode cX6_reckon 141 = .ok (.invokestatic 107, 3) := by decide +kernel
theorem dX6_reckon_144 : decode cX6_reckon 144 = .ok (.iastore, 1) := by decide +kernel
theorem dX6_reckon_145 : decode cX6_reckon 145 = .ok (.iinc 5 1, 3) := by decide +kernel
theorem dX6_reckon_148 : decode cX6_reckon 148 = .ok (.goto (-142), 3) := by decide +kernel
theorem dX6_reckon_151 : decode cX6_reckon 151 = .ok (.iload 4, 2) := by decide +kernel
theorem dX6_reckon_153 : decode cX6_reckon 153 = .ok (.ifCond .le 12, 3) := by decide +kernel
theorem dX6_reckon_156 : decode cX6_reckon 156 = .ok (.aload_n 0, 1) := by decide +kernel
theorem dX6_reckon_157 : decode cX6_reckon 157 = .ok (.getfield 17, 3) := by decide +kernel
theorem dX6_reckon_160 : decode cX6_reckon 160 = .ok (.iconst 0, 1) := by decide +kernel
theorem dX6_reckon_161 : decode cX6_reckon 161 = .ok (.iaload, 1) := by decide +kernel
theorem dX6_reckon_162 : decode cX6_reckon 162 = .ok (.goto 4, 3) := by decide +kernel
theorem dX6_reckon_165 : decode cX6_reckon 165 = .ok (.iconst 0, 1) := by decide +kernel
theorem dX6_reckon_166 : decode cX6_reckon 166 = .ok (.ireturn, 1) := by decide +kernel
theorem dX6_worth_0 : decode cX6_worth 0 = .ok (.iconst 0, 1) := by decide +kernel
theorem dX6_worth_1 : decode cX6_worth 1 = .ok (.istore_n 2, 1) := by decide +kernel
theorem dX6_worth_2 : decode cX6_worth 2 = .ok (.iload_n 2, 1) := by decide +kernel
theorem dX6_worth_3 : decode cX6_worth 3 = .ok (.aload_n 0, 1) := by decide +kernel
theorem dX6_worth_4 : decode cX6_worth 4 = .ok (.getfield 37, 3) := by decide +kernel
theorem dX6_worth_7 : decode cX6_worth 7 = .ok (.if_icmp .ge 74, 3) := by decide +kernel
theorem dX6_worth_10 : decode cX6_worth 10 = .ok (.aload_n 0, 1) := by decide +kernel
theorem dX6_worth_11 : decode cX6_worth 11 = .ok (.getfield 20, 3) := by decide +kernel
theorem dX6_worth_14 : decode cX6_worth 14 = .ok (.iload_n 2, 1) := by decide +kernel
theorem dX6_worth_15 : decode cX6_worth 15 = .ok (.iaload, 1) := by decide +kernel
theorem dX6_worth_16 : decode cX6_worth 16 = .ok (.aload_n 0, 1) := by decide +kernel
theorem dX6_worth_17 : decode cX6_worth 17 = .ok (.getfield 23, 3) := by decide +kernel
theorem dX6_worth_20 : decode cX6_worth 20 = .ok (.iload_n 2, 1) := by decide +kernel
theorem dX6_worth_21 : decode cX6_worth 21 = .ok (.iaload, 1) := by decide +kernel
theorem dX6_worth_22 : decode cX6_worth 22 = .ok (.if_icmp .ne 7, 3) := by decide +kernel
theorem dX6_worth_25 : decode cX6_worth 25 = .ok (.iconst 1, 1) := by decide +kernel
theorem dX6_worth_26 : decode cX6_worth 26 = .ok (.goto 4, 3) := by decide +kernel
theorem dX6_worth_29 : decode cX6_worth 29 = .ok (.iconst 0, 1) := by decide +kernel
theorem dX6_worth_30 : decode cX6_worth 30 = .ok (.istore_n 3, 1) := by decide +kernel
theorem dX6_worth_31 : decode cX6_worth 31 = .ok (.iload_n 3, 1) := by decide +kernel
theorem dX6_worth_32 : decode cX6_worth 32 = .ok (.ifCond .ne 23, 3) := by decide +kernel
theorem dX6_worth_35 : decode cX6_worth 35 = .ok (.aload_n 0, 1) := by decide +kernel
theorem dX6_worth_36 : decode cX6_worth 36 = .ok (.aload_n 0, 1) := by decide +kernel
theorem dX6_worth_37 : decode cX6_worth 37 = .ok (.getfield 20, 3) := by decide +kernel
theorem dX6_worth_40 : decode cX6_worth 40 = .ok (.iload_n 2, 1) := by decide +kernel
theorem dX6_worth_41 : decode cX6_worth 41 = .ok (.iaload, 1) := by decide +kernel
theorem dX6_worth_42 : decode cX6_worth 42 = .ok (.aload_n 0, 1) := by decide +kernel
theorem dX6_worth_43 : decode cX6_worth 43 = .ok (.getfield 23, 3) := by decide +kernel
theorem dX6_worth_46 : decode cX6_worth 46 = .ok (.iload_n 2, 1) := by decide +kernel
theorem dX6_worth_47 : decode cX6_worth 47 = .ok (.iaload, 1) := by decide +kernel
theorem dX6_worth_48 : decode cX6_worth 48 = .ok (.aload_n 1, 1) := by decide +kernel
theorem dX6_worth_49 : decode cX6_worth 49 = .ok (.invokevirtual 103, 3) := by decide +kernel
theorem dX6_worth_52 : decode cX6_worth 52 = .ok (.ifCond .eq 23, 3) := by decide +kernel
theorem dX6_worth_55 : decode cX6_worth 55 = .ok (.aload_n 0, 1) := by decide +kernel
theorem dX6_worth_56 : decode cX6_worth 56 = .ok (.aload_n 0, 1) := by decide +kernel
theorem dX6_worth_57 : decode cX6_worth 57 = .ok (.getfield 23, 3) := by decide +kernel
theorem dX6_worth_60 : decode cX6_worth 60 = .ok (.iload_n 2, 1) := by decide +kernel
theorem dX6_worth_61 : decode cX6_worth 61 = .ok (.iaload, 1) := by decide +kernel
theorem dX6_worth_62 : decode cX6_worth 62 = .ok (.aload_n 0, 1) := by decide +kernel
theorem dX6_worth_63 : decode cX6_worth 63 = .ok (.getfield 20, 3) := by decide +kernel
theorem dX6_worth_66 : decode cX6_worth 66 = .ok (.iload_n 2, 1) := by decide +kernel
theorem dX6_worth_67 : decode cX6_worth 67 = .ok (.iconst 1, 1) := by decide +kernel
theorem dX6_worth_68 : decode cX6_worth 68 = .ok (.iadd, 1) := by decide +kernel
theorem dX6_worth_69 : decode cX6_worth 69 = .ok (.iaload, 1) := by decide +kernel
theorem dX6_worth_70 : decode cX6_worth 70 = .ok (.aload_n 1, 1) := by decide +kernel
theorem dX6_worth_71 : decode cX6_worth 71 = .ok (.invokevirtual 103, 3) := by decide +kernel
theorem dX6_worth_74 : decode cX6_worth 74 = .ok (.ireturn, 1) := by decide +kernel
theorem dX6_worth_75 : decode cX6_worth 75 = .ok (.iinc 2 1, 3) := by decide +kernel
theorem dX6_worth_78 : decode cX6_worth 78 = .ok (.goto (-76), 3) := by decide +kernel
theorem dX6_worth_81 : decode cX6_worth 81 = .ok (.iconst 0, 1) := by decide +kernel
theorem dX6_worth_82 : decode cX6_worth 82 = .ok (.ireturn, 1) := by decide +kernel
theorem wl_6_10 : (.methodLink RX1 27 Lib.Math.abs.name : Cond) ∈ sg_tbl := tb_6 _ (List.mem_of_getElem? (i := 10) (by decide +kernel)) (by decide +kernel)
theorem wl_6_11 : (.static Lib.Math.abs.name : Cond) ∈ sg_tbl := tb_6 _ (List.mem_of_getElem? (i := 11) (by decide +kernel)) (by decide +kernel)
theorem wl_6_12 : (.code Lib.Math.abs.name Lib.Math.abs.code 1 (some .int) : Cond) ∈ sg_tbl := tb_6 _ (List.mem_of_getElem? (i := 12) (by decide +kernel)) (by decide +kernel)
theorem wl_1_212 : (.fieldLink RX4 15 "LawnAhead$Ground" "near" "[I" : Cond) ∈ sg_tbl := tb_1 _ (List.mem_of_getElem? (i := 212) (by decide +kernel)) (by decide +kernel)
theorem wl_4_125 : (.methodLink RX4 145 yJ6_bitCount_0f7a4 : Cond) ∈ sg_tbl := tb_4 _ (List.mem_of_getElem? (i := 125) (by decide +kernel)) (by decide +kernel)
theorem wl_3_185 : (.methodLink RX4 138 yX4_setWay : Cond) ∈ sg_tbl := tb_3 _ (List.mem_of_getElem? (i := 185) (by decide +kernel)) (by decide +kernel)
theorem wl_3_189 : (.methodLink RX4 142 yX4_besideAnyWay : Cond) ∈ sg_tbl := tb_3 _ (List.mem_of_getElem? (i := 189) (by decide +kernel)) (by decide +kernel)
theorem wl_1_70 : (.fieldLink RX6 29 "LawnAhead$Law" "size" "I" : Cond) ∈ sg_tbl := tb_1 _ (List.mem_of_getElem? (i := 70) (by decide +kernel)) (by decide +kernel)
theorem wl_1_66 : (.fieldLink RX6 11 "LawnAhead$Law" "code" "[I" : Cond) ∈ sg_tbl := tb_1 _ (List.mem_of_getElem? (i := 66) (by decide +kernel)) (by decide +kernel)
theorem wl_4_137 : (.constantLong RX6 111 (1000000) : Cond) ∈ sg_tbl := tb_4 _ (List.mem_of_getElem? (i := 137) (by decide +kernel)) (by decide +kernel)
theorem wl_4_138 : (.constant RX6 113 (1000000) : Cond) ∈ sg_tbl := tb_4 _ (List.mem_of_getElem? (i := 138) (by decide +kernel)) (by decide +kernel)
theorem wl_4_139 : (.constantLong RX6 114 (-1000000) : Cond) ∈ sg_tbl := tb_4 _ (List.mem_of_getElem? (i := 139) (by decide +kernel)) (by decide +kernel)
theorem wl_4_140 : (.constant RX6 116 (-1000000) : Cond) ∈ sg_tbl := tb_4 _ (List.mem_of_getElem? (i := 140) (by decide +kernel)) (by decide +kernel)
theorem wl_1_67 : (.fieldLink RX6 17 "LawnAhead$Law" "stack" "[I" : Cond) ∈ sg_tbl := tb_1 _ (List.mem_of_getElem? (i := 67) (by decide +kernel)) (by decide +kernel)
theorem wl_4_134 : (.methodLink RX6 107 yX6_joined : Cond) ∈ sg_tbl := tb_4 _ (List.mem_of_getElem? (i := 134) (by decide +kernel)) (by decide +kernel)
theorem wl_1_71 : (.fieldLink RX6 37 "LawnAhead$Law" "clauses" "I" : Cond) ∈ sg_tbl := tb_1 _ (List.mem_of_getElem? (i := 71) (by decide +kernel)) (by decide +kernel)
theorem wl_1_68 : (.fieldLink RX6 20 "LawnAhead$Law" "conditions" "[I" : Cond) ∈ sg_tbl := tb_1 _ (List.mem_of_getElem? (i := 68) (by decide +kernel)) (by decide +kernel)
theorem wl_1_69 : (.fieldLink RX6 23 "LawnAhead$Law" "sums" "[I" : Cond) ∈ sg_tbl := tb_1 _ (List.mem_of_getElem? (i := 69) (by decide +kernel)) (by decide +kernel)
theorem wl_4_130 : (.methodLink RX6 103 yX6_reckon : Cond) ∈ sg_tbl := tb_4 _ (List.mem_of_getElem? (i := 130) (by decide +kernel)) (by decide +kernel)
theorem wl_1_172 : (.fieldLink RX5 27 "LawnAhead$History" "undoable" "I" : Cond) ∈ sg_tbl := tb_1 _ (List.mem_of_getElem? (i := 172) (by decide +kernel)) (by decide +kernel)
theorem wl_1_175 : (.fieldLink RX5 31 "LawnAhead$History" "kept" "I" : Cond) ∈ sg_tbl := tb_1 _ (List.mem_of_getElem? (i := 175) (by decide +kernel)) (by decide +kernel)
theorem wl_1_177 : (.fieldLink RX5 34 "LawnAhead$History" "hasImage" "Z" : Cond) ∈ sg_tbl := tb_1 _ (List.mem_of_getElem? (i := 177) (by decide +kernel)) (by decide +kernel)
theorem wl_4_168 : (.methodLink RX5 38 Lib.Math.min.name : Cond) ∈ sg_tbl := tb_4 _ (List.mem_of_getElem? (i := 168) (by decide +kernel)) (by decide +kernel)
theorem wl_3_64 : (.static Lib.Math.min.name : Cond) ∈ sg_tbl := tb_3 _ (List.mem_of_getElem? (i := 64) (by decide +kernel)) (by decide +kernel)
theorem wl_3_65 : (.code Lib.Math.min.name Lib.Math.min.code 2 (some .int) : Cond) ∈ sg_tbl := tb_3 _ (List.mem_of_getElem? (i := 65) (by decide +kernel)) (by decide +kernel)
theorem wl_1_168 : (.fieldLink RX5 11 "LawnAhead$History" "states" "[LLawnAhead$State;" : Cond) ∈ sg_tbl := tb_1 _ (List.mem_of_getElem? (i := 168) (by decide +kernel)) (by decide +kernel)
theorem wl_1_174 : (.fieldLink RX5 44 "LawnAhead$History" "nextState" "I" : Cond) ∈ sg_tbl := tb_1 _ (List.mem_of_getElem? (i := 174) (by decide +kernel)) (by decide +kernel)
theorem wl_4_164 : (.methodLink RX5 47 yX9_takeFrom : Cond) ∈ sg_tbl := tb_4 _ (List.mem_of_getElem? (i := 164) (by decide +kernel)) (by decide +kernel)
theorem wl_1_169 : (.fieldLink RX5 15 "LawnAhead$History" "deeds" "[I" : Cond) ∈ sg_tbl := tb_1 _ (List.mem_of_getElem? (i := 169) (by decide +kernel)) (by decide +kernel)
theorem wl_1_176 : (.fieldLink RX5 51 "LawnAhead$History" "nextDeed" "I" : Cond) ∈ sg_tbl := tb_1 _ (List.mem_of_getElem? (i := 176) (by decide +kernel)) (by decide +kernel)
theorem wl_6_9 : (.code yX1_apart cX1_apart 5 (some .int) : Cond) ∈ sg_tbl := tb_6 _ (List.mem_of_getElem? (i := 9) (by decide +kernel)) (by decide +kernel)
theorem wl_6_7 : (.instanceMethod yX1_apart : Cond) ∈ sg_tbl := tb_6 _ (List.mem_of_getElem? (i := 7) (by decide +kernel)) (by decide +kernel)
theorem wl_6_8 : (.selects RX1 yX1_apart yX1_apart : Cond) ∈ sg_tbl := tb_6 _ (List.mem_of_getElem? (i := 8) (by decide +kernel)) (by decide +kernel)
theorem wl_4_124 : (.code yX4_around cX4_around 3 (some .int) : Cond) ∈ sg_tbl := tb_4 _ (List.mem_of_getElem? (i := 124) (by decide +kernel)) (by decide +kernel)
theorem wl_4_122 : (.instanceMethod yX4_around : Cond) ∈ sg_tbl := tb_4 _ (List.mem_of_getElem? (i := 122) (by decide +kernel)) (by decide +kernel)
theorem wl_4_123 : (.selects RX4 yX4_around yX4_around : Cond) ∈ sg_tbl := tb_4 _ (List.mem_of_getElem? (i := 123) (by decide +kernel)) (by decide +kernel)
theorem wl_3_192 : (.code yX4_besideAnyWay cX4_besideAnyWay 4 (some .int) : Cond) ∈ sg_tbl := tb_3 _ (List.mem_of_getElem? (i := 192) (by decide +kernel)) (by decide +kernel)
theorem wl_3_191 : (.instanceMethod yX4_besideAnyWay : Cond) ∈ sg_tbl := tb_3 _ (List.mem_of_getElem? (i := 191) (by decide +kernel)) (by decide +kernel)
theorem wl_0_8 : (.selects RX4 yX4_besideAnyWay yX4_besideAnyWay : Cond) ∈ sg_tbl := tb_0 _ (List.mem_of_getElem? (i := 8) (by decide +kernel)) (by decide +kernel)
theorem wl_3_188 : (.code yX4_setWay cX4_setWay 6 none : Cond) ∈ sg_tbl := tb_3 _ (List.mem_of_getElem? (i := 188) (by decide +kernel)) (by decide +kernel)
theorem wl_3_187 : (.instanceMethod yX4_setWay : Cond) ∈ sg_tbl := tb_3 _ (List.mem_of_getElem? (i := 187) (by decide +kernel)) (by decide +kernel)
theorem wl_0_7 : (.selects RX4 yX4_setWay yX4_setWay : Cond) ∈ sg_tbl := tb_0 _ (List.mem_of_getElem? (i := 7) (by decide +kernel)) (by decide +kernel)
theorem wl_3_180 : (.code yX4_layOut cX4_layOut 4 none : Cond) ∈ sg_tbl := tb_3 _ (List.mem_of_getElem? (i := 180) (by decide +kernel)) (by decide +kernel)
theorem wl_3_179 : (.instanceMethod yX4_layOut : Cond) ∈ sg_tbl := tb_3 _ (List.mem_of_getElem? (i := 179) (by decide +kernel)) (by decide +kernel)
theorem wl_0_6 : (.selects RX4 yX4_layOut yX4_layOut : Cond) ∈ sg_tbl := tb_0 _ (List.mem_of_getElem? (i := 6) (by decide +kernel)) (by decide +kernel)
theorem wl_1_3 : (.initialized RX6 : Cond) ∈ sg_tbl := tb_1 _ (List.mem_of_getElem? (i := 3) (by decide +kernel)) (by decide +kernel)
theorem wl_4_0 : (.code yX6_comparison cX6_comparison 1 (some .int) : Cond) ∈ sg_tbl := tb_4 _ (List.mem_of_getElem? (i := 0) (by decide +kernel)) (by decide +kernel)
theorem wl_3_239 : (.static yX6_comparison : Cond) ∈ sg_tbl := tb_3 _ (List.mem_of_getElem? (i := 239) (by decide +kernel)) (by decide +kernel)
theorem wl_3_235 : (.code yX6_put cX6_put 2 none : Cond) ∈ sg_tbl := tb_3 _ (List.mem_of_getElem? (i := 235) (by decide +kernel)) (by decide +kernel)
theorem wl_3_234 : (.instanceMethod yX6_put : Cond) ∈ sg_tbl := tb_3 _ (List.mem_of_getElem? (i := 234) (by decide +kernel)) (by decide +kernel)
theorem wl_0_13 : (.selects RX6 yX6_put yX6_put : Cond) ∈ sg_tbl := tb_0 _ (List.mem_of_getElem? (i := 13) (by decide +kernel)) (by decide +kernel)
theorem wl_4_136 : (.code yX6_joined cX6_joined 7 (some .int) : Cond) ∈ sg_tbl := tb_4 _ (List.mem_of_getElem? (i := 136) (by decide +kernel)) (by decide +kernel)
theorem wl_4_135 : (.static yX6_joined : Cond) ∈ sg_tbl := tb_4 _ (List.mem_of_getElem? (i := 135) (by decide +kernel)) (by decide +kernel)
theorem wl_4_133 : (.code yX6_reckon cX6_reckon 7 (some .int) : Cond) ∈ sg_tbl := tb_4 _ (List.mem_of_getElem? (i := 133) (by decide +kernel)) (by decide +kernel)
theorem wl_4_132 : (.instanceMethod yX6_reckon : Cond) ∈ sg_tbl := tb_4 _ (List.mem_of_getElem? (i := 132) (by decide +kernel)) (by decide +kernel)
theorem wl_0_24 : (.selects RX6 yX6_reckon yX6_reckon : Cond) ∈ sg_tbl := tb_0 _ (List.mem_of_getElem? (i := 24) (by decide +kernel)) (by decide +kernel)
theorem wl_4_129 : (.code yX6_worth cX6_worth 4 (some .int) : Cond) ∈ sg_tbl := tb_4 _ (List.mem_of_getElem? (i := 129) (by decide +kernel)) (by decide +kernel)
theorem wl_4_127 : (.instanceMethod yX6_worth : Cond) ∈ sg_tbl := tb_4 _ (List.mem_of_getElem? (i := 127) (by decide +kernel)) (by decide +kernel)
theorem wl_4_128 : (.selects RX6 yX6_worth yX6_worth : Cond) ∈ sg_tbl := tb_4 _ (List.mem_of_getElem? (i := 128) (by decide +kernel)) (by decide +kernel)
theorem wl_1_6 : (.initialized RX5 : Cond) ∈ sg_tbl := tb_1 _ (List.mem_of_getElem? (i := 6) (by decide +kernel)) (by decide +kernel)
theorem wl_4_50 : (.code yX5_clear cX5_clear 1 none : Cond) ∈ sg_tbl := tb_4 _ (List.mem_of_getElem? (i := 50) (by decide +kernel)) (by decide +kernel)
theorem wl_4_48 : (.instanceMethod yX5_clear : Cond) ∈ sg_tbl := tb_4 _ (List.mem_of_getElem? (i := 48) (by decide +kernel)) (by decide +kernel)
theorem wl_4_49 : (.selects RX5 yX5_clear yX5_clear : Cond) ∈ sg_tbl := tb_4 _ (List.mem_of_getElem? (i := 49) (by decide +kernel)) (by decide +kernel)
theorem wl_5_8 : (.code yX5_shown cX5_shown 1 (some .int) : Cond) ∈ sg_tbl := tb_5 _ (List.mem_of_getElem? (i := 8) (by decide +kernel)) (by decide +kernel)
theorem wl_5_6 : (.instanceMethod yX5_shown : Cond) ∈ sg_tbl := tb_5 _ (List.mem_of_getElem? (i := 6) (by decide +kernel)) (by decide +kernel)
theorem wl_5_7 : (.selects RX5 yX5_shown yX5_shown : Cond) ∈ sg_tbl := tb_5 _ (List.mem_of_getElem? (i := 7) (by decide +kernel)) (by decide +kernel)
theorem wl_4_163 : (.code yX5_keep cX5_keep 3 none : Cond) ∈ sg_tbl := tb_4 _ (List.mem_of_getElem? (i := 163) (by decide +kernel)) (by decide +kernel)
theorem wl_4_161 : (.instanceMethod yX5_keep : Cond) ∈ sg_tbl := tb_4 _ (List.mem_of_getElem? (i := 161) (by decide +kernel)) (by decide +kernel)
theorem wl_4_162 : (.selects RX5 yX5_keep yX5_keep : Cond) ∈ sg_tbl := tb_4 _ (List.mem_of_getElem? (i := 162) (by decide +kernel)) (by decide +kernel)
theorem wl_5_0 : (.code yX5_takeBack cX5_takeBack 2 (some .boolean) : Cond) ∈ sg_tbl := tb_5 _ (List.mem_of_getElem? (i := 0) (by decide +kernel)) (by decide +kernel)
theorem wl_4_238 : (.instanceMethod yX5_takeBack : Cond) ∈ sg_tbl := tb_4 _ (List.mem_of_getElem? (i := 238) (by decide +kernel)) (by decide +kernel)
theorem wl_4_239 : (.selects RX5 yX5_takeBack yX5_takeBack : Cond) ∈ sg_tbl := tb_4 _ (List.mem_of_getElem? (i := 239) (by decide +kernel)) (by decide +kernel)
section
variable {p : Program} {l : Launch} {e : Env} {R : Room} {s : State} {m : MethodId} {args : Array Value} {below : List Frame} {meth : Method} {c : Code} {H : Heap} {locs : List Loc} {cells slots : Nat} {Q : State → Prop} {cc : ByteArray} {nL pc : Nat} {ls : Array Slot} {rest : List Value} {own : String} {D : va_G} {A : Nat → Prop} {tys : List (ClassId × FieldType)} {ad ks : List Nat} {P : sgPm} {H0 : Heap} {index : Nat} {base : Nat} {st0 : List Value} {a : Nat}
theorem gf_X4_1   (X : CallFix p m c cc nL s args sg_tbl own) (hK : va_K D vwCl tys s) (hG : sgG (KT P) D vwCl A tys ad ks H) (ha : isK ad ks 4 a) (hl : Cond.fieldLink own index "LawnAhead$Ground" "near" "[I" ∈ sg_tbl) (hdg : decode cc pc = .ok (.getfield index, 3)) (kk : ∀ x : Nat, isK ad ks 22 x → fld D H 4 a 1 (.ref x) → W p l e R s m args below meth c H locs cells slots Q (F0 m (pc + 3) ls (.ref x :: rest))) : W p l e R s m args below meth c H locs cells slots Q (F0 m pc ls (.ref a :: rest)) :=
  sg_get X hK hG ha (k := 4) (ci := 4) rfl (C := RX4) (T := TX4) (N := 15) rfl inL_X4 1 (by decide) rfl hl (fun _ h => h) hdg (fun v hv hf => by
    obtain ⟨h1, -⟩ | ⟨x, rfl, hx⟩ := hv
    · cases h1
    · exact kk x hx hf)
theorem gf_X5_0   (X : CallFix p m c cc nL s args sg_tbl own) (hK : va_K D vwCl tys s) (hG : sgG (KT P) D vwCl A tys ad ks H) (ha : isK ad ks 5 a) (hl : Cond.fieldLink own index "LawnAhead$History" "states" "[LLawnAhead$State;" ∈ sg_tbl) (hdg : decode cc pc = .ok (.getfield index, 3)) (kk : ∀ x : Nat, isK ad ks 26 x → fld D H 5 a 0 (.ref x) → W p l e R s m args below meth c H locs cells slots Q (F0 m (pc + 3) ls (.ref x :: rest))) : W p l e R s m args below meth c H locs cells slots Q (F0 m pc ls (.ref a :: rest)) :=
  sg_get X hK hG ha (k := 5) (ci := 5) rfl (C := RX5) (T := TX5) (N := 11) rfl inL_X5 0 (by decide) rfl hl (fun _ h => h) hdg (fun v hv hf => by
    obtain ⟨h1, -⟩ | ⟨x, rfl, hx⟩ := hv
    · cases h1
    · exact kk x hx hf)
theorem gf_X5_1   (X : CallFix p m c cc nL s args sg_tbl own) (hK : va_K D vwCl tys s) (hG : sgG (KT P) D vwCl A tys ad ks H) (ha : isK ad ks 5 a) (hl : Cond.fieldLink own index "LawnAhead$History" "deeds" "[I" ∈ sg_tbl) (hdg : decode cc pc = .ok (.getfield index, 3)) (kk : ∀ x : Nat, isK ad ks 27 x → fld D H 5 a 1 (.ref x) → W p l e R s m args below meth c H locs cells slots Q (F0 m (pc + 3) ls (.ref x :: rest))) : W p l e R s m args below meth c H locs cells slots Q (F0 m pc ls (.ref a :: rest)) :=
  sg_get X hK hG ha (k := 5) (ci := 5) rfl (C := RX5) (T := TX5) (N := 11) rfl inL_X5 1 (by decide) rfl hl (fun _ h => h) hdg (fun v hv hf => by
    obtain ⟨h1, -⟩ | ⟨x, rfl, hx⟩ := hv
    · cases h1
    · exact kk x hx hf)
theorem gf_X5_4   (X : CallFix p m c cc nL s args sg_tbl own) (hK : va_K D vwCl tys s) (hG : sgG (KT P) D vwCl A tys ad ks H) (ha : isK ad ks 5 a) (hl : Cond.fieldLink own index "LawnAhead$History" "undoable" "I" ∈ sg_tbl) (hdg : decode cc pc = .ok (.getfield index, 3)) (kk : ∀ x : Int32, iv (-2147483648) 2147483647 x → fld D H 5 a 4 (.int x) → W p l e R s m args below meth c H locs cells slots Q (F0 m (pc + 3) ls (.int x :: rest))) : W p l e R s m args below meth c H locs cells slots Q (F0 m pc ls (.ref a :: rest)) :=
  sg_get X hK hG ha (k := 5) (ci := 5) rfl (C := RX5) (T := TX5) (N := 11) rfl inL_X5 4 (by decide) rfl hl (fun _ h => h) hdg (fun v hv hf => by obtain ⟨x, rfl, hx⟩ := hv; exact kk x hx hf)
theorem gf_X5_5   (X : CallFix p m c cc nL s args sg_tbl own) (hK : va_K D vwCl tys s) (hG : sgG (KT P) D vwCl A tys ad ks H) (ha : isK ad ks 5 a) (hl : Cond.fieldLink own index "LawnAhead$History" "nextState" "I" ∈ sg_tbl) (hdg : decode cc pc = .ok (.getfield index, 3)) (kk : ∀ x : Int32, iv 0 39 x → fld D H 5 a 5 (.int x) → W p l e R s m args below meth c H locs cells slots Q (F0 m (pc + 3) ls (.int x :: rest))) : W p l e R s m args below meth c H locs cells slots Q (F0 m pc ls (.ref a :: rest)) :=
  sg_get X hK hG ha (k := 5) (ci := 5) rfl (C := RX5) (T := TX5) (N := 11) rfl inL_X5 5 (by decide) rfl hl (fun _ h => h) hdg (fun v hv hf => by obtain ⟨x, rfl, hx⟩ := hv; exact kk x hx hf)
theorem gf_X5_6   (X : CallFix p m c cc nL s args sg_tbl own) (hK : va_K D vwCl tys s) (hG : sgG (KT P) D vwCl A tys ad ks H) (ha : isK ad ks 5 a) (hl : Cond.fieldLink own index "LawnAhead$History" "kept" "I" ∈ sg_tbl) (hdg : decode cc pc = .ok (.getfield index, 3)) (kk : ∀ x : Int32, iv (-2147483648) 2147483647 x → fld D H 5 a 6 (.int x) → W p l e R s m args below meth c H locs cells slots Q (F0 m (pc + 3) ls (.int x :: rest))) : W p l e R s m args below meth c H locs cells slots Q (F0 m pc ls (.ref a :: rest)) :=
  sg_get X hK hG ha (k := 5) (ci := 5) rfl (C := RX5) (T := TX5) (N := 11) rfl inL_X5 6 (by decide) rfl hl (fun _ h => h) hdg (fun v hv hf => by obtain ⟨x, rfl, hx⟩ := hv; exact kk x hx hf)
theorem gf_X5_7   (X : CallFix p m c cc nL s args sg_tbl own) (hK : va_K D vwCl tys s) (hG : sgG (KT P) D vwCl A tys ad ks H) (ha : isK ad ks 5 a) (hl : Cond.fieldLink own index "LawnAhead$History" "nextDeed" "I" ∈ sg_tbl) (hdg : decode cc pc = .ok (.getfield index, 3)) (kk : ∀ x : Int32, iv 0 99 x → fld D H 5 a 7 (.int x) → W p l e R s m args below meth c H locs cells slots Q (F0 m (pc + 3) ls (.int x :: rest))) : W p l e R s m args below meth c H locs cells slots Q (F0 m pc ls (.ref a :: rest)) :=
  sg_get X hK hG ha (k := 5) (ci := 5) rfl (C := RX5) (T := TX5) (N := 11) rfl inL_X5 7 (by decide) rfl hl (fun _ h => h) hdg (fun v hv hf => by obtain ⟨x, rfl, hx⟩ := hv; exact kk x hx hf)
theorem gf_X6_0   (X : CallFix p m c cc nL s args sg_tbl own) (hK : va_K D vwCl tys s) (hG : sgG (KT P) D vwCl A tys ad ks H) (ha : isK ad ks 6 a) (hl : Cond.fieldLink own index "LawnAhead$Law" "code" "[I" ∈ sg_tbl) (hdg : decode cc pc = .ok (.getfield index, 3)) (kk : ∀ x : Nat, isK ad ks 29 x → fld D H 6 a 0 (.ref x) → W p l e R s m args below meth c H locs cells slots Q (F0 m (pc + 3) ls (.ref x :: rest))) : W p l e R s m args below meth c H locs cells slots Q (F0 m pc ls (.ref a :: rest)) :=
  sg_get X hK hG ha (k := 6) (ci := 6) rfl (C := RX6) (T := TX6) (N := 7) rfl inL_X6 0 (by decide) rfl hl (fun _ h => h) hdg (fun v hv hf => by
    obtain ⟨h1, -⟩ | ⟨x, rfl, hx⟩ := hv
    · cases h1
    · exact kk x hx hf)
theorem gf_X6_1   (X : CallFix p m c cc nL s args sg_tbl own) (hK : va_K D vwCl tys s) (hG : sgG (KT P) D vwCl A tys ad ks H) (ha : isK ad ks 6 a) (hl : Cond.fieldLink own index "LawnAhead$Law" "stack" "[I" ∈ sg_tbl) (hdg : decode cc pc = .ok (.getfield index, 3)) (kk : ∀ x : Nat, isK ad ks 30 x → fld D H 6 a 1 (.ref x) → W p l e R s m args below meth c H locs cells slots Q (F0 m (pc + 3) ls (.ref x :: rest))) : W p l e R s m args below meth c H locs cells slots Q (F0 m pc ls (.ref a :: rest)) :=
  sg_get X hK hG ha (k := 6) (ci := 6) rfl (C := RX6) (T := TX6) (N := 7) rfl inL_X6 1 (by decide) rfl hl (fun _ h => h) hdg (fun v hv hf => by
    obtain ⟨h1, -⟩ | ⟨x, rfl, hx⟩ := hv
    · cases h1
    · exact kk x hx hf)
theorem gf_X6_2   (X : CallFix p m c cc nL s args sg_tbl own) (hK : va_K D vwCl tys s) (hG : sgG (KT P) D vwCl A tys ad ks H) (ha : isK ad ks 6 a) (hl : Cond.fieldLink own index "LawnAhead$Law" "conditions" "[I" ∈ sg_tbl) (hdg : decode cc pc = .ok (.getfield index, 3)) (kk : ∀ x : Nat, isK ad ks 31 x → fld D H 6 a 2 (.ref x) → W p l e R s m args below meth c H locs cells slots Q (F0 m (pc + 3) ls (.ref x :: rest))) : W p l e R s m args below meth c H locs cells slots Q (F0 m pc ls (.ref a :: rest)) :=
  sg_get X hK hG ha (k := 6) (ci := 6) rfl (C := RX6) (T := TX6) (N := 7) rfl inL_X6 2 (by decide) rfl hl (fun _ h => h) hdg (fun v hv hf => by
    obtain ⟨h1, -⟩ | ⟨x, rfl, hx⟩ := hv
    · cases h1
    · exact kk x hx hf)
theorem gf_X6_3   (X : CallFix p m c cc nL s args sg_tbl own) (hK : va_K D vwCl tys s) (hG : sgG (KT P) D vwCl A tys ad ks H) (ha : isK ad ks 6 a) (hl : Cond.fieldLink own index "LawnAhead$Law" "sums" "[I" ∈ sg_tbl) (hdg : decode cc pc = .ok (.getfield index, 3)) (kk : ∀ x : Nat, isK ad ks 32 x → fld D H 6 a 3 (.ref x) → W p l e R s m args below meth c H locs cells slots Q (F0 m (pc + 3) ls (.ref x :: rest))) : W p l e R s m args below meth c H locs cells slots Q (F0 m pc ls (.ref a :: rest)) :=
  sg_get X hK hG ha (k := 6) (ci := 6) rfl (C := RX6) (T := TX6) (N := 7) rfl inL_X6 3 (by decide) rfl hl (fun _ h => h) hdg (fun v hv hf => by
    obtain ⟨h1, -⟩ | ⟨x, rfl, hx⟩ := hv
    · cases h1
    · exact kk x hx hf)
theorem gf_X6_4   (X : CallFix p m c cc nL s args sg_tbl own) (hK : va_K D vwCl tys s) (hG : sgG (KT P) D vwCl A tys ad ks H) (ha : isK ad ks 6 a) (hl : Cond.fieldLink own index "LawnAhead$Law" "size" "I" ∈ sg_tbl) (hdg : decode cc pc = .ok (.getfield index, 3)) (kk : ∀ x : Int32, iv 0 240 x → fld D H 6 a 4 (.int x) → W p l e R s m args below meth c H locs cells slots Q (F0 m (pc + 3) ls (.int x :: rest))) : W p l e R s m args below meth c H locs cells slots Q (F0 m pc ls (.ref a :: rest)) :=
  sg_get X hK hG ha (k := 6) (ci := 6) rfl (C := RX6) (T := TX6) (N := 7) rfl inL_X6 4 (by decide) rfl hl (fun _ h => h) hdg (fun v hv hf => by obtain ⟨x, rfl, hx⟩ := hv; exact kk x hx hf)
theorem gf_X6_5   (X : CallFix p m c cc nL s args sg_tbl own) (hK : va_K D vwCl tys s) (hG : sgG (KT P) D vwCl A tys ad ks H) (ha : isK ad ks 6 a) (hl : Cond.fieldLink own index "LawnAhead$Law" "clauses" "I" ∈ sg_tbl) (hdg : decode cc pc = .ok (.getfield index, 3)) (kk : ∀ x : Int32, iv 0 64 x → fld D H 6 a 5 (.int x) → W p l e R s m args below meth c H locs cells slots Q (F0 m (pc + 3) ls (.int x :: rest))) : W p l e R s m args below meth c H locs cells slots Q (F0 m pc ls (.ref a :: rest)) :=
  sg_get X hK hG ha (k := 6) (ci := 6) rfl (C := RX6) (T := TX6) (N := 7) rfl inL_X6 5 (by decide) rfl hl (fun _ h => h) hdg (fun v hv hf => by obtain ⟨x, rfl, hx⟩ := hv; exact kk x hx hf)
theorem gg_X4_2   (X : CallFix p m c cc nL s args sg_tbl own) (hK : va_K D vwCl tys s) (hG : sgG (KT P) D vwCl A tys ad ks H) (ha : isK ad ks 4 a) (hl : Cond.fieldLink own index "LawnAhead$Ground" "strides" "[I" ∈ sg_tbl) {v : Value} (hf : fld D H 4 a 2 v) (hdg : decode cc pc = .ok (.getfield index, 3)) (kk : W p l e R s m args below meth c H locs cells slots Q (F0 m (pc + 3) ls (v :: rest))) : W p l e R s m args below meth c H locs cells slots Q (F0 m pc ls (.ref a :: rest)) :=
  sg_getf X hK hG ha (k := 4) (ci := 4) rfl (C := RX4) (T := TX4) (N := 15) rfl inL_X4 2 (by decide) (show 2 < 15 by decide) hl (fun _ h => h) hf hdg kk
theorem gg_X5_5   (X : CallFix p m c cc nL s args sg_tbl own) (hK : va_K D vwCl tys s) (hG : sgG (KT P) D vwCl A tys ad ks H) (ha : isK ad ks 5 a) (hl : Cond.fieldLink own index "LawnAhead$History" "nextState" "I" ∈ sg_tbl) {v : Value} (hf : fld D H 5 a 5 v) (hdg : decode cc pc = .ok (.getfield index, 3)) (kk : W p l e R s m args below meth c H locs cells slots Q (F0 m (pc + 3) ls (v :: rest))) : W p l e R s m args below meth c H locs cells slots Q (F0 m pc ls (.ref a :: rest)) :=
  sg_getf X hK hG ha (k := 5) (ci := 5) rfl (C := RX5) (T := TX5) (N := 11) rfl inL_X5 5 (by decide) (show 5 < 11 by decide) hl (fun _ h => h) hf hdg kk
theorem gg_X5_7   (X : CallFix p m c cc nL s args sg_tbl own) (hK : va_K D vwCl tys s) (hG : sgG (KT P) D vwCl A tys ad ks H) (ha : isK ad ks 5 a) (hl : Cond.fieldLink own index "LawnAhead$History" "nextDeed" "I" ∈ sg_tbl) {v : Value} (hf : fld D H 5 a 7 v) (hdg : decode cc pc = .ok (.getfield index, 3)) (kk : W p l e R s m args below meth c H locs cells slots Q (F0 m (pc + 3) ls (v :: rest))) : W p l e R s m args below meth c H locs cells slots Q (F0 m pc ls (.ref a :: rest)) :=
  sg_getf X hK hG ha (k := 5) (ci := 5) rfl (C := RX5) (T := TX5) (N := 11) rfl inL_X5 7 (by decide) (show 7 < 11 by decide) hl (fun _ h => h) hf hdg kk
theorem gg_X6_0   (X : CallFix p m c cc nL s args sg_tbl own) (hK : va_K D vwCl tys s) (hG : sgG (KT P) D vwCl A tys ad ks H) (ha : isK ad ks 6 a) (hl : Cond.fieldLink own index "LawnAhead$Law" "code" "[I" ∈ sg_tbl) {v : Value} (hf : fld D H 6 a 0 v) (hdg : decode cc pc = .ok (.getfield index, 3)) (kk : W p l e R s m args below meth c H locs cells slots Q (F0 m (pc + 3) ls (v :: rest))) : W p l e R s m args below meth c H locs cells slots Q (F0 m pc ls (.ref a :: rest)) :=
  sg_getf X hK hG ha (k := 6) (ci := 6) rfl (C := RX6) (T := TX6) (N := 7) rfl inL_X6 0 (by decide) (show 0 < 7 by decide) hl (fun _ h => h) hf hdg kk
theorem gg_X6_1   (X : CallFix p m c cc nL s args sg_tbl own) (hK : va_K D vwCl tys s) (hG : sgG (KT P) D vwCl A tys ad ks H) (ha : isK ad ks 6 a) (hl : Cond.fieldLink own index "LawnAhead$Law" "stack" "[I" ∈ sg_tbl) {v : Value} (hf : fld D H 6 a 1 v) (hdg : decode cc pc = .ok (.getfield index, 3)) (kk : W p l e R s m args below meth c H locs cells slots Q (F0 m (pc + 3) ls (v :: rest))) : W p l e R s m args below meth c H locs cells slots Q (F0 m pc ls (.ref a :: rest)) :=
  sg_getf X hK hG ha (k := 6) (ci := 6) rfl (C := RX6) (T := TX6) (N := 7) rfl inL_X6 1 (by decide) (show 1 < 7 by decide) hl (fun _ h => h) hf hdg kk
theorem gg_X6_2   (X : CallFix p m c cc nL s args sg_tbl own) (hK : va_K D vwCl tys s) (hG : sgG (KT P) D vwCl A tys ad ks H) (ha : isK ad ks 6 a) (hl : Cond.fieldLink own index "LawnAhead$Law" "conditions" "[I" ∈ sg_tbl) {v : Value} (hf : fld D H 6 a 2 v) (hdg : decode cc pc = .ok (.getfield index, 3)) (kk : W p l e R s m args below meth c H locs cells slots Q (F0 m (pc + 3) ls (v :: rest))) : W p l e R s m args below meth c H locs cells slots Q (F0 m pc ls (.ref a :: rest)) :=
  sg_getf X hK hG ha (k := 6) (ci := 6) rfl (C := RX6) (T := TX6) (N := 7) rfl inL_X6 2 (by decide) (show 2 < 7 by decide) hl (fun _ h => h) hf hdg kk
theorem gg_X6_3   (X : CallFix p m c cc nL s args sg_tbl own) (hK : va_K D vwCl tys s) (hG : sgG (KT P) D vwCl A tys ad ks H) (ha : isK ad ks 6 a) (hl : Cond.fieldLink own index "LawnAhead$Law" "sums" "[I" ∈ sg_tbl) {v : Value} (hf : fld D H 6 a 3 v) (hdg : decode cc pc = .ok (.getfield index, 3)) (kk : W p l e R s m args below meth c H locs cells slots Q (F0 m (pc + 3) ls (v :: rest))) : W p l e R s m args below meth c H locs cells slots Q (F0 m pc ls (.ref a :: rest)) :=
  sg_getf X hK hG ha (k := 6) (ci := 6) rfl (C := RX6) (T := TX6) (N := 7) rfl inL_X6 3 (by decide) (show 3 < 7 by decide) hl (fun _ h => h) hf hdg kk
theorem gg_X6_4   (X : CallFix p m c cc nL s args sg_tbl own) (hK : va_K D vwCl tys s) (hG : sgG (KT P) D vwCl A tys ad ks H) (ha : isK ad ks 6 a) (hl : Cond.fieldLink own index "LawnAhead$Law" "size" "I" ∈ sg_tbl) {v : Value} (hf : fld D H 6 a 4 v) (hdg : decode cc pc = .ok (.getfield index, 3)) (kk : W p l e R s m args below meth c H locs cells slots Q (F0 m (pc + 3) ls (v :: rest))) : W p l e R s m args below meth c H locs cells slots Q (F0 m pc ls (.ref a :: rest)) :=
  sg_getf X hK hG ha (k := 6) (ci := 6) rfl (C := RX6) (T := TX6) (N := 7) rfl inL_X6 4 (by decide) (show 4 < 7 by decide) hl (fun _ h => h) hf hdg kk
theorem pf_X5_4  {x : Int32}  (X : CallFix p m c cc nL s args sg_tbl own) (hK : va_K D vwCl tys s) (hG : sgG (KT P) D vwCl A tys ad ks H) (hS : va_S A H0 H locs) (ha : isK ad ks 5 a) (hl : Cond.fieldLink own index "LawnAhead$History" "undoable" "I" ∈ sg_tbl) (hv : okV ad ks (.inl ((-2147483648), 2147483647)) (.int x)) (hdg : decode cc pc = .ok (.putfield index, 3)) (kk : ∀ (H1 : Heap) (locs1 : List Loc), sgG (KT P) D vwCl A tys ad ks H1 → va_S A H0 H1 locs1 → fld D H1 5 a 4 (.int x) → sgFr (KT P) D vwCl ad ks H H1 (fun a' j' => a' = a ∧ j' = 4) → W p l e R s m args below meth c H1 locs1 cells slots Q (F0 m (pc + 3) ls rest)) : W p l e R s m args below meth c H locs cells slots Q (F0 m pc ls (.int x :: .ref a :: rest)) :=
  sg_put X hK hG hS ha (k := 5) (ci := 5) rfl (C := RX5) (T := TX5) (N := 11) rfl inL_X5 tyX5 tyX5_ok nmX5 4 (by decide) rfl hl (fun _ h => h) rfl (ty := .int) rfl rfl rfl hv hdg kk
theorem pf_X5_5  {x : Int32}  (X : CallFix p m c cc nL s args sg_tbl own) (hK : va_K D vwCl tys s) (hG : sgG (KT P) D vwCl A tys ad ks H) (hS : va_S A H0 H locs) (ha : isK ad ks 5 a) (hl : Cond.fieldLink own index "LawnAhead$History" "nextState" "I" ∈ sg_tbl) (hv : okV ad ks (.inl (0, 39)) (.int x)) (hdg : decode cc pc = .ok (.putfield index, 3)) (kk : ∀ (H1 : Heap) (locs1 : List Loc), sgG (KT P) D vwCl A tys ad ks H1 → va_S A H0 H1 locs1 → fld D H1 5 a 5 (.int x) → sgFr (KT P) D vwCl ad ks H H1 (fun a' j' => a' = a ∧ j' = 5) → W p l e R s m args below meth c H1 locs1 cells slots Q (F0 m (pc + 3) ls rest)) : W p l e R s m args below meth c H locs cells slots Q (F0 m pc ls (.int x :: .ref a :: rest)) :=
  sg_put X hK hG hS ha (k := 5) (ci := 5) rfl (C := RX5) (T := TX5) (N := 11) rfl inL_X5 tyX5 tyX5_ok nmX5 5 (by decide) rfl hl (fun _ h => h) rfl (ty := .int) rfl rfl rfl hv hdg kk
theorem pf_X5_6  {x : Int32}  (X : CallFix p m c cc nL s args sg_tbl own) (hK : va_K D vwCl tys s) (hG : sgG (KT P) D vwCl A tys ad ks H) (hS : va_S A H0 H locs) (ha : isK ad ks 5 a) (hl : Cond.fieldLink own index "LawnAhead$History" "kept" "I" ∈ sg_tbl) (hv : okV ad ks (.inl ((-2147483648), 2147483647)) (.int x)) (hdg : decode cc pc = .ok (.putfield index, 3)) (kk : ∀ (H1 : Heap) (locs1 : List Loc), sgG (KT P) D vwCl A tys ad ks H1 → va_S A H0 H1 locs1 → fld D H1 5 a 6 (.int x) → sgFr (KT P) D vwCl ad ks H H1 (fun a' j' => a' = a ∧ j' = 6) → W p l e R s m args below meth c H1 locs1 cells slots Q (F0 m (pc + 3) ls rest)) : W p l e R s m args below meth c H locs cells slots Q (F0 m pc ls (.int x :: .ref a :: rest)) :=
  sg_put X hK hG hS ha (k := 5) (ci := 5) rfl (C := RX5) (T := TX5) (N := 11) rfl inL_X5 tyX5 tyX5_ok nmX5 6 (by decide) rfl hl (fun _ h => h) rfl (ty := .int) rfl rfl rfl hv hdg kk
theorem pf_X5_7  {x : Int32}  (X : CallFix p m c cc nL s args sg_tbl own) (hK : va_K D vwCl tys s) (hG : sgG (KT P) D vwCl A tys ad ks H) (hS : va_S A H0 H locs) (ha : isK ad ks 5 a) (hl : Cond.fieldLink own index "LawnAhead$History" "nextDeed" "I" ∈ sg_tbl) (hv : okV ad ks (.inl (0, 99)) (.int x)) (hdg : decode cc pc = .ok (.putfield index, 3)) (kk : ∀ (H1 : Heap) (locs1 : List Loc), sgG (KT P) D vwCl A tys ad ks H1 → va_S A H0 H1 locs1 → fld D H1 5 a 7 (.int x) → sgFr (KT P) D vwCl ad ks H H1 (fun a' j' => a' = a ∧ j' = 7) → W p l e R s m args below meth c H1 locs1 cells slots Q (F0 m (pc + 3) ls rest)) : W p l e R s m args below meth c H locs cells slots Q (F0 m pc ls (.int x :: .ref a :: rest)) :=
  sg_put X hK hG hS ha (k := 5) (ci := 5) rfl (C := RX5) (T := TX5) (N := 11) rfl inL_X5 tyX5 tyX5_ok nmX5 7 (by decide) rfl hl (fun _ h => h) rfl (ty := .int) rfl rfl rfl hv hdg kk
theorem pf_X5_8  {x : Int32}  (X : CallFix p m c cc nL s args sg_tbl own) (hK : va_K D vwCl tys s) (hG : sgG (KT P) D vwCl A tys ad ks H) (hS : va_S A H0 H locs) (ha : isK ad ks 5 a) (hl : Cond.fieldLink own index "LawnAhead$History" "hasImage" "Z" ∈ sg_tbl) (hv : okV ad ks (.inl (0, 1)) (.int x)) (hdg : decode cc pc = .ok (.putfield index, 3)) (kk : ∀ (H1 : Heap) (locs1 : List Loc), sgG (KT P) D vwCl A tys ad ks H1 → va_S A H0 H1 locs1 → fld D H1 5 a 8 (.int x) → sgFr (KT P) D vwCl ad ks H H1 (fun a' j' => a' = a ∧ j' = 8) → W p l e R s m args below meth c H1 locs1 cells slots Q (F0 m (pc + 3) ls rest)) : W p l e R s m args below meth c H locs cells slots Q (F0 m pc ls (.int x :: .ref a :: rest)) :=
  sg_put X hK hG hS ha (k := 5) (ci := 5) rfl (C := RX5) (T := TX5) (N := 11) rfl inL_X5 tyX5 tyX5_ok nmX5 8 (by decide) rfl hl (fun _ h => h) rfl (ty := .boolean) rfl (by obtain ⟨y, h1, h2⟩ := hv; cases h1; exact sg_zn h2) (by obtain ⟨y, h1, h2⟩ := hv; cases h1; rcases iv_01 h2 with rfl | rfl <;> rfl) hv hdg kk
theorem pf_X6_4  {x : Int32}  (X : CallFix p m c cc nL s args sg_tbl own) (hK : va_K D vwCl tys s) (hG : sgG (KT P) D vwCl A tys ad ks H) (hS : va_S A H0 H locs) (ha : isK ad ks 6 a) (hl : Cond.fieldLink own index "LawnAhead$Law" "size" "I" ∈ sg_tbl) (hv : okV ad ks (.inl (0, 240)) (.int x)) (hdg : decode cc pc = .ok (.putfield index, 3)) (kk : ∀ (H1 : Heap) (locs1 : List Loc), sgG (KT P) D vwCl A tys ad ks H1 → va_S A H0 H1 locs1 → fld D H1 6 a 4 (.int x) → sgFr (KT P) D vwCl ad ks H H1 (fun a' j' => a' = a ∧ j' = 4) → W p l e R s m args below meth c H1 locs1 cells slots Q (F0 m (pc + 3) ls rest)) : W p l e R s m args below meth c H locs cells slots Q (F0 m pc ls (.int x :: .ref a :: rest)) :=
  sg_put X hK hG hS ha (k := 6) (ci := 6) rfl (C := RX6) (T := TX6) (N := 7) rfl inL_X6 tyX6 tyX6_ok nmX6 4 (by decide) rfl hl (fun _ h => h) rfl (ty := .int) rfl rfl rfl hv hdg kk
theorem al_22  {i : Int32}  (X : CallFix p m c cc nL s args sg_tbl own) (hK : va_K D vwCl tys s) (hG : sgG (KT P) D vwCl A tys ad ks H) (ha : isK ad ks 22 a) (hin : vp_in i 30) (hdg : decode cc pc = .ok (.iaload, 1)) (kk : ∀ x : Int32, iv (-2147483648) 2147483647 x → W p l e R s m args below meth c H locs cells slots Q (F0 m (pc + 1) ls (.int x :: rest))) : W p l e R s m args below meth c H locs cells slots Q (F0 m pc ls (.int i :: .ref a :: rest)) :=
  sg_iald X hK hG ha (k := 22) rfl hin hdg (fun x hx => by obtain ⟨y, h1, h2⟩ := hx; cases h1; exact kk _ h2)
theorem al_26  {i : Int32}  (X : CallFix p m c cc nL s args sg_tbl own) (hK : va_K D vwCl tys s) (hG : sgG (KT P) D vwCl A tys ad ks H) (ha : isK ad ks 26 a) (hin : vp_in i 40) (hdg : decode cc pc = .ok (.aaload, 1)) (kk : ∀ x : Nat, isK ad ks 9 x → W p l e R s m args below meth c H locs cells slots Q (F0 m (pc + 1) ls (.ref x :: rest))) : W p l e R s m args below meth c H locs cells slots Q (F0 m pc ls (.int i :: .ref a :: rest)) :=
  sg_aald X hK hG ha (k := 26) rfl hin hdg (fun v hv => by rcases hv with ⟨h1, -⟩ | ⟨x, rfl, hx⟩ <;> first | (cases h1; done) | exact kk x hx)
theorem al_29  {i : Int32}  (X : CallFix p m c cc nL s args sg_tbl own) (hK : va_K D vwCl tys s) (hG : sgG (KT P) D vwCl A tys ad ks H) (ha : isK ad ks 29 a) (hin : vp_in i 240) (hdg : decode cc pc = .ok (.iaload, 1)) (kk : ∀ x : Int32, iv (-2147483648) 2147483647 x → W p l e R s m args below meth c H locs cells slots Q (F0 m (pc + 1) ls (.int x :: rest))) : W p l e R s m args below meth c H locs cells slots Q (F0 m pc ls (.int i :: .ref a :: rest)) :=
  sg_iald X hK hG ha (k := 29) rfl hin hdg (fun x hx => by obtain ⟨y, h1, h2⟩ := hx; cases h1; exact kk _ h2)
theorem al_30  {i : Int32}  (X : CallFix p m c cc nL s args sg_tbl own) (hK : va_K D vwCl tys s) (hG : sgG (KT P) D vwCl A tys ad ks H) (ha : isK ad ks 30 a) (hin : vp_in i 32) (hdg : decode cc pc = .ok (.iaload, 1)) (kk : ∀ x : Int32, iv (-2147483648) 2147483647 x → W p l e R s m args below meth c H locs cells slots Q (F0 m (pc + 1) ls (.int x :: rest))) : W p l e R s m args below meth c H locs cells slots Q (F0 m pc ls (.int i :: .ref a :: rest)) :=
  sg_iald X hK hG ha (k := 30) rfl hin hdg (fun x hx => by obtain ⟨y, h1, h2⟩ := hx; cases h1; exact kk _ h2)
theorem al_31  {i : Int32}  (X : CallFix p m c cc nL s args sg_tbl own) (hK : va_K D vwCl tys s) (hG : sgG (KT P) D vwCl A tys ad ks H) (ha : isK ad ks 31 a) (hin : vp_in i 65) (hdg : decode cc pc = .ok (.iaload, 1)) (kk : ∀ x : Int32, iv 0 240 x → W p l e R s m args below meth c H locs cells slots Q (F0 m (pc + 1) ls (.int x :: rest))) : W p l e R s m args below meth c H locs cells slots Q (F0 m pc ls (.int i :: .ref a :: rest)) :=
  sg_iald X hK hG ha (k := 31) rfl hin hdg (fun x hx => by obtain ⟨y, h1, h2⟩ := hx; cases h1; exact kk _ h2)
theorem al_32  {i : Int32}  (X : CallFix p m c cc nL s args sg_tbl own) (hK : va_K D vwCl tys s) (hG : sgG (KT P) D vwCl A tys ad ks H) (ha : isK ad ks 32 a) (hin : vp_in i 64) (hdg : decode cc pc = .ok (.iaload, 1)) (kk : ∀ x : Int32, iv 0 240 x → W p l e R s m args below meth c H locs cells slots Q (F0 m (pc + 1) ls (.int x :: rest))) : W p l e R s m args below meth c H locs cells slots Q (F0 m pc ls (.int i :: .ref a :: rest)) :=
  sg_iald X hK hG ha (k := 32) rfl hin hdg (fun x hx => by obtain ⟨y, h1, h2⟩ := hx; cases h1; exact kk _ h2)
theorem al_39  {i : Int32}  (X : CallFix p m c cc nL s args sg_tbl own) (hK : va_K D vwCl tys s) (hG : sgG (KT P) D vwCl A tys ad ks H) (ha : isK ad ks 39 a) (hin : vp_in i 6) (hdg : decode cc pc = .ok (.iaload, 1)) (kk : ∀ x : Int32, iv (-2147483648) 2147483647 x → W p l e R s m args below meth c H locs cells slots Q (F0 m (pc + 1) ls (.int x :: rest))) : W p l e R s m args below meth c H locs cells slots Q (F0 m pc ls (.int i :: .ref a :: rest)) :=
  sg_iald X hK hG ha (k := 39) rfl hin hdg (fun x hx => by obtain ⟨y, h1, h2⟩ := hx; cases h1; exact kk _ h2)
theorem as_22  {i : Int32} {x : Int32}  (X : CallFix p m c cc nL s args sg_tbl own) (hK : va_K D vwCl tys s) (hG : sgG (KT P) D vwCl A tys ad ks H) (hS : va_S A H0 H locs) (ha : isK ad ks 22 a) (hin : vp_in i 30) (hv : okV ad ks (.inl ((-2147483648), 2147483647)) (.int x)) (hdg : decode cc pc = .ok (.iastore, 1)) (kk : ∀ (H1 : Heap) (locs1 : List Loc), sgG (KT P) D vwCl A tys ad ks H1 → va_S A H0 H1 locs1 → sgFr (KT P) D vwCl ad ks H H1 (fun _ _ => False) → W p l e R s m args below meth c H1 locs1 cells slots Q (F0 m (pc + 1) ls rest)) : W p l e R s m args below meth c H locs cells slots Q (F0 m pc ls (.int x :: .int i :: .ref a :: rest)) :=
  sg_iast X hK hG hS ha (k := 22) rfl hin hv hdg kk
theorem as_23  {i : Int32} {x : Int32}  (X : CallFix p m c cc nL s args sg_tbl own) (hK : va_K D vwCl tys s) (hG : sgG (KT P) D vwCl A tys ad ks H) (hS : va_S A H0 H locs) (ha : isK ad ks 23 a) (hin : vp_in i 4) (hv : okV ad ks (.inl ((-2147483648), 2147483647)) (.int x)) (hdg : decode cc pc = .ok (.iastore, 1)) (kk : ∀ (H1 : Heap) (locs1 : List Loc), sgG (KT P) D vwCl A tys ad ks H1 → va_S A H0 H1 locs1 → sgFr (KT P) D vwCl ad ks H H1 (fun _ _ => False) → W p l e R s m args below meth c H1 locs1 cells slots Q (F0 m (pc + 1) ls rest)) : W p l e R s m args below meth c H locs cells slots Q (F0 m pc ls (.int x :: .int i :: .ref a :: rest)) :=
  sg_iast X hK hG hS ha (k := 23) rfl hin hv hdg kk
theorem as_24  {i : Int32} {x : Int32}  (X : CallFix p m c cc nL s args sg_tbl own) (hK : va_K D vwCl tys s) (hG : sgG (KT P) D vwCl A tys ad ks H) (hS : va_S A H0 H locs) (ha : isK ad ks 24 a) (hin : vp_in i 4) (hv : okV ad ks (.inl ((-2147483648), 2147483647)) (.int x)) (hdg : decode cc pc = .ok (.iastore, 1)) (kk : ∀ (H1 : Heap) (locs1 : List Loc), sgG (KT P) D vwCl A tys ad ks H1 → va_S A H0 H1 locs1 → sgFr (KT P) D vwCl ad ks H H1 (fun _ _ => False) → W p l e R s m args below meth c H1 locs1 cells slots Q (F0 m (pc + 1) ls rest)) : W p l e R s m args below meth c H locs cells slots Q (F0 m pc ls (.int x :: .int i :: .ref a :: rest)) :=
  sg_iast X hK hG hS ha (k := 24) rfl hin hv hdg kk
theorem as_25  {i : Int32} {x : Int32}  (X : CallFix p m c cc nL s args sg_tbl own) (hK : va_K D vwCl tys s) (hG : sgG (KT P) D vwCl A tys ad ks H) (hS : va_S A H0 H locs) (ha : isK ad ks 25 a) (hin : vp_in i 4) (hv : okV ad ks (.inl ((-2147483648), 2147483647)) (.int x)) (hdg : decode cc pc = .ok (.iastore, 1)) (kk : ∀ (H1 : Heap) (locs1 : List Loc), sgG (KT P) D vwCl A tys ad ks H1 → va_S A H0 H1 locs1 → sgFr (KT P) D vwCl ad ks H H1 (fun _ _ => False) → W p l e R s m args below meth c H1 locs1 cells slots Q (F0 m (pc + 1) ls rest)) : W p l e R s m args below meth c H locs cells slots Q (F0 m pc ls (.int x :: .int i :: .ref a :: rest)) :=
  sg_iast X hK hG hS ha (k := 25) rfl hin hv hdg kk
theorem as_27  {i : Int32} {x : Int32}  (X : CallFix p m c cc nL s args sg_tbl own) (hK : va_K D vwCl tys s) (hG : sgG (KT P) D vwCl A tys ad ks H) (hS : va_S A H0 H locs) (ha : isK ad ks 27 a) (hin : vp_in i 100) (hv : okV ad ks (.inl ((-2147483648), 2147483647)) (.int x)) (hdg : decode cc pc = .ok (.iastore, 1)) (kk : ∀ (H1 : Heap) (locs1 : List Loc), sgG (KT P) D vwCl A tys ad ks H1 → va_S A H0 H1 locs1 → sgFr (KT P) D vwCl ad ks H H1 (fun _ _ => False) → W p l e R s m args below meth c H1 locs1 cells slots Q (F0 m (pc + 1) ls rest)) : W p l e R s m args below meth c H locs cells slots Q (F0 m pc ls (.int x :: .int i :: .ref a :: rest)) :=
  sg_iast X hK hG hS ha (k := 27) rfl hin hv hdg kk
theorem as_29  {i : Int32} {x : Int32}  (X : CallFix p m c cc nL s args sg_tbl own) (hK : va_K D vwCl tys s) (hG : sgG (KT P) D vwCl A tys ad ks H) (hS : va_S A H0 H locs) (ha : isK ad ks 29 a) (hin : vp_in i 240) (hv : okV ad ks (.inl ((-2147483648), 2147483647)) (.int x)) (hdg : decode cc pc = .ok (.iastore, 1)) (kk : ∀ (H1 : Heap) (locs1 : List Loc), sgG (KT P) D vwCl A tys ad ks H1 → va_S A H0 H1 locs1 → sgFr (KT P) D vwCl ad ks H H1 (fun _ _ => False) → W p l e R s m args below meth c H1 locs1 cells slots Q (F0 m (pc + 1) ls rest)) : W p l e R s m args below meth c H locs cells slots Q (F0 m pc ls (.int x :: .int i :: .ref a :: rest)) :=
  sg_iast X hK hG hS ha (k := 29) rfl hin hv hdg kk
theorem as_30  {i : Int32} {x : Int32}  (X : CallFix p m c cc nL s args sg_tbl own) (hK : va_K D vwCl tys s) (hG : sgG (KT P) D vwCl A tys ad ks H) (hS : va_S A H0 H locs) (ha : isK ad ks 30 a) (hin : vp_in i 32) (hv : okV ad ks (.inl ((-2147483648), 2147483647)) (.int x)) (hdg : decode cc pc = .ok (.iastore, 1)) (kk : ∀ (H1 : Heap) (locs1 : List Loc), sgG (KT P) D vwCl A tys ad ks H1 → va_S A H0 H1 locs1 → sgFr (KT P) D vwCl ad ks H H1 (fun _ _ => False) → W p l e R s m args below meth c H1 locs1 cells slots Q (F0 m (pc + 1) ls rest)) : W p l e R s m args below meth c H locs cells slots Q (F0 m pc ls (.int x :: .int i :: .ref a :: rest)) :=
  sg_iast X hK hG hS ha (k := 30) rfl hin hv hdg kk
set_option maxHeartbeats 8000000 in
set_option maxRecDepth 100000 in
theorem m_X1_apart (l : Launch) {D : va_G} {base : Nat} {tys : List (ClassId × FieldType)} {ad ks : List Nat} {P : sgPm} {Hx : Heap} (a0 : Nat) (h0 : isK ad ks 1 a0) (x1 : Int32) : sgPi l (KT P) D vwCl base tys ad ks Hx yX1_apart cX1_apart 5 (some .int) ({ frames := 1, cells := 0, slots := 0, locals := 24 }) [.ref a0, .int x1] (fun r : Int32 => True) := by
  refine sg_ofP (Pq := fun Hx => va_Qi (fun r (_ : Unit) => (fun r : Int32 => True) r) (fun _ t => t.heap = Hx) (fun _ : Nat => False)) (by decide +kernel) (Nat.le_of_ble_eq_true rfl) (fun p e s m below meth c X hr hlk hb hK hC hG ls hl => ?_)
  have hS : va_S (fun _ : Nat => False) s.heap s.heap [] := va_S.rf
  have hl : lv_has ls 5 [(0, .ref a0), (1, .int x1)] := hl
  refine lv_iconst (v := 0) X.1 X.2.1 dX1_apart_0 (by decide +kernel) ?_
  refine lv_istore_n (lv' := [(2, .int 0), (0, .ref a0), (1, .int x1)]) X.1 X.2.1 dX1_apart_1 rfl hl (by decide) rfl (fun ls hl => ?_)
  refine lv_iconst (v := 0) X.1 X.2.1 dX1_apart_2 (by decide +kernel) ?_
  refine lv_istore_n (lv' := [(3, .int 0), (2, .int 0), (0, .ref a0), (1, .int x1)]) X.1 X.2.1 dX1_apart_3 rfl hl (by decide) rfl (fun ls hl => ?_)
  have B1_4 : ∀ (N : Nat) (locs : List Loc) (ls : Array Slot) (z1_2 : Int32) (z1_3 : Int32), va_S (fun _ : Nat => False) s.heap s.heap locs → lv_has ls 5 [(0, .ref a0), (1, .int x1), (2, .int z1_2), (3, .int z1_3)] → iv 0 9 z1_3 → (10 - z1_3.toInt).toNat ≤ N → W p l e (headSpec (Cond.code yX1_apart cX1_apart 5 (some .int) :: sg_tbl) ({ frames := 1, cells := 0, slots := 0, locals := 24 })).room s m #[.ref a0, .int x1] below meth c s.heap locs 0 0 (MQ below (va_Qi (fun r (_ : Unit) => (fun r : Int32 => True) r) (fun _ t => t.heap = s.heap) (fun _ : Nat => False)) #[.ref a0, .int x1] s 0 0 (fun _ : Nat => False)) (F0 m 4 ls []) := by
    intro N; induction N with
    | zero =>
      intro locs ls z1_2 z1_3 hS hl hz1_3 hN
      exact absurd hN (by have := iv_up hz1_3; omega)
    | succ N ih1 =>
      intro locs ls z1_2 z1_3 hS hl hz1_3 hN1
      refine lv_iload_n X.1 X.2.1 dX1_apart_4 rfl (lv_at hl 3 rfl) ?_
      refine lv_bipush (v := 8) X.1 X.2.1 dX1_apart_5 (by decide +kernel) ?_
      refine lv_icmp_gt (tgt := 61) X.1 X.2.1 dX1_apart_7 (by decide) (fun c2 => ?_) (fun c2 => ?_)
      · refine lv_iload_n X.1 X.2.1 dX1_apart_61 rfl (lv_at hl 2 rfl) ?_
        refine va_mabs X.1 X.2.1 (X.2.2.1.trans hl.1.symm) X.2.2.2.1 (X.2.2.2.2 _ wl_6_10) (X.2.2.2.2 _ wl_6_11) (X.2.2.2.2 _ wl_1_15) (X.2.2.2.2 _ wl_6_12) (Nat.le_of_ble_eq_true rfl) (Nat.le_of_ble_eq_true rfl) (Nat.le_of_ble_eq_true rfl) (Nat.le_of_ble_eq_true rfl) dX1_apart_62 ?_
        refine lv_topi (fun f3 ef3 => ?_)
        exact sg_iretP X hr hlk hS trivial dX1_apart_65
      · refine lv_iload_n X.1 X.2.1 dX1_apart_10 rfl (lv_at hl 3 rfl) ?_
        refine lv_istore (lv' := [(4, .int z1_3), (0, .ref a0), (1, .int x1), (2, .int z1_2), (3, .int z1_3)]) X.1 X.2.1 dX1_apart_11 hl (by decide) rfl (fun ls hl => ?_)
        have B4_13 : ∀ (N : Nat) (locs : List Loc) (ls : Array Slot) (z4_2 : Int32) (z4_4 : Int32), va_S (fun _ : Nat => False) s.heap s.heap locs → lv_has ls 5 [(0, .ref a0), (1, .int x1), (2, .int z4_2), (3, .int z1_3), (4, .int z4_4)] → iv 0 9 z4_4 → (10 - z4_4.toInt).toNat ≤ N → W p l e (headSpec (Cond.code yX1_apart cX1_apart 5 (some .int) :: sg_tbl) ({ frames := 1, cells := 0, slots := 0, locals := 24 })).room s m #[.ref a0, .int x1] below meth c s.heap locs 0 0 (MQ below (va_Qi (fun r (_ : Unit) => (fun r : Int32 => True) r) (fun _ t => t.heap = s.heap) (fun _ : Nat => False)) #[.ref a0, .int x1] s 0 0 (fun _ : Nat => False)) (F0 m 13 ls []) := by
          intro N; induction N with
          | zero =>
            intro locs ls z4_2 z4_4 hS hl hz4_4 hN
            exact absurd hN (by have := iv_up hz4_4; omega)
          | succ N ih4 =>
            intro locs ls z4_2 z4_4 hS hl hz4_4 hN4
            refine lv_iload X.1 X.2.1 dX1_apart_13 (lv_at hl 4 rfl) ?_
            refine lv_bipush (v := 8) X.1 X.2.1 dX1_apart_15 (by decide +kernel) ?_
            refine lv_icmp_gt (tgt := 55) X.1 X.2.1 dX1_apart_17 (by decide) (fun c5 => ?_) (fun c5 => ?_)
            · obtain ⟨y6, ey6⟩ : ∃ y : Int32, y = z1_3 + Int32.ofInt 1 := ⟨_, rfl⟩
              refine lv_iinc (v := y6) (lv' := [(3, .int y6), (0, .ref a0), (1, .int x1), (2, .int z4_2), (4, .int z4_4)]) X.1 X.2.1 dX1_apart_55 hl (k := 3) rfl ey6.symm (by decide) rfl (fun ls hl => ?_)
              refine lv_goto (tgt := 4) X.1 X.2.1 dX1_apart_58 (by decide) ?_
              exact ih1 _ _ z4_2 y6 hS (lv_sub hl [1, 2, 3, 0] rfl) (iv_of (iv_add (a' := 1) (b' := 9) ey6 (iv_le (b' := 8) (iv_ge_of c2) hz1_3 (iv_c 8 (a := 8) (b := 8) (by decide +kernel)) (by decide +kernel)) (iv_c _ (a := 1) (b := 1) (by decide +kernel)) (by decide +kernel)) (a' := 0) (b' := 9) (by decide +kernel)) (iv_stepU ey6 (iv_le (b' := 8) (iv_ge_of c2) hz1_3 (iv_c 8 (a := 8) (b := 8) (by decide +kernel)) (by decide +kernel)) (by decide +kernel) hN1)
            · refine lv_aload_n X.1 X.2.1 dX1_apart_20 rfl (lv_at hl 0 rfl) ?_
              refine lv_iload_n X.1 X.2.1 dX1_apart_21 rfl (lv_at hl 3 rfl) ?_
              refine lv_iload X.1 X.2.1 dX1_apart_22 (lv_at hl 4 rfl) ?_
              refine ca_X1_fits X hK hG hC (fun _ h => h.elim) hS hb a0 h0 z1_3 z4_4 wl_5_238 hl.1 (rest := []) rfl (Nat.le_of_ble_eq_true rfl) ⟨Nat.le_of_ble_eq_true rfl, Nat.le_of_ble_eq_true rfl⟩ ⟨Nat.le_of_ble_eq_true rfl, Nat.le_of_ble_eq_true rfl⟩ dX1_apart_24 (fun f7 locs hf7 hS => ?_)
              have B9_49 : ∀ (locs : List Loc) (ls : Array Slot) (z9_2 : Int32), va_S (fun _ : Nat => False) s.heap s.heap locs → lv_has ls 5 [(0, .ref a0), (1, .int x1), (2, .int z9_2), (3, .int z1_3), (4, .int z4_4)] → W p l e (headSpec (Cond.code yX1_apart cX1_apart 5 (some .int) :: sg_tbl) ({ frames := 1, cells := 0, slots := 0, locals := 24 })).room s m #[.ref a0, .int x1] below meth c s.heap locs 0 0 (MQ below (va_Qi (fun r (_ : Unit) => (fun r : Int32 => True) r) (fun _ t => t.heap = s.heap) (fun _ : Nat => False)) #[.ref a0, .int x1] s 0 0 (fun _ : Nat => False)) (F0 m 49 ls []) := by
                intro locs ls z9_2 hS hl
                obtain ⟨y10, ey10⟩ : ∃ y : Int32, y = z4_4 + Int32.ofInt 1 := ⟨_, rfl⟩
                refine lv_iinc (v := y10) (lv' := [(4, .int y10), (0, .ref a0), (1, .int x1), (2, .int z9_2), (3, .int z1_3)]) X.1 X.2.1 dX1_apart_49 hl (k := 4) rfl ey10.symm (by decide) rfl (fun ls hl => ?_)
                refine lv_goto (tgt := 13) X.1 X.2.1 dX1_apart_52 (by decide) ?_
                exact ih4 _ _ z9_2 y10 hS (lv_sub hl [1, 2, 3, 4, 0] rfl) (iv_of (iv_add (a' := 1) (b' := 9) ey10 (iv_le (b' := 8) (iv_ge_of c5) hz4_4 (iv_c 8 (a := 8) (b := 8) (by decide +kernel)) (by decide +kernel)) (iv_c _ (a := 1) (b := 1) (by decide +kernel)) (by decide +kernel)) (a' := 0) (b' := 9) (by decide +kernel)) (iv_stepU ey10 (iv_le (b' := 8) (iv_ge_of c5) hz4_4 (iv_c 8 (a := 8) (b := 8) (by decide +kernel)) (by decide +kernel)) (by decide +kernel) hN4)
              refine lv_if_eq (tgt := 49) X.1 X.2.1 dX1_apart_27 (by decide) (fun c8 => ?_) (fun c8 => ?_)
              · exact B9_49 _ _ z4_2 hS (lv_sub hl [0, 1, 2, 3, 4] rfl)
              · refine lv_iload_n X.1 X.2.1 dX1_apart_30 rfl (lv_at hl 2 rfl) ?_
                refine lv_iload_n X.1 X.2.1 dX1_apart_31 rfl (lv_at hl 1 rfl) ?_
                refine lv_iload_n X.1 X.2.1 dX1_apart_32 rfl (lv_at hl 3 rfl) ?_
                have B12_47 : ∀ (locs : List Loc) (ls : Array Slot) (w12_0 : Int32), va_S (fun _ : Nat => False) s.heap s.heap locs → lv_has ls 5 [(0, .ref a0), (1, .int x1), (3, .int z1_3), (4, .int z4_4)] → iv (-1) 1 w12_0 → W p l e (headSpec (Cond.code yX1_apart cX1_apart 5 (some .int) :: sg_tbl) ({ frames := 1, cells := 0, slots := 0, locals := 24 })).room s m #[.ref a0, .int x1] below meth c s.heap locs 0 0 (MQ below (va_Qi (fun r (_ : Unit) => (fun r : Int32 => True) r) (fun _ t => t.heap = s.heap) (fun _ : Nat => False)) #[.ref a0, .int x1] s 0 0 (fun _ : Nat => False)) (F0 m 47 ls [.int w12_0, .int z4_2]) := by
                  intro locs ls w12_0 hS hl hw12_0
                  refine lv_iadd X.1 X.2.1 dX1_apart_47 ?_
                  refine lv_topi (fun f13 ef13 => ?_)
                  refine lv_istore_n (lv' := [(2, .int f13), (0, .ref a0), (1, .int x1), (3, .int z1_3), (4, .int z4_4)]) X.1 X.2.1 dX1_apart_48 rfl hl (by decide) rfl (fun ls hl => ?_)
                  exact B9_49 _ _ f13 hS (lv_sub hl [1, 2, 0, 3, 4] rfl)
                have B14_46 : ∀ (locs : List Loc) (ls : Array Slot), va_S (fun _ : Nat => False) s.heap s.heap locs → lv_has ls 5 [(0, .ref a0), (1, .int x1), (3, .int z1_3), (4, .int z4_4)] → W p l e (headSpec (Cond.code yX1_apart cX1_apart 5 (some .int) :: sg_tbl) ({ frames := 1, cells := 0, slots := 0, locals := 24 })).room s m #[.ref a0, .int x1] below meth c s.heap locs 0 0 (MQ below (va_Qi (fun r (_ : Unit) => (fun r : Int32 => True) r) (fun _ t => t.heap = s.heap) (fun _ : Nat => False)) #[.ref a0, .int x1] s 0 0 (fun _ : Nat => False)) (F0 m 46 ls [.int z4_2]) := by
                  intro locs ls hS hl
                  refine lv_iconst (v := (-1)) X.1 X.2.1 dX1_apart_46 (by decide +kernel) ?_
                  exact B12_47 _ _ (-1) hS (lv_sub hl [0, 1, 2, 3] rfl) (iv_of (iv_c (-1) (a := (-1)) (b := (-1)) (by decide +kernel)) (a' := (-1)) (b' := 1) (by decide +kernel))
                refine lv_icmp_lt (tgt := 46) X.1 X.2.1 dX1_apart_33 (by decide) (fun c11 => ?_) (fun c11 => ?_)
                · exact B14_46 _ _ hS (lv_sub hl [0, 1, 3, 4] rfl)
                · refine lv_iload_n X.1 X.2.1 dX1_apart_36 rfl (lv_at hl 1 rfl) ?_
                  refine lv_iload X.1 X.2.1 dX1_apart_37 (lv_at hl 4 rfl) ?_
                  refine lv_icmp_gt (tgt := 46) X.1 X.2.1 dX1_apart_39 (by decide) (fun c15 => ?_) (fun c15 => ?_)
                  · exact B14_46 _ _ hS (lv_sub hl [0, 1, 3, 4] rfl)
                  · refine lv_iconst (v := 1) X.1 X.2.1 dX1_apart_42 (by decide +kernel) ?_
                    refine lv_goto (tgt := 47) X.1 X.2.1 dX1_apart_43 (by decide) ?_
                    exact B12_47 _ _ 1 hS (lv_sub hl [0, 1, 3, 4] rfl) (iv_of (iv_c 1 (a := 1) (b := 1) (by decide +kernel)) (a' := (-1)) (b' := 1) (by decide +kernel))
        exact B4_13 _ _ _ z1_2 z1_3 hS (lv_sub hl [1, 2, 3, 4, 0] rfl) (iv_of (iv_le (b' := 8) (iv_ge_of c2) hz1_3 (iv_c 8 (a := 8) (b := 8) (by decide +kernel)) (by decide +kernel)) (a' := 0) (b' := 9) (by decide +kernel)) (Nat.le_refl _)
  exact B1_4 _ _ _ 0 0 hS (lv_sub hl [2, 3, 1, 0] rfl) (iv_of (iv_c 0 (a := 0) (b := 0) (by decide +kernel)) (a' := 0) (b' := 9) (by decide +kernel)) (Nat.le_refl _)

theorem ca_X1_apart   (X : CallFix p m c cc nL s args sg_tbl own) (hK : va_K D vwCl tys s) (hG : sgG (KT P) D vwCl (fun q : Nat => base ≤ q) tys ad ks H) (hC : sgC base s) (hA : ∀ q : Nat, A q → base ≤ q) (hS : va_S A s.heap H locs) (hb : base ≤ s.heap.size) (a0 : Nat) (h0 : isK ad ks 1 a0) (x1 : Int32) (hl : Cond.methodLink own index yX1_apart ∈ sg_tbl) (hsize : ls.size = nL) (hst : st0 = [.int x1].reverse ++ .ref a0 :: rest) (hW : (rest.map fun v => v.category).sum ≤ 8) (hR : 2 ≤ R.frames ∧ 48 ≤ R.locals) (hf : cells ≤ R.cells ∧ slots ≤ R.slots) (hdg : decode cc pc = .ok (.invokevirtual index, 3)) (kk : ∀ (r : Int32) (locs1 : List Loc), (fun r : Int32 => True) r → va_S A s.heap H locs1 → W p l e R s m args below meth c H locs1 cells slots Q (F0 m (pc + 3) ls (.int r :: rest))) : W p l e R s m args below meth c H locs cells slots Q (F0 m pc ls st0) :=
  sg_callPVi X hK hG hC hA hS hb (m_X1_apart l a0 h0 x1) h0 (k := 1) (ci := 1) rfl (C := RX1) (T := TX1) (N := 3) rfl wl_6_9 wl_1_12 wl_6_7 wl_6_8 (n := 1) (by decide +kernel) rfl rfl rfl hl hsize hst hW hR hf hdg kk

set_option maxHeartbeats 8000000 in
set_option maxRecDepth 100000 in
theorem m_X4_around (l : Launch) {D : va_G} {base : Nat} {tys : List (ClassId × FieldType)} {ad ks : List Nat} {P : sgPm} {Hx : Heap} (a0 : Nat) (h0 : isK ad ks 4 a0) (x1 : Int32) (x2 : Int32) : sgPi l (KT P) D vwCl base tys ad ks Hx yX4_around cX4_around 3 (some .int) ({ frames := 1, cells := 0, slots := 0, locals := 20 }) [.ref a0, .int x1, .int x2] (fun r : Int32 => iv 0 63 r) := by
  refine sg_ofP (Pq := fun Hx => va_Qi (fun r (_ : Unit) => (fun r : Int32 => iv 0 63 r) r) (fun _ t => t.heap = Hx) (fun _ : Nat => False)) (by decide +kernel) (Nat.le_of_ble_eq_true rfl) (fun p e s m below meth c X hr hlk hb hK hC hG ls hl => ?_)
  have hS : va_S (fun _ : Nat => False) s.heap s.heap [] := va_S.rf
  have hl : lv_has ls 3 [(0, .ref a0), (1, .int x1), (2, .int x2)] := hl
  refine lv_iload_n X.1 X.2.1 dX4_around_0 rfl (lv_at hl 1 rfl) ?_
  have B2_12 : ∀ (locs : List Loc) (ls : Array Slot), va_S (fun _ : Nat => False) s.heap s.heap locs → lv_has ls 3 [] → W p l e (headSpec (Cond.code yX4_around cX4_around 3 (some .int) :: sg_tbl) ({ frames := 1, cells := 0, slots := 0, locals := 20 })).room s m #[.ref a0, .int x1, .int x2] below meth c s.heap locs 0 0 (MQ below (va_Qi (fun r (_ : Unit) => (fun r : Int32 => iv 0 63 r) r) (fun _ t => t.heap = s.heap) (fun _ : Nat => False)) #[.ref a0, .int x1, .int x2] s 0 0 (fun _ : Nat => False)) (F0 m 12 ls []) := by
    intro locs ls hS hl
    refine lv_iconst (v := 0) X.1 X.2.1 dX4_around_12 (by decide +kernel) ?_
    refine lv_goto (tgt := 27) X.1 X.2.1 dX4_around_13 (by decide) ?_
    exact sg_iretP X hr hlk hS (iv_of (iv_c 0 (a := 0) (b := 0) (by decide +kernel)) (a' := 0) (b' := 63) (by decide +kernel)) dX4_around_27
  refine lv_if_lt (tgt := 12) X.1 X.2.1 dX4_around_1 (by decide) (fun c1 => ?_) (fun c1 => ?_)
  · exact B2_12 _ _ hS (lv_sub hl [] rfl)
  · refine lv_iload_n X.1 X.2.1 dX4_around_4 rfl (lv_at hl 1 rfl) ?_
    refine lv_aload_n X.1 X.2.1 dX4_around_5 rfl (lv_at hl 0 rfl) ?_
    refine gf_X4_5 X hK hG h0 wl_1_221 dX4_around_6 (fun f3 hf3 kf3 => ?_)
    refine lv_icmp_lt (tgt := 16) X.1 X.2.1 dX4_around_9 (by decide) (fun c4 => ?_) (fun c4 => ?_)
    · refine lv_aload_n X.1 X.2.1 dX4_around_16 rfl (lv_at hl 0 rfl) ?_
      refine gf_X4_1 X hK hG h0 wl_1_212 dX4_around_17 (fun q5 hq5 kq5 => ?_)
      refine lv_iload_n X.1 X.2.1 dX4_around_20 rfl (lv_at hl 1 rfl) ?_
      refine al_22 X hK hG hq5 (iv_vpin (iv_lt (b' := 29) c4 (iv_ler (c' := 0) (iv_ge_of c1) (iv_c 0 (a := 0) (b := 0) (by decide +kernel)) (iv_top x1) (by decide +kernel)) hf3 (by decide +kernel)) (by decide +kernel)) dX4_around_21 (fun f6 hf6 => ?_)
      refine lv_iload_n X.1 X.2.1 dX4_around_22 rfl (lv_at hl 2 rfl) ?_
      refine lv_iand X.1 X.2.1 dX4_around_23 ?_
      refine lv_topi (fun f7 ef7 => ?_)
      refine ca_J6_bitCount_0f7a4 X hK hG hC (fun _ h => h.elim) hS hb f7 wl_4_125 hl.1 (rest := []) rfl (Nat.le_of_ble_eq_true rfl) ⟨Nat.le_of_ble_eq_true rfl, Nat.le_of_ble_eq_true rfl⟩ ⟨Nat.le_of_ble_eq_true rfl, Nat.le_of_ble_eq_true rfl⟩ dX4_around_24 (fun f8 locs hf8 hS => ?_)
      exact sg_iretP X hr hlk hS hf8 dX4_around_27
    · exact B2_12 _ _ hS (lv_sub hl [] rfl)

theorem ca_X4_around   (X : CallFix p m c cc nL s args sg_tbl own) (hK : va_K D vwCl tys s) (hG : sgG (KT P) D vwCl (fun q : Nat => base ≤ q) tys ad ks H) (hC : sgC base s) (hA : ∀ q : Nat, A q → base ≤ q) (hS : va_S A s.heap H locs) (hb : base ≤ s.heap.size) (a0 : Nat) (h0 : isK ad ks 4 a0) (x1 : Int32) (x2 : Int32) (hl : Cond.methodLink own index yX4_around ∈ sg_tbl) (hsize : ls.size = nL) (hst : st0 = [.int x1, .int x2].reverse ++ .ref a0 :: rest) (hW : (rest.map fun v => v.category).sum ≤ 8) (hR : 2 ≤ R.frames ∧ 42 ≤ R.locals) (hf : cells ≤ R.cells ∧ slots ≤ R.slots) (hdg : decode cc pc = .ok (.invokevirtual index, 3)) (kk : ∀ (r : Int32) (locs1 : List Loc), (fun r : Int32 => iv 0 63 r) r → va_S A s.heap H locs1 → W p l e R s m args below meth c H locs1 cells slots Q (F0 m (pc + 3) ls (.int r :: rest))) : W p l e R s m args below meth c H locs cells slots Q (F0 m pc ls st0) :=
  sg_callPVi X hK hG hC hA hS hb (m_X4_around l a0 h0 x1 x2) h0 (k := 4) (ci := 4) rfl (C := RX4) (T := TX4) (N := 15) rfl wl_4_124 wl_1_7 wl_4_122 wl_4_123 (n := 2) (by decide +kernel) rfl rfl rfl hl hsize hst hW hR hf hdg kk

set_option maxHeartbeats 8000000 in
set_option maxRecDepth 100000 in
theorem m_X4_besideAnyWay (l : Launch) {D : va_G} {base : Nat} {tys : List (ClassId × FieldType)} {ad ks : List Nat} {P : sgPm} {Hx : Heap} (a0 : Nat) (h0 : isK ad ks 4 a0) (x1 : Int32) : sgPi l (KT P) D vwCl base tys ad ks Hx yX4_besideAnyWay cX4_besideAnyWay 4 (some .int) ({ frames := 0, cells := 0, slots := 0, locals := 0 }) [.ref a0, .int x1] (fun r : Int32 => True) := by
  refine sg_ofP (Pq := fun Hx => va_Qi (fun r (_ : Unit) => (fun r : Int32 => True) r) (fun _ t => t.heap = Hx) (fun _ : Nat => False)) (by decide +kernel) (Nat.le_of_ble_eq_true rfl) (fun p e s m below meth c X hr hlk hb hK hC hG ls hl => ?_)
  have hS : va_S (fun _ : Nat => False) s.heap s.heap [] := va_S.rf
  have hl : lv_has ls 4 [(0, .ref a0), (1, .int x1)] := hl
  refine lv_iconst (v := 0) X.1 X.2.1 dX4_besideAnyWay_0 (by decide +kernel) ?_
  refine lv_istore_n (lv' := [(2, .int 0), (0, .ref a0), (1, .int x1)]) X.1 X.2.1 dX4_besideAnyWay_1 rfl hl (by decide) rfl (fun ls hl => ?_)
  refine lv_iconst (v := 0) X.1 X.2.1 dX4_besideAnyWay_2 (by decide +kernel) ?_
  refine lv_istore_n (lv' := [(3, .int 0), (2, .int 0), (0, .ref a0), (1, .int x1)]) X.1 X.2.1 dX4_besideAnyWay_3 rfl hl (by decide) rfl (fun ls hl => ?_)
  have B1_4 : ∀ (N : Nat) (locs : List Loc) (ls : Array Slot) (z1_2 : Int32) (z1_3 : Int32), va_S (fun _ : Nat => False) s.heap s.heap locs → lv_has ls 4 [(0, .ref a0), (1, .int x1), (2, .int z1_2), (3, .int z1_3)] → iv 0 4 z1_3 → (5 - z1_3.toInt).toNat ≤ N → W p l e (headSpec (Cond.code yX4_besideAnyWay cX4_besideAnyWay 4 (some .int) :: sg_tbl) ({ frames := 0, cells := 0, slots := 0, locals := 0 })).room s m #[.ref a0, .int x1] below meth c s.heap locs 0 0 (MQ below (va_Qi (fun r (_ : Unit) => (fun r : Int32 => True) r) (fun _ t => t.heap = s.heap) (fun _ : Nat => False)) #[.ref a0, .int x1] s 0 0 (fun _ : Nat => False)) (F0 m 4 ls []) := by
    intro N; induction N with
    | zero =>
      intro locs ls z1_2 z1_3 hS hl hz1_3 hN
      exact absurd hN (by have := iv_up hz1_3; omega)
    | succ N ih1 =>
      intro locs ls z1_2 z1_3 hS hl hz1_3 hN1
      refine lv_iload_n X.1 X.2.1 dX4_besideAnyWay_4 rfl (lv_at hl 3 rfl) ?_
      refine lv_iconst (v := 4) X.1 X.2.1 dX4_besideAnyWay_5 (by decide +kernel) ?_
      refine lv_icmp_ge (tgt := 49) X.1 X.2.1 dX4_besideAnyWay_6 (by decide) (fun c2 => ?_) (fun c2 => ?_)
      · refine lv_iload_n X.1 X.2.1 dX4_besideAnyWay_49 rfl (lv_at hl 2 rfl) ?_
        refine lv_aload_n X.1 X.2.1 dX4_besideAnyWay_50 rfl (lv_at hl 0 rfl) ?_
        refine gf_X4_6 X hK hG h0 wl_1_222 dX4_besideAnyWay_51 (fun f3 hf3 kf3 => ?_)
        refine lv_iand X.1 X.2.1 dX4_besideAnyWay_54 ?_
        refine lv_topi (fun f4 ef4 => ?_)
        exact sg_iretP X hr hlk hS trivial dX4_besideAnyWay_55
      · refine lv_iload_n X.1 X.2.1 dX4_besideAnyWay_9 rfl (lv_at hl 2 rfl) ?_
        refine lv_iload_n X.1 X.2.1 dX4_besideAnyWay_10 rfl (lv_at hl 1 rfl) ?_
        refine lv_aload_n X.1 X.2.1 dX4_besideAnyWay_11 rfl (lv_at hl 0 rfl) ?_
        refine gf_X4_3 X hK hG h0 wl_1_215 dX4_besideAnyWay_12 (fun q5 hq5 kq5 => ?_)
        refine lv_iload_n X.1 X.2.1 dX4_besideAnyWay_15 rfl (lv_at hl 3 rfl) ?_
        refine al_24 X hK hG hq5 (iv_vpin (iv_lt (b' := 3) (iv_gt_of c2) hz1_3 (iv_c 4 (a := 4) (b := 4) (by decide +kernel)) (by decide +kernel)) (by decide +kernel)) dX4_besideAnyWay_16 (fun f6 hf6 => ?_)
        refine lv_iand X.1 X.2.1 dX4_besideAnyWay_17 ?_
        refine lv_topi (fun f7 ef7 => ?_)
        refine lv_aload_n X.1 X.2.1 dX4_besideAnyWay_18 rfl (lv_at hl 0 rfl) ?_
        refine gf_X4_2 X hK hG h0 wl_1_214 dX4_besideAnyWay_19 (fun q8 hq8 kq8 => ?_)
        refine lv_iload_n X.1 X.2.1 dX4_besideAnyWay_22 rfl (lv_at hl 3 rfl) ?_
        refine al_23 X hK hG hq8 (iv_vpin (iv_lt (b' := 3) (iv_gt_of c2) hz1_3 (iv_c 4 (a := 4) (b := 4) (by decide +kernel)) (by decide +kernel)) (by decide +kernel)) dX4_besideAnyWay_23 (fun f9 hf9 => ?_)
        refine lv_ishl X.1 X.2.1 dX4_besideAnyWay_24 ?_
        refine lv_topi (fun f10 ef10 => ?_)
        refine lv_iload_n X.1 X.2.1 dX4_besideAnyWay_25 rfl (lv_at hl 1 rfl) ?_
        refine lv_aload_n X.1 X.2.1 dX4_besideAnyWay_26 rfl (lv_at hl 0 rfl) ?_
        refine gg_X4_2 X hK hG h0 wl_1_214 kq8 dX4_besideAnyWay_27 ?_
        refine lv_iload_n X.1 X.2.1 dX4_besideAnyWay_30 rfl (lv_at hl 3 rfl) ?_
        refine al_23 X hK hG hq8 (iv_vpin (iv_lt (b' := 3) (iv_gt_of c2) hz1_3 (iv_c 4 (a := 4) (b := 4) (by decide +kernel)) (by decide +kernel)) (by decide +kernel)) dX4_besideAnyWay_31 (fun f11 hf11 => ?_)
        obtain ⟨f12, ef12⟩ : ∃ y : Int32, y = (x1.toUInt32 >>> ((f11 : Int32).toUInt32 &&& Int32.toUInt32 31)).toInt32 := ⟨_, rfl⟩
        refine lv_iushr (v := f12) X.1 X.2.1 dX4_besideAnyWay_32 ef12.symm ?_
        refine lv_aload_n X.1 X.2.1 dX4_besideAnyWay_33 rfl (lv_at hl 0 rfl) ?_
        refine gg_X4_3 X hK hG h0 wl_1_215 kq5 dX4_besideAnyWay_34 ?_
        refine lv_iload_n X.1 X.2.1 dX4_besideAnyWay_37 rfl (lv_at hl 3 rfl) ?_
        refine al_24 X hK hG hq5 (iv_vpin (iv_lt (b' := 3) (iv_gt_of c2) hz1_3 (iv_c 4 (a := 4) (b := 4) (by decide +kernel)) (by decide +kernel)) (by decide +kernel)) dX4_besideAnyWay_38 (fun f13 hf13 => ?_)
        refine lv_iand X.1 X.2.1 dX4_besideAnyWay_39 ?_
        refine lv_topi (fun f14 ef14 => ?_)
        refine lv_ior X.1 X.2.1 dX4_besideAnyWay_40 ?_
        refine lv_topi (fun f15 ef15 => ?_)
        refine lv_ior X.1 X.2.1 dX4_besideAnyWay_41 ?_
        refine lv_topi (fun f16 ef16 => ?_)
        refine lv_istore_n (lv' := [(2, .int f16), (0, .ref a0), (1, .int x1), (3, .int z1_3)]) X.1 X.2.1 dX4_besideAnyWay_42 rfl hl (by decide) rfl (fun ls hl => ?_)
        obtain ⟨y17, ey17⟩ : ∃ y : Int32, y = z1_3 + Int32.ofInt 1 := ⟨_, rfl⟩
        refine lv_iinc (v := y17) (lv' := [(3, .int y17), (2, .int f16), (0, .ref a0), (1, .int x1)]) X.1 X.2.1 dX4_besideAnyWay_43 hl (k := 3) rfl ey17.symm (by decide) rfl (fun ls hl => ?_)
        refine lv_goto (tgt := 4) X.1 X.2.1 dX4_besideAnyWay_46 (by decide) ?_
        exact ih1 _ _ f16 y17 hS (lv_sub hl [2, 3, 1, 0] rfl) (iv_of (iv_add (a' := 1) (b' := 4) ey17 (iv_lt (b' := 3) (iv_gt_of c2) hz1_3 (iv_c 4 (a := 4) (b := 4) (by decide +kernel)) (by decide +kernel)) (iv_c _ (a := 1) (b := 1) (by decide +kernel)) (by decide +kernel)) (a' := 0) (b' := 4) (by decide +kernel)) (iv_stepU ey17 (iv_lt (b' := 3) (iv_gt_of c2) hz1_3 (iv_c 4 (a := 4) (b := 4) (by decide +kernel)) (by decide +kernel)) (by decide +kernel) hN1)
  exact B1_4 _ _ _ 0 0 hS (lv_sub hl [2, 3, 1, 0] rfl) (iv_of (iv_c 0 (a := 0) (b := 0) (by decide +kernel)) (a' := 0) (b' := 4) (by decide +kernel)) (Nat.le_refl _)

theorem ca_X4_besideAnyWay   (X : CallFix p m c cc nL s args sg_tbl own) (hK : va_K D vwCl tys s) (hG : sgG (KT P) D vwCl (fun q : Nat => base ≤ q) tys ad ks H) (hC : sgC base s) (hA : ∀ q : Nat, A q → base ≤ q) (hS : va_S A s.heap H locs) (hb : base ≤ s.heap.size) (a0 : Nat) (h0 : isK ad ks 4 a0) (x1 : Int32) (hl : Cond.methodLink own index yX4_besideAnyWay ∈ sg_tbl) (hsize : ls.size = nL) (hst : st0 = [.int x1].reverse ++ .ref a0 :: rest) (hW : (rest.map fun v => v.category).sum ≤ 8) (hR : 1 ≤ R.frames ∧ 23 ≤ R.locals) (hf : cells ≤ R.cells ∧ slots ≤ R.slots) (hdg : decode cc pc = .ok (.invokevirtual index, 3)) (kk : ∀ (r : Int32) (locs1 : List Loc), (fun r : Int32 => True) r → va_S A s.heap H locs1 → W p l e R s m args below meth c H locs1 cells slots Q (F0 m (pc + 3) ls (.int r :: rest))) : W p l e R s m args below meth c H locs cells slots Q (F0 m pc ls st0) :=
  sg_callPVi X hK hG hC hA hS hb (m_X4_besideAnyWay l a0 h0 x1) h0 (k := 4) (ci := 4) rfl (C := RX4) (T := TX4) (N := 15) rfl wl_3_192 wl_1_7 wl_3_191 wl_0_8 (n := 1) (by decide +kernel) rfl rfl rfl hl hsize hst hW hR hf hdg kk

set_option maxHeartbeats 8000000 in
set_option maxRecDepth 100000 in
theorem m_X4_setWay (l : Launch) {D : va_G} {base : Nat} {tys : List (ClassId × FieldType)} {ad ks : List Nat} {P : sgPm} (a0 : Nat) (h0 : isK ad ks 4 a0) (x1 : Int32) (h1 : iv 0 3 x1) (x2 : Int32) (x3 : Int32) : sgMv l (KT P) D vwCl base tys ad ks yX4_setWay cX4_setWay 6 none ({ frames := 0, cells := 0, slots := 0, locals := 0 }) [.ref a0, .int x1, .int x2, .int x3] := by
  refine sg_ofW (by decide +kernel) (Nat.le_of_ble_eq_true rfl) (fun p e s m below meth c X hr hlk hb hK hC hG ls hl => ?_)
  have hS : va_S (fun q : Nat => base ≤ q) s.heap s.heap [] := va_S.rf
  have hl : lv_has ls 6 [(0, .ref a0), (1, .int x1), (2, .int x2), (3, .int x3)] := hl
  refine lv_aload_n X.1 X.2.1 dX4_setWay_0 rfl (lv_at hl 0 rfl) ?_
  refine gf_X4_2 X hK hG h0 wl_1_214 dX4_setWay_1 (fun q1 hq1 kq1 => ?_)
  refine lv_iload_n X.1 X.2.1 dX4_setWay_4 rfl (lv_at hl 1 rfl) ?_
  refine lv_iload_n X.1 X.2.1 dX4_setWay_5 rfl (lv_at hl 2 rfl) ?_
  refine as_23 X hK hG hS hq1 (iv_vpin h1 (by decide +kernel)) ⟨_, rfl, (iv_top _)⟩ dX4_setWay_6 (fun H locs hG hS ru2 => ?_)
  refine lv_aload_n X.1 X.2.1 dX4_setWay_7 rfl (lv_at hl 0 rfl) ?_
  refine gf_X4_3 X hK hG h0 wl_1_215 dX4_setWay_8 (fun q3 hq3 kq3 => ?_)
  refine lv_iload_n X.1 X.2.1 dX4_setWay_11 rfl (lv_at hl 1 rfl) ?_
  refine lv_iload_n X.1 X.2.1 dX4_setWay_12 rfl (lv_at hl 3 rfl) ?_
  refine as_24 X hK hG hS hq3 (iv_vpin h1 (by decide +kernel)) ⟨_, rfl, (iv_top _)⟩ dX4_setWay_13 (fun H locs hG hS ru4 => ?_)
  refine lv_aload_n X.1 X.2.1 dX4_setWay_14 rfl (lv_at hl 0 rfl) ?_
  refine gf_X4_6 X hK hG h0 wl_1_222 dX4_setWay_15 (fun f5 hf5 kf5 => ?_)
  refine lv_istore (lv' := [(4, .int f5), (0, .ref a0), (1, .int x1), (2, .int x2), (3, .int x3)]) X.1 X.2.1 dX4_setWay_18 hl (by decide) rfl (fun ls hl => ?_)
  refine lv_iconst (v := 1) X.1 X.2.1 dX4_setWay_20 (by decide +kernel) ?_
  refine lv_istore (lv' := [(5, .int 1), (4, .int f5), (0, .ref a0), (1, .int x1), (2, .int x2), (3, .int x3)]) X.1 X.2.1 dX4_setWay_21 hl (by decide) rfl (fun ls hl => ?_)
  have B6_23 : ∀ (N : Nat) (locs : List Loc) (ls : Array Slot) (z6_4 : Int32) (z6_5 : Int32), va_S (fun q : Nat => base ≤ q) s.heap H locs → lv_has ls 6 [(0, .ref a0), (1, .int x1), (2, .int x2), (3, .int x3), (4, .int z6_4), (5, .int z6_5)] → iv 1 5 z6_5 → (6 - z6_5.toInt).toNat ≤ N → W p l e (headSpec (Cond.code yX4_setWay cX4_setWay 6 none :: sg_tbl) ({ frames := 0, cells := 0, slots := 0, locals := 0 })).room s m #[.ref a0, .int x1, .int x2, .int x3] below meth c H locs 0 0 (MQ below (va_Qv (fun (_ : Unit) => True) (fun _ => sgB (KT P) D vwCl base tys ad ks) (fun q : Nat => base ≤ q)) #[.ref a0, .int x1, .int x2, .int x3] s 0 0 (fun q : Nat => base ≤ q)) (F0 m 23 ls []) := by
    intro N; induction N with
    | zero =>
      intro locs ls z6_4 z6_5 hS hl hz6_5 hN
      exact absurd hN (by have := iv_up hz6_5; omega)
    | succ N ih6 =>
      intro locs ls z6_4 z6_5 hS hl hz6_5 hN6
      refine lv_iload X.1 X.2.1 dX4_setWay_23 (lv_at hl 5 rfl) ?_
      refine lv_aload_n X.1 X.2.1 dX4_setWay_25 rfl (lv_at hl 0 rfl) ?_
      refine gf_X4_0 X hK hG h0 wl_1_209 dX4_setWay_26 (fun q7 hq7 kq7 => ?_)
      refine lv_iconst (v := 2) X.1 X.2.1 dX4_setWay_29 (by decide +kernel) ?_
      refine al_21 X hK hG hq7 (iv_vpin (iv_c 2 (a := 2) (b := 2) (by decide +kernel)) (by decide +kernel)) dX4_setWay_30 (fun f8 hf8 => ?_)
      have of8 := hf8
      have hf8 : iv 0 5 f8 := sg_sp_rules hf8 (iv_c 2 (a := 2) (b := 2) (by decide +kernel)) (by decide +kernel) rfl
      refine lv_icmp_ge (tgt := 48) X.1 X.2.1 dX4_setWay_31 (by decide) (fun c9 => ?_) (fun c9 => ?_)
      · refine lv_aload_n X.1 X.2.1 dX4_setWay_48 rfl (lv_at hl 0 rfl) ?_
        refine gf_X4_4 X hK hG h0 wl_1_216 dX4_setWay_49 (fun q10 hq10 kq10 => ?_)
        refine lv_iload_n X.1 X.2.1 dX4_setWay_52 rfl (lv_at hl 1 rfl) ?_
        refine lv_iload X.1 X.2.1 dX4_setWay_53 (lv_at hl 4 rfl) ?_
        refine as_25 X hK hG hS hq10 (iv_vpin h1 (by decide +kernel)) ⟨_, rfl, (iv_top _)⟩ dX4_setWay_55 (fun H locs hG hS ru11 => ?_)
        exact sg_vret X hr hlk hb hK hC hG hS dX4_setWay_56
      · refine lv_iload_n X.1 X.2.1 dX4_setWay_34 rfl (lv_at hl 3 rfl) ?_
        refine lv_iload X.1 X.2.1 dX4_setWay_35 (lv_at hl 4 rfl) ?_
        refine lv_iload_n X.1 X.2.1 dX4_setWay_37 rfl (lv_at hl 2 rfl) ?_
        obtain ⟨f12, ef12⟩ : ∃ y : Int32, y = (z6_4.toUInt32 >>> ((x2 : Int32).toUInt32 &&& Int32.toUInt32 31)).toInt32 := ⟨_, rfl⟩
        refine lv_iushr (v := f12) X.1 X.2.1 dX4_setWay_38 ef12.symm ?_
        refine lv_iand X.1 X.2.1 dX4_setWay_39 ?_
        refine lv_topi (fun f13 ef13 => ?_)
        refine lv_istore (lv' := [(4, .int f13), (0, .ref a0), (1, .int x1), (2, .int x2), (3, .int x3), (5, .int z6_5)]) X.1 X.2.1 dX4_setWay_40 hl (by decide) rfl (fun ls hl => ?_)
        obtain ⟨y14, ey14⟩ : ∃ y : Int32, y = z6_5 + Int32.ofInt 1 := ⟨_, rfl⟩
        refine lv_iinc (v := y14) (lv' := [(5, .int y14), (4, .int f13), (0, .ref a0), (1, .int x1), (2, .int x2), (3, .int x3)]) X.1 X.2.1 dX4_setWay_42 hl (k := 5) rfl ey14.symm (by decide) rfl (fun ls hl => ?_)
        refine lv_goto (tgt := 23) X.1 X.2.1 dX4_setWay_45 (by decide) ?_
        exact ih6 _ _ f13 y14 hS (lv_sub hl [2, 3, 4, 5, 1, 0] rfl) (iv_of (iv_add (a' := 2) (b' := 5) ey14 (iv_lt (b' := 4) (iv_gt_of c9) hz6_5 hf8 (by decide +kernel)) (iv_c _ (a := 1) (b := 1) (by decide +kernel)) (by decide +kernel)) (a' := 1) (b' := 5) (by decide +kernel)) (iv_stepU ey14 (iv_lt (b' := 4) (iv_gt_of c9) hz6_5 hf8 (by decide +kernel)) (by decide +kernel) hN6)
  exact B6_23 _ _ _ f5 1 hS (lv_sub hl [2, 3, 4, 5, 1, 0] rfl) (iv_of (iv_c 1 (a := 1) (b := 1) (by decide +kernel)) (a' := 1) (b' := 5) (by decide +kernel)) (Nat.le_refl _)

theorem ca_X4_setWay   (X : CallFix p m c cc nL s args sg_tbl own) (hK : va_K D vwCl tys s) (hG : sgG (KT P) D vwCl (fun q : Nat => base ≤ q) tys ad ks H) (hC : sgC base s) (hS : va_S (fun q : Nat => base ≤ q) s.heap H locs) (hb : base ≤ s.heap.size) (a0 : Nat) (h0 : isK ad ks 4 a0) (x1 : Int32) (h1 : iv 0 3 x1) (x2 : Int32) (x3 : Int32) (hl : Cond.methodLink own index yX4_setWay ∈ sg_tbl) (hsize : ls.size = nL) (hst : st0 = [.int x1, .int x2, .int x3].reverse ++ .ref a0 :: rest) (hW : (rest.map fun v => v.category).sum ≤ 8) (hR : 1 ≤ R.frames ∧ 25 ≤ R.locals) (hf : cells ≤ R.cells ∧ slots ≤ R.slots) (hdg : decode cc pc = .ok (.invokevirtual index, 3)) (kk : ∀ (H1 : Heap) (locs1 : List Loc), sgG (KT P) D vwCl (fun q : Nat => base ≤ q) tys ad ks H1 → va_S (fun q : Nat => base ≤ q) s.heap H1 locs1 → W p l e R s m args below meth c H1 locs1 cells slots Q (F0 m (pc + 3) ls rest)) : W p l e R s m args below meth c H locs cells slots Q (F0 m pc ls st0) :=
  sg_callVv X hK hG hC hS hb (m_X4_setWay l a0 h0 x1 h1 x2 x3) h0 (k := 4) (ci := 4) rfl (C := RX4) (T := TX4) (N := 15) rfl wl_3_188 wl_1_7 wl_3_187 wl_0_7 (n := 3) (by decide +kernel) rfl rfl rfl hl hsize hst hW hR hf hdg kk

set_option maxHeartbeats 8000000 in
set_option maxRecDepth 100000 in
theorem m_X4_layOut (l : Launch) {D : va_G} {base : Nat} {tys : List (ClassId × FieldType)} {ad ks : List Nat} {P : sgPm} (a0 : Nat) (h0 : isK ad ks 4 a0) : sgMv l (KT P) D vwCl base tys ad ks yX4_layOut cX4_layOut 4 none ({ frames := 1, cells := 0, slots := 0, locals := 25 }) [.ref a0] := by
  refine sg_ofW (by decide +kernel) (Nat.le_of_ble_eq_true rfl) (fun p e s m below meth c X hr hlk hb hK hC hG ls hl => ?_)
  have hS : va_S (fun q : Nat => base ≤ q) s.heap s.heap [] := va_S.rf
  have hl : lv_has ls 4 [(0, .ref a0)] := hl
  refine lv_iconst (v := 0) X.1 X.2.1 dX4_layOut_0 (by decide +kernel) ?_
  refine lv_istore_n (lv' := [(1, .int 0), (0, .ref a0)]) X.1 X.2.1 dX4_layOut_1 rfl hl (by decide) rfl (fun ls hl => ?_)
  refine lv_iconst (v := 0) X.1 X.2.1 dX4_layOut_2 (by decide +kernel) ?_
  refine lv_istore_n (lv' := [(2, .int 0), (1, .int 0), (0, .ref a0)]) X.1 X.2.1 dX4_layOut_3 rfl hl (by decide) rfl (fun ls hl => ?_)
  refine lv_iconst (v := 0) X.1 X.2.1 dX4_layOut_4 (by decide +kernel) ?_
  refine lv_istore_n (lv' := [(3, .int 0), (2, .int 0), (1, .int 0), (0, .ref a0)]) X.1 X.2.1 dX4_layOut_5 rfl hl (by decide) rfl (fun ls hl => ?_)
  have B1_6 : ∀ (N : Nat) (locs : List Loc) (ls : Array Slot) (z1_1 : Int32) (z1_2 : Int32) (z1_3 : Int32), va_S (fun q : Nat => base ≤ q) s.heap s.heap locs → lv_has ls 4 [(0, .ref a0), (1, .int z1_1), (2, .int z1_2), (3, .int z1_3)] → iv 0 1073741823 z1_1 → iv 0 1073741823 z1_2 → iv 0 30 z1_3 → (31 - z1_3.toInt).toNat ≤ N → W p l e (headSpec (Cond.code yX4_layOut cX4_layOut 4 none :: sg_tbl) ({ frames := 1, cells := 0, slots := 0, locals := 25 })).room s m #[.ref a0] below meth c s.heap locs 0 0 (MQ below (va_Qv (fun (_ : Unit) => True) (fun _ => sgB (KT P) D vwCl base tys ad ks) (fun q : Nat => base ≤ q)) #[.ref a0] s 0 0 (fun q : Nat => base ≤ q)) (F0 m 6 ls []) := by
    intro N; induction N with
    | zero =>
      intro locs ls z1_1 z1_2 z1_3 hS hl hz1_1 hz1_2 hz1_3 hN
      exact absurd hN (by have := iv_up hz1_3; omega)
    | succ N ih1 =>
      intro locs ls z1_1 z1_2 z1_3 hS hl hz1_1 hz1_2 hz1_3 hN1
      refine lv_iload_n X.1 X.2.1 dX4_layOut_6 rfl (lv_at hl 3 rfl) ?_
      refine lv_aload_n X.1 X.2.1 dX4_layOut_7 rfl (lv_at hl 0 rfl) ?_
      refine gf_X4_5 X hK hG h0 wl_1_221 dX4_layOut_8 (fun f2 hf2 kf2 => ?_)
      refine lv_icmp_ge (tgt := 54) X.1 X.2.1 dX4_layOut_11 (by decide) (fun c3 => ?_) (fun c3 => ?_)
      · refine lv_aload_n X.1 X.2.1 dX4_layOut_54 rfl (lv_at hl 0 rfl) ?_
        refine lv_iconst (v := 0) X.1 X.2.1 dX4_layOut_55 (by decide +kernel) ?_
        refine lv_iconst (v := 1) X.1 X.2.1 dX4_layOut_56 (by decide +kernel) ?_
        refine lv_iload_n X.1 X.2.1 dX4_layOut_57 rfl (lv_at hl 1 rfl) ?_
        refine ca_X4_setWay X hK hG hC hS hb a0 h0 0 (iv_of (iv_c 0 (a := 0) (b := 0) (by decide +kernel)) (a' := 0) (b' := 3) (by decide +kernel)) 1 z1_1 wl_3_185 hl.1 (rest := []) rfl (Nat.le_of_ble_eq_true rfl) ⟨Nat.le_of_ble_eq_true rfl, Nat.le_of_ble_eq_true rfl⟩ ⟨Nat.le_of_ble_eq_true rfl, Nat.le_of_ble_eq_true rfl⟩ dX4_layOut_58 (fun H locs hG hS => ?_)
        refine lv_aload_n X.1 X.2.1 dX4_layOut_61 rfl (lv_at hl 0 rfl) ?_
        refine lv_iconst (v := 1) X.1 X.2.1 dX4_layOut_62 (by decide +kernel) ?_
        refine lv_aload_n X.1 X.2.1 dX4_layOut_63 rfl (lv_at hl 0 rfl) ?_
        refine gf_X4_7 X hK hG h0 wl_1_225 dX4_layOut_64 (fun f5 hf5 kf5 => ?_)
        refine lv_aload_n X.1 X.2.1 dX4_layOut_67 rfl (lv_at hl 0 rfl) ?_
        refine gf_X4_6 X hK hG h0 wl_1_222 dX4_layOut_68 (fun f6 hf6 kf6 => ?_)
        refine ca_X4_setWay X hK hG hC hS hb a0 h0 1 (iv_of (iv_c 1 (a := 1) (b := 1) (by decide +kernel)) (a' := 0) (b' := 3) (by decide +kernel)) f5 f6 wl_3_185 hl.1 (rest := []) rfl (Nat.le_of_ble_eq_true rfl) ⟨Nat.le_of_ble_eq_true rfl, Nat.le_of_ble_eq_true rfl⟩ ⟨Nat.le_of_ble_eq_true rfl, Nat.le_of_ble_eq_true rfl⟩ dX4_layOut_71 (fun H locs hG hS => ?_)
        refine lv_aload_n X.1 X.2.1 dX4_layOut_74 rfl (lv_at hl 0 rfl) ?_
        refine lv_iconst (v := 2) X.1 X.2.1 dX4_layOut_75 (by decide +kernel) ?_
        refine lv_aload_n X.1 X.2.1 dX4_layOut_76 rfl (lv_at hl 0 rfl) ?_
        refine gf_X4_7 X hK hG h0 wl_1_225 dX4_layOut_77 (fun f8 hf8 kf8 => ?_)
        refine lv_iconst (v := 1) X.1 X.2.1 dX4_layOut_80 (by decide +kernel) ?_
        refine lv_iadd X.1 X.2.1 dX4_layOut_81 ?_
        refine lv_topi (fun f9 ef9 => ?_)
        refine lv_iload_n X.1 X.2.1 dX4_layOut_82 rfl (lv_at hl 1 rfl) ?_
        refine ca_X4_setWay X hK hG hC hS hb a0 h0 2 (iv_of (iv_c 2 (a := 2) (b := 2) (by decide +kernel)) (a' := 0) (b' := 3) (by decide +kernel)) f9 z1_1 wl_3_185 hl.1 (rest := []) rfl (Nat.le_of_ble_eq_true rfl) ⟨Nat.le_of_ble_eq_true rfl, Nat.le_of_ble_eq_true rfl⟩ ⟨Nat.le_of_ble_eq_true rfl, Nat.le_of_ble_eq_true rfl⟩ dX4_layOut_83 (fun H locs hG hS => ?_)
        refine lv_aload_n X.1 X.2.1 dX4_layOut_86 rfl (lv_at hl 0 rfl) ?_
        refine lv_iconst (v := 3) X.1 X.2.1 dX4_layOut_87 (by decide +kernel) ?_
        refine lv_aload_n X.1 X.2.1 dX4_layOut_88 rfl (lv_at hl 0 rfl) ?_
        refine gf_X4_7 X hK hG h0 wl_1_225 dX4_layOut_89 (fun f11 hf11 kf11 => ?_)
        refine lv_iconst (v := 1) X.1 X.2.1 dX4_layOut_92 (by decide +kernel) ?_
        refine lv_isub X.1 X.2.1 dX4_layOut_93 ?_
        refine lv_topi (fun f12 ef12 => ?_)
        refine lv_iload_n X.1 X.2.1 dX4_layOut_94 rfl (lv_at hl 2 rfl) ?_
        refine ca_X4_setWay X hK hG hC hS hb a0 h0 3 (iv_of (iv_c 3 (a := 3) (b := 3) (by decide +kernel)) (a' := 0) (b' := 3) (by decide +kernel)) f12 z1_2 wl_3_185 hl.1 (rest := []) rfl (Nat.le_of_ble_eq_true rfl) ⟨Nat.le_of_ble_eq_true rfl, Nat.le_of_ble_eq_true rfl⟩ ⟨Nat.le_of_ble_eq_true rfl, Nat.le_of_ble_eq_true rfl⟩ dX4_layOut_95 (fun H locs hG hS => ?_)
        refine lv_iconst (v := 0) X.1 X.2.1 dX4_layOut_98 (by decide +kernel) ?_
        refine lv_istore_n (lv' := [(3, .int 0), (0, .ref a0), (1, .int z1_1), (2, .int z1_2)]) X.1 X.2.1 dX4_layOut_99 rfl hl (by decide) rfl (fun ls hl => ?_)
        have B14_100 : ∀ (N : Nat) (H : Heap) (locs : List Loc) (ls : Array Slot) (z14_3 : Int32), sgG (KT P) D vwCl (fun q : Nat => base ≤ q) tys ad ks H → va_S (fun q : Nat => base ≤ q) s.heap H locs → lv_has ls 4 [(0, .ref a0), (3, .int z14_3)] → iv 0 30 z14_3 → (31 - z14_3.toInt).toNat ≤ N → W p l e (headSpec (Cond.code yX4_layOut cX4_layOut 4 none :: sg_tbl) ({ frames := 1, cells := 0, slots := 0, locals := 25 })).room s m #[.ref a0] below meth c H locs 0 0 (MQ below (va_Qv (fun (_ : Unit) => True) (fun _ => sgB (KT P) D vwCl base tys ad ks) (fun q : Nat => base ≤ q)) #[.ref a0] s 0 0 (fun q : Nat => base ≤ q)) (F0 m 100 ls []) := by
          intro N; induction N with
          | zero =>
            intro H locs ls z14_3 hG hS hl hz14_3 hN
            exact absurd hN (by have := iv_up hz14_3; omega)
          | succ N ih14 =>
            intro H locs ls z14_3 hG hS hl hz14_3 hN14
            refine lv_iload_n X.1 X.2.1 dX4_layOut_100 rfl (lv_at hl 1 rfl) ?_
            refine lv_aload_n X.1 X.2.1 dX4_layOut_101 rfl (lv_at hl 0 rfl) ?_
            refine gf_X4_5 X hK hG h0 wl_1_221 dX4_layOut_102 (fun f15 hf15 kf15 => ?_)
            refine lv_icmp_ge (tgt := 127) X.1 X.2.1 dX4_layOut_105 (by decide) (fun c16 => ?_) (fun c16 => ?_)
            · exact sg_vret X hr hlk hb hK hC hG hS dX4_layOut_127
            · refine lv_aload_n X.1 X.2.1 dX4_layOut_108 rfl (lv_at hl 0 rfl) ?_
              refine gf_X4_1 X hK hG h0 wl_1_212 dX4_layOut_109 (fun q17 hq17 kq17 => ?_)
              refine lv_iload_n X.1 X.2.1 dX4_layOut_112 rfl (lv_at hl 1 rfl) ?_
              refine lv_aload_n X.1 X.2.1 dX4_layOut_113 rfl (lv_at hl 0 rfl) ?_
              refine lv_iconst (v := 1) X.1 X.2.1 dX4_layOut_114 (by decide +kernel) ?_
              refine lv_iload_n X.1 X.2.1 dX4_layOut_115 rfl (lv_at hl 1 rfl) ?_
              refine lv_ishl X.1 X.2.1 dX4_layOut_116 ?_
              refine lv_topi (fun f18 ef18 => ?_)
              refine ca_X4_besideAnyWay X hK hG hC (fun _ h => h) hS hb a0 h0 f18 wl_3_189 hl.1 (rest := [.int z14_3, .ref q17]) rfl (Nat.le_of_ble_eq_true rfl) ⟨Nat.le_of_ble_eq_true rfl, Nat.le_of_ble_eq_true rfl⟩ ⟨Nat.le_of_ble_eq_true rfl, Nat.le_of_ble_eq_true rfl⟩ dX4_layOut_117 (fun f19 locs hf19 hS => ?_)
              refine as_22 X hK hG hS hq17 (iv_vpin (iv_lt (b' := 29) (iv_gt_of c16) hz14_3 hf15 (by decide +kernel)) (by decide +kernel)) ⟨_, rfl, (iv_top _)⟩ dX4_layOut_120 (fun H locs hG hS ru20 => ?_)
              obtain ⟨y21, ey21⟩ : ∃ y : Int32, y = z14_3 + Int32.ofInt 1 := ⟨_, rfl⟩
              refine lv_iinc (v := y21) (lv' := [(3, .int y21), (0, .ref a0)]) X.1 X.2.1 dX4_layOut_121 hl (k := 1) rfl ey21.symm (by decide) rfl (fun ls hl => ?_)
              refine lv_goto (tgt := 100) X.1 X.2.1 dX4_layOut_124 (by decide) ?_
              exact ih14 H _ _ y21 hG hS (lv_sub hl [1, 0] rfl) (iv_of (iv_add (a' := 1) (b' := 30) ey21 (iv_lt (b' := 29) (iv_gt_of c16) hz14_3 hf15 (by decide +kernel)) (iv_c _ (a := 1) (b := 1) (by decide +kernel)) (by decide +kernel)) (a' := 0) (b' := 30) (by decide +kernel)) (iv_stepU ey21 (iv_lt (b' := 29) (iv_gt_of c16) hz14_3 hf15 (by decide +kernel)) (by decide +kernel) hN14)
        exact B14_100 _ H _ _ 0 hG hS (lv_sub hl [1, 0] rfl) (iv_of (iv_c 0 (a := 0) (b := 0) (by decide +kernel)) (a' := 0) (b' := 30) (by decide +kernel)) (Nat.le_refl _)
      · refine lv_aload_n X.1 X.2.1 dX4_layOut_14 rfl (lv_at hl 0 rfl) ?_
        refine lv_iload_n X.1 X.2.1 dX4_layOut_15 rfl (lv_at hl 3 rfl) ?_
        refine ca_X4_column X hK hG hC (fun _ h => h) hS hb a0 h0 z1_3 wl_3_181 hl.1 (rest := []) rfl (Nat.le_of_ble_eq_true rfl) ⟨Nat.le_of_ble_eq_true rfl, Nat.le_of_ble_eq_true rfl⟩ ⟨Nat.le_of_ble_eq_true rfl, Nat.le_of_ble_eq_true rfl⟩ dX4_layOut_16 (fun f22 locs hf22 hS => ?_)
        refine lv_aload_n X.1 X.2.1 dX4_layOut_19 rfl (lv_at hl 0 rfl) ?_
        refine gf_X4_7 X hK hG h0 wl_1_225 dX4_layOut_20 (fun f23 hf23 kf23 => ?_)
        refine lv_iconst (v := 1) X.1 X.2.1 dX4_layOut_23 (by decide +kernel) ?_
        refine lv_isub X.1 X.2.1 dX4_layOut_24 ?_
        refine lv_topi (fun f24 ef24 => ?_)
        have B26_34 : ∀ (locs : List Loc) (ls : Array Slot) (z26_1 : Int32), va_S (fun q : Nat => base ≤ q) s.heap s.heap locs → lv_has ls 4 [(0, .ref a0), (1, .int z26_1), (2, .int z1_2), (3, .int z1_3)] → iv 0 1073741823 z26_1 → W p l e (headSpec (Cond.code yX4_layOut cX4_layOut 4 none :: sg_tbl) ({ frames := 1, cells := 0, slots := 0, locals := 25 })).room s m #[.ref a0] below meth c s.heap locs 0 0 (MQ below (va_Qv (fun (_ : Unit) => True) (fun _ => sgB (KT P) D vwCl base tys ad ks) (fun q : Nat => base ≤ q)) #[.ref a0] s 0 0 (fun q : Nat => base ≤ q)) (F0 m 34 ls []) := by
          intro locs ls z26_1 hS hl hz26_1
          refine lv_aload_n X.1 X.2.1 dX4_layOut_34 rfl (lv_at hl 0 rfl) ?_
          refine lv_iload_n X.1 X.2.1 dX4_layOut_35 rfl (lv_at hl 3 rfl) ?_
          refine ca_X4_column X hK hG hC (fun _ h => h) hS hb a0 h0 z1_3 wl_3_181 hl.1 (rest := []) rfl (Nat.le_of_ble_eq_true rfl) ⟨Nat.le_of_ble_eq_true rfl, Nat.le_of_ble_eq_true rfl⟩ ⟨Nat.le_of_ble_eq_true rfl, Nat.le_of_ble_eq_true rfl⟩ dX4_layOut_36 (fun f27 locs hf27 hS => ?_)
          have B29_48 : ∀ (locs : List Loc) (ls : Array Slot) (z29_2 : Int32), va_S (fun q : Nat => base ≤ q) s.heap s.heap locs → lv_has ls 4 [(0, .ref a0), (1, .int z26_1), (2, .int z29_2), (3, .int z1_3)] → iv 0 1073741823 z29_2 → W p l e (headSpec (Cond.code yX4_layOut cX4_layOut 4 none :: sg_tbl) ({ frames := 1, cells := 0, slots := 0, locals := 25 })).room s m #[.ref a0] below meth c s.heap locs 0 0 (MQ below (va_Qv (fun (_ : Unit) => True) (fun _ => sgB (KT P) D vwCl base tys ad ks) (fun q : Nat => base ≤ q)) #[.ref a0] s 0 0 (fun q : Nat => base ≤ q)) (F0 m 48 ls []) := by
            intro locs ls z29_2 hS hl hz29_2
            obtain ⟨y30, ey30⟩ : ∃ y : Int32, y = z1_3 + Int32.ofInt 1 := ⟨_, rfl⟩
            refine lv_iinc (v := y30) (lv' := [(3, .int y30), (0, .ref a0), (1, .int z26_1), (2, .int z29_2)]) X.1 X.2.1 dX4_layOut_48 hl (k := 3) rfl ey30.symm (by decide) rfl (fun ls hl => ?_)
            refine lv_goto (tgt := 6) X.1 X.2.1 dX4_layOut_51 (by decide) ?_
            exact ih1 _ _ z26_1 z29_2 y30 hS (lv_sub hl [1, 2, 3, 0] rfl) hz26_1 hz29_2 (iv_of (iv_add (a' := 1) (b' := 30) ey30 (iv_lt (b' := 29) (iv_gt_of c3) hz1_3 hf2 (by decide +kernel)) (iv_c _ (a := 1) (b := 1) (by decide +kernel)) (by decide +kernel)) (a' := 0) (b' := 30) (by decide +kernel)) (iv_stepU ey30 (iv_lt (b' := 29) (iv_gt_of c3) hz1_3 hf2 (by decide +kernel)) (by decide +kernel) hN1)
          refine lv_if_le (tgt := 48) X.1 X.2.1 dX4_layOut_39 (by decide) (fun c28 => ?_) (fun c28 => ?_)
          · exact B29_48 _ _ z1_2 hS (lv_sub hl [0, 1, 2, 3] rfl) hz1_2
          · refine lv_iload_n X.1 X.2.1 dX4_layOut_42 rfl (lv_at hl 2 rfl) ?_
            refine lv_iconst (v := 1) X.1 X.2.1 dX4_layOut_43 (by decide +kernel) ?_
            refine lv_iload_n X.1 X.2.1 dX4_layOut_44 rfl (lv_at hl 3 rfl) ?_
            refine lv_ishl X.1 X.2.1 dX4_layOut_45 ?_
            refine lv_topi (fun f31 ef31 => ?_)
            refine lv_ior X.1 X.2.1 dX4_layOut_46 ?_
            refine lv_topi (fun f32 ef32 => ?_)
            refine lv_istore_n (lv' := [(2, .int f32), (0, .ref a0), (1, .int z26_1), (3, .int z1_3)]) X.1 X.2.1 dX4_layOut_47 rfl hl (by decide) rfl (fun ls hl => ?_)
            exact B29_48 _ _ f32 hS (lv_sub hl [1, 2, 0, 3] rfl) (iv_of (iv_or 30 ef32 hz1_2 (sg_shl1 ef31 (iv_lt (b' := 29) (iv_gt_of c3) hz1_3 hf2 (by decide +kernel)) (by decide +kernel)) (by decide +kernel)) (a' := 0) (b' := 1073741823) (by decide +kernel))
        refine lv_icmp_ge (tgt := 34) X.1 X.2.1 dX4_layOut_25 (by decide) (fun c25 => ?_) (fun c25 => ?_)
        · exact B26_34 _ _ z1_1 hS (lv_sub hl [0, 1, 2, 3] rfl) hz1_1
        · refine lv_iload_n X.1 X.2.1 dX4_layOut_28 rfl (lv_at hl 1 rfl) ?_
          refine lv_iconst (v := 1) X.1 X.2.1 dX4_layOut_29 (by decide +kernel) ?_
          refine lv_iload_n X.1 X.2.1 dX4_layOut_30 rfl (lv_at hl 3 rfl) ?_
          refine lv_ishl X.1 X.2.1 dX4_layOut_31 ?_
          refine lv_topi (fun f33 ef33 => ?_)
          refine lv_ior X.1 X.2.1 dX4_layOut_32 ?_
          refine lv_topi (fun f34 ef34 => ?_)
          refine lv_istore_n (lv' := [(1, .int f34), (0, .ref a0), (2, .int z1_2), (3, .int z1_3)]) X.1 X.2.1 dX4_layOut_33 rfl hl (by decide) rfl (fun ls hl => ?_)
          exact B26_34 _ _ f34 hS (lv_sub hl [1, 0, 2, 3] rfl) (iv_of (iv_or 30 ef34 hz1_1 (sg_shl1 ef33 (iv_lt (b' := 29) (iv_gt_of c3) hz1_3 hf2 (by decide +kernel)) (by decide +kernel)) (by decide +kernel)) (a' := 0) (b' := 1073741823) (by decide +kernel))
  exact B1_6 _ _ _ 0 0 0 hS (lv_sub hl [3, 2, 1, 0] rfl) (iv_of (iv_c 0 (a := 0) (b := 0) (by decide +kernel)) (a' := 0) (b' := 1073741823) (by decide +kernel)) (iv_of (iv_c 0 (a := 0) (b := 0) (by decide +kernel)) (a' := 0) (b' := 1073741823) (by decide +kernel)) (iv_of (iv_c 0 (a := 0) (b := 0) (by decide +kernel)) (a' := 0) (b' := 30) (by decide +kernel)) (Nat.le_refl _)

theorem ca_X4_layOut   (X : CallFix p m c cc nL s args sg_tbl own) (hK : va_K D vwCl tys s) (hG : sgG (KT P) D vwCl (fun q : Nat => base ≤ q) tys ad ks H) (hC : sgC base s) (hS : va_S (fun q : Nat => base ≤ q) s.heap H locs) (hb : base ≤ s.heap.size) (a0 : Nat) (h0 : isK ad ks 4 a0) (hl : Cond.methodLink own index yX4_layOut ∈ sg_tbl) (hsize : ls.size = nL) (hst : st0 = [].reverse ++ .ref a0 :: rest) (hW : (rest.map fun v => v.category).sum ≤ 8) (hR : 2 ≤ R.frames ∧ 48 ≤ R.locals) (hf : cells ≤ R.cells ∧ slots ≤ R.slots) (hdg : decode cc pc = .ok (.invokevirtual index, 3)) (kk : ∀ (H1 : Heap) (locs1 : List Loc), sgG (KT P) D vwCl (fun q : Nat => base ≤ q) tys ad ks H1 → va_S (fun q : Nat => base ≤ q) s.heap H1 locs1 → W p l e R s m args below meth c H1 locs1 cells slots Q (F0 m (pc + 3) ls rest)) : W p l e R s m args below meth c H locs cells slots Q (F0 m pc ls st0) :=
  sg_callVv X hK hG hC hS hb (m_X4_layOut l a0 h0) h0 (k := 4) (ci := 4) rfl (C := RX4) (T := TX4) (N := 15) rfl wl_3_180 wl_1_7 wl_3_179 wl_0_6 (n := 0) (by decide +kernel) rfl rfl rfl hl hsize hst hW hR hf hdg kk

set_option maxHeartbeats 8000000 in
set_option maxRecDepth 100000 in
theorem m_X6_comparison (l : Launch) {D : va_G} {base : Nat} {tys : List (ClassId × FieldType)} {ad ks : List Nat} {P : sgPm} {Hx : Heap} (x0 : Int32) : sgPi l (KT P) D vwCl base tys ad ks Hx yX6_comparison cX6_comparison 1 (some .int) ({ frames := 0, cells := 0, slots := 0, locals := 0 }) [.int x0] (fun r : Int32 => True) := by
  refine sg_ofP (Pq := fun Hx => va_Qi (fun r (_ : Unit) => (fun r : Int32 => True) r) (fun _ t => t.heap = Hx) (fun _ : Nat => False)) (by decide +kernel) (Nat.le_of_ble_eq_true rfl) (fun p e s m below meth c X hr hlk hb hK hC hG ls hl => ?_)
  have hS : va_S (fun _ : Nat => False) s.heap s.heap [] := va_S.rf
  have hl : lv_has ls 1 [(0, .int x0)] := hl
  refine lv_iload_n X.1 X.2.1 dX6_comparison_0 rfl (lv_at hl 0 rfl) ?_
  refine lv_bipush (v := 61) X.1 X.2.1 dX6_comparison_1 (by decide +kernel) ?_
  refine lv_icmp_ne (tgt := 11) X.1 X.2.1 dX6_comparison_3 (by decide) (fun c1 => ?_) (fun c1 => ?_)
  · refine lv_iload_n X.1 X.2.1 dX6_comparison_11 rfl (lv_at hl 0 rfl) ?_
    refine lv_bipush (v := 60) X.1 X.2.1 dX6_comparison_12 (by decide +kernel) ?_
    refine lv_icmp_ne (tgt := 22) X.1 X.2.1 dX6_comparison_14 (by decide) (fun c2 => ?_) (fun c2 => ?_)
    · refine lv_iload_n X.1 X.2.1 dX6_comparison_22 rfl (lv_at hl 0 rfl) ?_
      refine lv_bipush (v := 62) X.1 X.2.1 dX6_comparison_23 (by decide +kernel) ?_
      refine lv_icmp_ne (tgt := 33) X.1 X.2.1 dX6_comparison_25 (by decide) (fun c3 => ?_) (fun c3 => ?_)
      · refine lv_iconst (v := 0) X.1 X.2.1 dX6_comparison_33 (by decide +kernel) ?_
        exact sg_iretP X hr hlk hS trivial dX6_comparison_34
      · refine lv_bipush (v := (-16)) X.1 X.2.1 dX6_comparison_28 (by decide +kernel) ?_
        refine lv_goto (tgt := 34) X.1 X.2.1 dX6_comparison_30 (by decide) ?_
        exact sg_iretP X hr hlk hS trivial dX6_comparison_34
    · refine lv_bipush (v := (-15)) X.1 X.2.1 dX6_comparison_17 (by decide +kernel) ?_
      refine lv_goto (tgt := 34) X.1 X.2.1 dX6_comparison_19 (by decide) ?_
      exact sg_iretP X hr hlk hS trivial dX6_comparison_34
  · refine lv_bipush (v := (-14)) X.1 X.2.1 dX6_comparison_6 (by decide +kernel) ?_
    refine lv_goto (tgt := 34) X.1 X.2.1 dX6_comparison_8 (by decide) ?_
    exact sg_iretP X hr hlk hS trivial dX6_comparison_34

theorem ca_X6_comparison   (X : CallFix p m c cc nL s args sg_tbl own) (hK : va_K D vwCl tys s) (hG : sgG (KT P) D vwCl (fun q : Nat => base ≤ q) tys ad ks H) (hC : sgC base s) (hA : ∀ q : Nat, A q → base ≤ q) (hS : va_S A s.heap H locs) (hb : base ≤ s.heap.size) (x0 : Int32) (hl : Cond.methodLink own index yX6_comparison ∈ sg_tbl) (hsize : ls.size = nL) (hst : st0 = [.int x0].reverse ++ rest) (hW : (rest.map fun v => v.category).sum ≤ 8) (hR : 1 ≤ R.frames ∧ 20 ≤ R.locals) (hf : cells ≤ R.cells ∧ slots ≤ R.slots) (hdg : decode cc pc = .ok (.invokestatic index, 3)) (kk : ∀ (r : Int32) (locs1 : List Loc), (fun r : Int32 => True) r → va_S A s.heap H locs1 → W p l e R s m args below meth c H locs1 cells slots Q (F0 m (pc + 3) ls (.int r :: rest))) : W p l e R s m args below meth c H locs cells slots Q (F0 m pc ls st0) :=
  sg_callPSi X hK hG hC hA hS hb (m_X6_comparison l x0) wl_4_0 wl_1_3 wl_3_239 (n := 1) (by decide +kernel) rfl rfl rfl hl hsize hst hW hR hf hdg kk

set_option maxHeartbeats 8000000 in
set_option maxRecDepth 100000 in
theorem m_X6_put (l : Launch) {D : va_G} {base : Nat} {tys : List (ClassId × FieldType)} {ad ks : List Nat} {P : sgPm} (a0 : Nat) (h0 : isK ad ks 6 a0) (x1 : Int32) : sgMv l (KT P) D vwCl base tys ad ks yX6_put cX6_put 2 none ({ frames := 0, cells := 0, slots := 0, locals := 0 }) [.ref a0, .int x1] := by
  refine sg_ofW (by decide +kernel) (Nat.le_of_ble_eq_true rfl) (fun p e s m below meth c X hr hlk hb hK hC hG ls hl => ?_)
  have hS : va_S (fun q : Nat => base ≤ q) s.heap s.heap [] := va_S.rf
  have hl : lv_has ls 2 [(0, .ref a0), (1, .int x1)] := hl
  refine lv_aload_n X.1 X.2.1 dX6_put_0 rfl (lv_at hl 0 rfl) ?_
  refine gf_X6_4 X hK hG h0 wl_1_70 dX6_put_1 (fun f1 hf1 kf1 => ?_)
  refine lv_aload_n X.1 X.2.1 dX6_put_4 rfl (lv_at hl 0 rfl) ?_
  refine gf_X6_0 X hK hG h0 wl_1_66 dX6_put_5 (fun q2 hq2 kq2 => ?_)
  refine sg_alen X hK hG hq2 (k := 29) rfl (v := 240) rfl dX6_put_8 ?_
  refine lv_icmp_ge (tgt := 32) X.1 X.2.1 dX6_put_9 (by decide) (fun c3 => ?_) (fun c3 => ?_)
  · exact sg_vret X hr hlk hb hK hC hG hS dX6_put_32
  · refine lv_aload_n X.1 X.2.1 dX6_put_12 rfl (lv_at hl 0 rfl) ?_
    refine gg_X6_0 X hK hG h0 wl_1_66 kq2 dX6_put_13 ?_
    refine lv_aload_n X.1 X.2.1 dX6_put_16 rfl (lv_at hl 0 rfl) ?_
    refine gg_X6_4 X hK hG h0 wl_1_70 kf1 dX6_put_17 ?_
    refine lv_iload_n X.1 X.2.1 dX6_put_20 rfl (lv_at hl 1 rfl) ?_
    refine as_29 X hK hG hS hq2 (iv_vpin (iv_lt (b' := 239) (iv_gt_of c3) hf1 (iv_c 240 (a := 240) (b := 240) (by decide +kernel)) (by decide +kernel)) (by decide +kernel)) ⟨_, rfl, (iv_top _)⟩ dX6_put_21 (fun H locs hG hS ru4 => ?_)
    refine lv_aload_n X.1 X.2.1 dX6_put_22 rfl (lv_at hl 0 rfl) ?_
    refine lv_dup X.1 X.2.1 dX6_put_23 rfl ?_
    refine gg_X6_4 X hK hG h0 wl_1_70 (ru4 _ _ _ _ _ _ _ h0 rfl rfl (by decide) (fun z => z.elim) kf1) dX6_put_24 ?_
    refine lv_iconst (v := 1) X.1 X.2.1 dX6_put_27 (by decide +kernel) ?_
    refine lv_iadd X.1 X.2.1 dX6_put_28 ?_
    refine lv_topi (fun f5 ef5 => ?_)
    refine pf_X6_4 X hK hG hS h0 wl_1_70 ⟨_, rfl, (iv_of (iv_add (a' := 1) (b' := 240) ef5 (iv_lt (b' := 239) (iv_gt_of c3) hf1 (iv_c 240 (a := 240) (b := 240) (by decide +kernel)) (by decide +kernel)) (iv_c 1 (a := 1) (b := 1) (by decide +kernel)) (by decide +kernel)) (a' := 0) (b' := 240) (by decide +kernel))⟩ dX6_put_29 (fun H locs hG hS ku6 ru6 => ?_)
    exact sg_vret X hr hlk hb hK hC hG hS dX6_put_32

theorem ca_X6_put   (X : CallFix p m c cc nL s args sg_tbl own) (hK : va_K D vwCl tys s) (hG : sgG (KT P) D vwCl (fun q : Nat => base ≤ q) tys ad ks H) (hC : sgC base s) (hS : va_S (fun q : Nat => base ≤ q) s.heap H locs) (hb : base ≤ s.heap.size) (a0 : Nat) (h0 : isK ad ks 6 a0) (x1 : Int32) (hl : Cond.methodLink own index yX6_put ∈ sg_tbl) (hsize : ls.size = nL) (hst : st0 = [.int x1].reverse ++ .ref a0 :: rest) (hW : (rest.map fun v => v.category).sum ≤ 8) (hR : 1 ≤ R.frames ∧ 21 ≤ R.locals) (hf : cells ≤ R.cells ∧ slots ≤ R.slots) (hdg : decode cc pc = .ok (.invokevirtual index, 3)) (kk : ∀ (H1 : Heap) (locs1 : List Loc), sgG (KT P) D vwCl (fun q : Nat => base ≤ q) tys ad ks H1 → va_S (fun q : Nat => base ≤ q) s.heap H1 locs1 → W p l e R s m args below meth c H1 locs1 cells slots Q (F0 m (pc + 3) ls rest)) : W p l e R s m args below meth c H locs cells slots Q (F0 m pc ls st0) :=
  sg_callVv X hK hG hC hS hb (m_X6_put l a0 h0 x1) h0 (k := 6) (ci := 6) rfl (C := RX6) (T := TX6) (N := 7) rfl wl_3_235 wl_1_3 wl_3_234 wl_0_13 (n := 1) (by decide +kernel) rfl rfl rfl hl hsize hst hW hR hf hdg kk

set_option maxHeartbeats 8000000 in
set_option maxRecDepth 100000 in
theorem m_X6_joined (l : Launch) {D : va_G} {base : Nat} {tys : List (ClassId × FieldType)} {ad ks : List Nat} {P : sgPm} {Hx : Heap} (x0 : Int32) (x1 : Int64) (x2 : Int64) : sgPi l (KT P) D vwCl base tys ad ks Hx yX6_joined cX6_joined 7 (some .int) ({ frames := 0, cells := 0, slots := 0, locals := 0 }) [.int x0, .long x1, .long x2] (fun r : Int32 => True) := by
  refine sg_ofP (Pq := fun Hx => va_Qi (fun r (_ : Unit) => (fun r : Int32 => True) r) (fun _ t => t.heap = Hx) (fun _ : Nat => False)) (by decide +kernel) (Nat.le_of_ble_eq_true rfl) (fun p e s m below meth c X hr hlk hb hK hC hG ls hl => ?_)
  have hS : va_S (fun _ : Nat => False) s.heap s.heap [] := va_S.rf
  have hl : lv_has ls 7 [(0, .int x0), (1, .long x1), (3, .long x2)] := hl
  refine lv_iload_n X.1 X.2.1 dX6_joined_0 rfl (lv_at hl 0 rfl) ?_
  have B1_162 : ∀ (locs : List Loc) (ls : Array Slot) (z1_5 : Int64), va_S (fun _ : Nat => False) s.heap s.heap locs → lv_has ls 7 [(5, .long z1_5)] → W p l e (headSpec (Cond.code yX6_joined cX6_joined 7 (some .int) :: sg_tbl) ({ frames := 0, cells := 0, slots := 0, locals := 0 })).room s m #[.int x0, .long x1, .long x2] below meth c s.heap locs 0 0 (MQ below (va_Qi (fun r (_ : Unit) => (fun r : Int32 => True) r) (fun _ t => t.heap = s.heap) (fun _ : Nat => False)) #[.int x0, .long x1, .long x2] s 0 0 (fun _ : Nat => False)) (F0 m 162 ls []) := by
    intro locs ls z1_5 hS hl
    refine lv_lload X.1 X.2.1 dX6_joined_162 (lv_at hl 0 rfl) ?_
    refine lv_ldc2 X.1 X.2.1 X.2.2.2.1 (X.2.2.2.2 _ wl_4_137) dX6_joined_164 ?_
    refine W.lcmp X.1 X.2.1 dX6_joined_167 ?_
    refine lv_topi (fun f2 ef2 => ?_)
    refine lv_if_le (tgt := 176) X.1 X.2.1 dX6_joined_168 (by decide) (fun c3 => ?_) (fun c3 => ?_)
    · refine lv_lload X.1 X.2.1 dX6_joined_176 (lv_at hl 0 rfl) ?_
      refine lv_ldc2 X.1 X.2.1 X.2.2.2.1 (X.2.2.2.2 _ wl_4_139) dX6_joined_178 ?_
      refine W.lcmp X.1 X.2.1 dX6_joined_181 ?_
      refine lv_topi (fun f4 ef4 => ?_)
      refine lv_if_ge (tgt := 190) X.1 X.2.1 dX6_joined_182 (by decide) (fun c5 => ?_) (fun c5 => ?_)
      · refine lv_lload X.1 X.2.1 dX6_joined_190 (lv_at hl 0 rfl) ?_
        obtain ⟨f6, ef6⟩ : ∃ y : Int32, y = (z1_5 : Int64).toInt32 := ⟨_, rfl⟩
        refine lv_l2i (v := f6) X.1 X.2.1 dX6_joined_192 ef6.symm ?_
        exact sg_iretP X hr hlk hS trivial dX6_joined_193
      · refine lv_ldc X.1 X.2.1 X.2.2.2.1 (X.2.2.2.2 _ wl_4_140) dX6_joined_185 ?_
        refine lv_goto (tgt := 193) X.1 X.2.1 dX6_joined_187 (by decide) ?_
        exact sg_iretP X hr hlk hS trivial dX6_joined_193
    · refine lv_ldc X.1 X.2.1 X.2.2.2.1 (X.2.2.2.2 _ wl_4_138) dX6_joined_171 ?_
      refine lv_goto (tgt := 193) X.1 X.2.1 dX6_joined_173 (by decide) ?_
      exact sg_iretP X hr hlk hS trivial dX6_joined_193
  by_cases c7 : x0 = (-17)
  · refine lv_tableIn (tgt := 126) (off := 125) X.1 X.2.1 dX6_joined_1 (by rw [c7]; decide +kernel) (by rw [c7]; decide +kernel) (by rw [c7]; rfl) (by decide) ?_
    refine lv_lload_n X.1 X.2.1 dX6_joined_126 rfl (lv_at hl 1 rfl) ?_
    refine lv_lconst (v := 0) X.1 X.2.1 dX6_joined_127 (by decide +kernel) ?_
    refine W.lcmp X.1 X.2.1 dX6_joined_128 ?_
    refine lv_topi (fun f8 ef8 => ?_)
    have B10_142 : ∀ (locs : List Loc) (ls : Array Slot), va_S (fun _ : Nat => False) s.heap s.heap locs → lv_has ls 7 [] → W p l e (headSpec (Cond.code yX6_joined cX6_joined 7 (some .int) :: sg_tbl) ({ frames := 0, cells := 0, slots := 0, locals := 0 })).room s m #[.int x0, .long x1, .long x2] below meth c s.heap locs 0 0 (MQ below (va_Qi (fun r (_ : Unit) => (fun r : Int32 => True) r) (fun _ t => t.heap = s.heap) (fun _ : Nat => False)) #[.int x0, .long x1, .long x2] s 0 0 (fun _ : Nat => False)) (F0 m 142 ls []) := by
      intro locs ls hS hl
      refine lv_iconst (v := 0) X.1 X.2.1 dX6_joined_142 (by decide +kernel) ?_
      exact sg_iretP X hr hlk hS trivial dX6_joined_143
    refine lv_if_eq (tgt := 142) X.1 X.2.1 dX6_joined_129 (by decide) (fun c9 => ?_) (fun c9 => ?_)
    · exact B10_142 _ _ hS (lv_sub hl [] rfl)
    · refine lv_lload_n X.1 X.2.1 dX6_joined_132 rfl (lv_at hl 2 rfl) ?_
      refine lv_lconst (v := 0) X.1 X.2.1 dX6_joined_133 (by decide +kernel) ?_
      refine W.lcmp X.1 X.2.1 dX6_joined_134 ?_
      refine lv_topi (fun f11 ef11 => ?_)
      refine lv_if_eq (tgt := 142) X.1 X.2.1 dX6_joined_135 (by decide) (fun c12 => ?_) (fun c12 => ?_)
      · exact B10_142 _ _ hS (lv_sub hl [] rfl)
      · refine lv_iconst (v := 1) X.1 X.2.1 dX6_joined_138 (by decide +kernel) ?_
        refine lv_goto (tgt := 143) X.1 X.2.1 dX6_joined_139 (by decide) ?_
        exact sg_iretP X hr hlk hS trivial dX6_joined_143
  by_cases c13 : x0 = (-16)
  · refine lv_tableIn (tgt := 114) (off := 113) X.1 X.2.1 dX6_joined_1 (by rw [c13]; decide +kernel) (by rw [c13]; decide +kernel) (by rw [c13]; rfl) (by decide) ?_
    refine lv_lload_n X.1 X.2.1 dX6_joined_114 rfl (lv_at hl 1 rfl) ?_
    refine lv_lload_n X.1 X.2.1 dX6_joined_115 rfl (lv_at hl 2 rfl) ?_
    refine W.lcmp X.1 X.2.1 dX6_joined_116 ?_
    refine lv_topi (fun f14 ef14 => ?_)
    refine lv_if_le (tgt := 124) X.1 X.2.1 dX6_joined_117 (by decide) (fun c15 => ?_) (fun c15 => ?_)
    · refine lv_iconst (v := 0) X.1 X.2.1 dX6_joined_124 (by decide +kernel) ?_
      exact sg_iretP X hr hlk hS trivial dX6_joined_125
    · refine lv_iconst (v := 1) X.1 X.2.1 dX6_joined_120 (by decide +kernel) ?_
      refine lv_goto (tgt := 125) X.1 X.2.1 dX6_joined_121 (by decide) ?_
      exact sg_iretP X hr hlk hS trivial dX6_joined_125
  by_cases c16 : x0 = (-15)
  · refine lv_tableIn (tgt := 102) (off := 101) X.1 X.2.1 dX6_joined_1 (by rw [c16]; decide +kernel) (by rw [c16]; decide +kernel) (by rw [c16]; rfl) (by decide) ?_
    refine lv_lload_n X.1 X.2.1 dX6_joined_102 rfl (lv_at hl 1 rfl) ?_
    refine lv_lload_n X.1 X.2.1 dX6_joined_103 rfl (lv_at hl 2 rfl) ?_
    refine W.lcmp X.1 X.2.1 dX6_joined_104 ?_
    refine lv_topi (fun f17 ef17 => ?_)
    refine lv_if_ge (tgt := 112) X.1 X.2.1 dX6_joined_105 (by decide) (fun c18 => ?_) (fun c18 => ?_)
    · refine lv_iconst (v := 0) X.1 X.2.1 dX6_joined_112 (by decide +kernel) ?_
      exact sg_iretP X hr hlk hS trivial dX6_joined_113
    · refine lv_iconst (v := 1) X.1 X.2.1 dX6_joined_108 (by decide +kernel) ?_
      refine lv_goto (tgt := 113) X.1 X.2.1 dX6_joined_109 (by decide) ?_
      exact sg_iretP X hr hlk hS trivial dX6_joined_113
  by_cases c19 : x0 = (-14)
  · refine lv_tableIn (tgt := 90) (off := 89) X.1 X.2.1 dX6_joined_1 (by rw [c19]; decide +kernel) (by rw [c19]; decide +kernel) (by rw [c19]; rfl) (by decide) ?_
    refine lv_lload_n X.1 X.2.1 dX6_joined_90 rfl (lv_at hl 1 rfl) ?_
    refine lv_lload_n X.1 X.2.1 dX6_joined_91 rfl (lv_at hl 2 rfl) ?_
    refine W.lcmp X.1 X.2.1 dX6_joined_92 ?_
    refine lv_topi (fun f20 ef20 => ?_)
    refine lv_if_ne (tgt := 100) X.1 X.2.1 dX6_joined_93 (by decide) (fun c21 => ?_) (fun c21 => ?_)
    · refine lv_iconst (v := 0) X.1 X.2.1 dX6_joined_100 (by decide +kernel) ?_
      exact sg_iretP X hr hlk hS trivial dX6_joined_101
    · refine lv_iconst (v := 1) X.1 X.2.1 dX6_joined_96 (by decide +kernel) ?_
      refine lv_goto (tgt := 101) X.1 X.2.1 dX6_joined_97 (by decide) ?_
      exact sg_iretP X hr hlk hS trivial dX6_joined_101
  by_cases c22 : x0 = (-13)
  · refine lv_tableIn (tgt := 72) (off := 71) X.1 X.2.1 dX6_joined_1 (by rw [c22]; decide +kernel) (by rw [c22]; decide +kernel) (by rw [c22]; rfl) (by decide) ?_
    refine lv_lload_n X.1 X.2.1 dX6_joined_72 rfl (lv_at hl 2 rfl) ?_
    refine lv_lconst (v := 0) X.1 X.2.1 dX6_joined_73 (by decide +kernel) ?_
    refine W.lcmp X.1 X.2.1 dX6_joined_74 ?_
    refine lv_topi (fun f23 ef23 => ?_)
    have B25_85 : ∀ (locs : List Loc) (ls : Array Slot) (w25_0 : Int64), va_S (fun _ : Nat => False) s.heap s.heap locs → lv_has ls 7 [] → W p l e (headSpec (Cond.code yX6_joined cX6_joined 7 (some .int) :: sg_tbl) ({ frames := 0, cells := 0, slots := 0, locals := 0 })).room s m #[.int x0, .long x1, .long x2] below meth c s.heap locs 0 0 (MQ below (va_Qi (fun r (_ : Unit) => (fun r : Int32 => True) r) (fun _ t => t.heap = s.heap) (fun _ : Nat => False)) #[.int x0, .long x1, .long x2] s 0 0 (fun _ : Nat => False)) (F0 m 85 ls [.long w25_0]) := by
      intro locs ls w25_0 hS hl
      refine lv_lstore (lv' := [(5, .long w25_0)]) X.1 X.2.1 dX6_joined_85 hl (by decide) rfl (fun ls hl => ?_)
      refine lv_goto (tgt := 162) X.1 X.2.1 dX6_joined_87 (by decide) ?_
      exact B1_162 _ _ w25_0 hS (lv_sub hl [0] rfl)
    refine lv_if_ne (tgt := 82) X.1 X.2.1 dX6_joined_75 (by decide) (fun c24 => ?_) (fun c24 => ?_)
    · refine lv_lload_n X.1 X.2.1 dX6_joined_82 rfl (lv_at hl 1 rfl) ?_
      refine lv_lload_n X.1 X.2.1 dX6_joined_83 rfl (lv_at hl 2 rfl) ?_
      refine lv_ldiv X.1 X.2.1 dX6_joined_84 (sg_lcmp0 ef23 c24) ?_
      refine lv_topl (fun g26 eg26 => ?_)
      exact B25_85 _ _ g26 hS (lv_sub hl [] rfl)
    · refine lv_lconst (v := 0) X.1 X.2.1 dX6_joined_78 (by decide +kernel) ?_
      refine lv_goto (tgt := 85) X.1 X.2.1 dX6_joined_79 (by decide) ?_
      exact B25_85 _ _ 0 hS (lv_sub hl [] rfl)
  by_cases c27 : x0 = (-12)
  · refine lv_tableIn (tgt := 64) (off := 63) X.1 X.2.1 dX6_joined_1 (by rw [c27]; decide +kernel) (by rw [c27]; decide +kernel) (by rw [c27]; rfl) (by decide) ?_
    refine lv_lload_n X.1 X.2.1 dX6_joined_64 rfl (lv_at hl 1 rfl) ?_
    refine lv_lload_n X.1 X.2.1 dX6_joined_65 rfl (lv_at hl 2 rfl) ?_
    refine lv_lmul X.1 X.2.1 dX6_joined_66 ?_
    refine lv_topl (fun g28 eg28 => ?_)
    refine lv_lstore (lv' := [(5, .long g28), (0, .int x0), (1, .long x1), (3, .long x2)]) X.1 X.2.1 dX6_joined_67 hl (by decide) rfl (fun ls hl => ?_)
    refine lv_goto (tgt := 162) X.1 X.2.1 dX6_joined_69 (by decide) ?_
    exact B1_162 _ _ g28 hS (lv_sub hl [0] rfl)
  by_cases c29 : x0 = (-11)
  · refine lv_tableIn (tgt := 56) (off := 55) X.1 X.2.1 dX6_joined_1 (by rw [c29]; decide +kernel) (by rw [c29]; decide +kernel) (by rw [c29]; rfl) (by decide) ?_
    refine lv_lload_n X.1 X.2.1 dX6_joined_56 rfl (lv_at hl 1 rfl) ?_
    refine lv_lload_n X.1 X.2.1 dX6_joined_57 rfl (lv_at hl 2 rfl) ?_
    refine lv_lsub X.1 X.2.1 dX6_joined_58 ?_
    refine lv_topl (fun g30 eg30 => ?_)
    refine lv_lstore (lv' := [(5, .long g30), (0, .int x0), (1, .long x1), (3, .long x2)]) X.1 X.2.1 dX6_joined_59 hl (by decide) rfl (fun ls hl => ?_)
    refine lv_goto (tgt := 162) X.1 X.2.1 dX6_joined_61 (by decide) ?_
    exact B1_162 _ _ g30 hS (lv_sub hl [0] rfl)
  by_cases c31 : x0 = (-10)
  · refine lv_tableIn (tgt := 48) (off := 47) X.1 X.2.1 dX6_joined_1 (by rw [c31]; decide +kernel) (by rw [c31]; decide +kernel) (by rw [c31]; rfl) (by decide) ?_
    refine lv_lload_n X.1 X.2.1 dX6_joined_48 rfl (lv_at hl 1 rfl) ?_
    refine lv_lload_n X.1 X.2.1 dX6_joined_49 rfl (lv_at hl 2 rfl) ?_
    refine lv_ladd X.1 X.2.1 dX6_joined_50 ?_
    refine lv_topl (fun g32 eg32 => ?_)
    refine lv_lstore (lv' := [(5, .long g32), (0, .int x0), (1, .long x1), (3, .long x2)]) X.1 X.2.1 dX6_joined_51 hl (by decide) rfl (fun ls hl => ?_)
    refine lv_goto (tgt := 162) X.1 X.2.1 dX6_joined_53 (by decide) ?_
    exact B1_162 _ _ g32 hS (lv_sub hl [0] rfl)
  refine lv_tableOut (tgt := 144) X.1 X.2.1 dX6_joined_1 (by have tc7 := iv_nt (-17) c7 (by decide +kernel); have tc13 := iv_nt (-16) c13 (by decide +kernel); have tc16 := iv_nt (-15) c16 (by decide +kernel); have tc19 := iv_nt (-14) c19 (by decide +kernel); have tc22 := iv_nt (-13) c22 (by decide +kernel); have tc27 := iv_nt (-12) c27 (by decide +kernel); have tc29 := iv_nt (-11) c29 (by decide +kernel); have tc31 := iv_nt (-10) c31 (by decide +kernel); have b1 := ((iv_top x0)).1; have b2 := ((iv_top x0)).2; omega) (by decide) ?_
  refine lv_lload_n X.1 X.2.1 dX6_joined_144 rfl (lv_at hl 1 rfl) ?_
  refine lv_lconst (v := 0) X.1 X.2.1 dX6_joined_145 (by decide +kernel) ?_
  refine W.lcmp X.1 X.2.1 dX6_joined_146 ?_
  refine lv_topi (fun f33 ef33 => ?_)
  have B35_156 : ∀ (locs : List Loc) (ls : Array Slot), va_S (fun _ : Nat => False) s.heap s.heap locs → lv_has ls 7 [] → W p l e (headSpec (Cond.code yX6_joined cX6_joined 7 (some .int) :: sg_tbl) ({ frames := 0, cells := 0, slots := 0, locals := 0 })).room s m #[.int x0, .long x1, .long x2] below meth c s.heap locs 0 0 (MQ below (va_Qi (fun r (_ : Unit) => (fun r : Int32 => True) r) (fun _ t => t.heap = s.heap) (fun _ : Nat => False)) #[.int x0, .long x1, .long x2] s 0 0 (fun _ : Nat => False)) (F0 m 156 ls []) := by
    intro locs ls hS hl
    refine lv_iconst (v := 1) X.1 X.2.1 dX6_joined_156 (by decide +kernel) ?_
    refine lv_goto (tgt := 161) X.1 X.2.1 dX6_joined_157 (by decide) ?_
    exact sg_iretP X hr hlk hS trivial dX6_joined_161
  refine lv_if_ne (tgt := 156) X.1 X.2.1 dX6_joined_147 (by decide) (fun c34 => ?_) (fun c34 => ?_)
  · exact B35_156 _ _ hS (lv_sub hl [] rfl)
  · refine lv_lload_n X.1 X.2.1 dX6_joined_150 rfl (lv_at hl 2 rfl) ?_
    refine lv_lconst (v := 0) X.1 X.2.1 dX6_joined_151 (by decide +kernel) ?_
    refine W.lcmp X.1 X.2.1 dX6_joined_152 ?_
    refine lv_topi (fun f36 ef36 => ?_)
    refine lv_if_eq (tgt := 160) X.1 X.2.1 dX6_joined_153 (by decide) (fun c37 => ?_) (fun c37 => ?_)
    · refine lv_iconst (v := 0) X.1 X.2.1 dX6_joined_160 (by decide +kernel) ?_
      exact sg_iretP X hr hlk hS trivial dX6_joined_161
    · exact B35_156 _ _ hS (lv_sub hl [] rfl)

theorem ca_X6_joined   (X : CallFix p m c cc nL s args sg_tbl own) (hK : va_K D vwCl tys s) (hG : sgG (KT P) D vwCl (fun q : Nat => base ≤ q) tys ad ks H) (hC : sgC base s) (hA : ∀ q : Nat, A q → base ≤ q) (hS : va_S A s.heap H locs) (hb : base ≤ s.heap.size) (x0 : Int32) (x1 : Int64) (x2 : Int64) (hl : Cond.methodLink own index yX6_joined ∈ sg_tbl) (hsize : ls.size = nL) (hst : st0 = [.int x0, .long x1, .long x2].reverse ++ rest) (hW : (rest.map fun v => v.category).sum ≤ 8) (hR : 1 ≤ R.frames ∧ 26 ≤ R.locals) (hf : cells ≤ R.cells ∧ slots ≤ R.slots) (hdg : decode cc pc = .ok (.invokestatic index, 3)) (kk : ∀ (r : Int32) (locs1 : List Loc), (fun r : Int32 => True) r → va_S A s.heap H locs1 → W p l e R s m args below meth c H locs1 cells slots Q (F0 m (pc + 3) ls (.int r :: rest))) : W p l e R s m args below meth c H locs cells slots Q (F0 m pc ls st0) :=
  sg_callPSi X hK hG hC hA hS hb (m_X6_joined l x0 x1 x2) wl_4_136 wl_1_3 wl_4_135 (n := 3) (by decide +kernel) rfl rfl rfl hl hsize hst hW hR hf hdg kk

set_option maxHeartbeats 8000000 in
set_option maxRecDepth 100000 in
theorem m_X6_reckon (l : Launch) {D : va_G} {base : Nat} {tys : List (ClassId × FieldType)} {ad ks : List Nat} {P : sgPm} (a0 : Nat) (h0 : isK ad ks 6 a0) (x1 : Int32) (h1 : iv 0 240 x1) (x2 : Int32) (h2 : iv 0 240 x2) (a3 : Nat) (h3 : isK ad ks 39 a3) : sgMi l (KT P) D vwCl base tys ad ks yX6_reckon cX6_reckon 7 (some .int) ({ frames := 1, cells := 0, slots := 0, locals := 26 }) [.ref a0, .int x1, .int x2, .ref a3] (fun r : Int32 => True) := by
  refine sg_ofW (by decide +kernel) (Nat.le_of_ble_eq_true rfl) (fun p e s m below meth c X hr hlk hb hK hC hG ls hl => ?_)
  have hS : va_S (fun q : Nat => base ≤ q) s.heap s.heap [] := va_S.rf
  have hl : lv_has ls 7 [(0, .ref a0), (1, .int x1), (2, .int x2), (3, .ref a3)] := hl
  refine lv_iconst (v := 0) X.1 X.2.1 dX6_reckon_0 (by decide +kernel) ?_
  refine lv_istore (lv' := [(4, .int 0), (0, .ref a0), (1, .int x1), (2, .int x2), (3, .ref a3)]) X.1 X.2.1 dX6_reckon_1 hl (by decide) rfl (fun ls hl => ?_)
  refine lv_iload_n X.1 X.2.1 dX6_reckon_3 rfl (lv_at hl 2 rfl) ?_
  refine lv_istore (lv' := [(5, .int x1), (4, .int 0), (0, .ref a0), (1, .int x1), (2, .int x2), (3, .ref a3)]) X.1 X.2.1 dX6_reckon_4 hl (by decide) rfl (fun ls hl => ?_)
  have B1_6 : ∀ (N : Nat) (H : Heap) (locs : List Loc) (ls : Array Slot) (z1_4 : Int32) (z1_5 : Int32), sgG (KT P) D vwCl (fun q : Nat => base ≤ q) tys ad ks H → va_S (fun q : Nat => base ≤ q) s.heap H locs → lv_has ls 7 [(0, .ref a0), (2, .int x2), (3, .ref a3), (4, .int z1_4), (5, .int z1_5)] → iv 0 32 z1_4 → iv 0 240 z1_5 → (241 - z1_5.toInt).toNat ≤ N → W p l e (headSpec (Cond.code yX6_reckon cX6_reckon 7 (some .int) :: sg_tbl) ({ frames := 1, cells := 0, slots := 0, locals := 26 })).room s m #[.ref a0, .int x1, .int x2, .ref a3] below meth c H locs 0 0 (MQ below (va_Qi (fun r (_ : Unit) => (fun r : Int32 => True) r) (fun _ => sgB (KT P) D vwCl base tys ad ks) (fun q : Nat => base ≤ q)) #[.ref a0, .int x1, .int x2, .ref a3] s 0 0 (fun q : Nat => base ≤ q)) (F0 m 6 ls []) := by
    intro N; induction N with
    | zero =>
      intro H locs ls z1_4 z1_5 hG hS hl hz1_4 hz1_5 hN
      exact absurd hN (by have := iv_up hz1_5; omega)
    | succ N ih1 =>
      intro H locs ls z1_4 z1_5 hG hS hl hz1_4 hz1_5 hN1
      refine lv_iload X.1 X.2.1 dX6_reckon_6 (lv_at hl 4 rfl) ?_
      refine lv_iload_n X.1 X.2.1 dX6_reckon_8 rfl (lv_at hl 1 rfl) ?_
      refine lv_icmp_ge (tgt := 151) X.1 X.2.1 dX6_reckon_9 (by decide) (fun c2 => ?_) (fun c2 => ?_)
      · refine lv_iload X.1 X.2.1 dX6_reckon_151 (lv_at hl 3 rfl) ?_
        refine lv_if_le (tgt := 165) X.1 X.2.1 dX6_reckon_153 (by decide) (fun c3 => ?_) (fun c3 => ?_)
        · refine lv_iconst (v := 0) X.1 X.2.1 dX6_reckon_165 (by decide +kernel) ?_
          exact sg_iret X hr hlk hb hK hC hG hS trivial dX6_reckon_166
        · refine lv_aload_n X.1 X.2.1 dX6_reckon_156 rfl (lv_at hl 0 rfl) ?_
          refine gf_X6_1 X hK hG h0 wl_1_67 dX6_reckon_157 (fun q4 hq4 kq4 => ?_)
          refine lv_iconst (v := 0) X.1 X.2.1 dX6_reckon_160 (by decide +kernel) ?_
          refine al_30 X hK hG hq4 (iv_vpin (iv_c 0 (a := 0) (b := 0) (by decide +kernel)) (by decide +kernel)) dX6_reckon_161 (fun f5 hf5 => ?_)
          refine lv_goto (tgt := 166) X.1 X.2.1 dX6_reckon_162 (by decide) ?_
          exact sg_iret X hr hlk hb hK hC hG hS trivial dX6_reckon_166
      · refine lv_aload_n X.1 X.2.1 dX6_reckon_12 rfl (lv_at hl 0 rfl) ?_
        refine gf_X6_0 X hK hG h0 wl_1_66 dX6_reckon_13 (fun q6 hq6 kq6 => ?_)
        refine lv_iload X.1 X.2.1 dX6_reckon_16 (lv_at hl 4 rfl) ?_
        refine al_29 X hK hG hq6 (iv_vpin (iv_lt (b' := 239) (iv_gt_of c2) hz1_5 h2 (by decide +kernel)) (by decide +kernel)) dX6_reckon_18 (fun f7 hf7 => ?_)
        refine lv_istore (lv' := [(6, .int f7), (0, .ref a0), (2, .int x2), (3, .ref a3), (4, .int z1_4), (5, .int z1_5)]) X.1 X.2.1 dX6_reckon_19 hl (by decide) rfl (fun ls hl => ?_)
        refine lv_iload X.1 X.2.1 dX6_reckon_21 (lv_at hl 0 rfl) ?_
        refine lv_bipush (v := (-6)) X.1 X.2.1 dX6_reckon_23 (by decide +kernel) ?_
        have B9_145 : ∀ (H : Heap) (locs : List Loc) (ls : Array Slot) (z9_4 : Int32), sgG (KT P) D vwCl (fun q : Nat => base ≤ q) tys ad ks H → va_S (fun q : Nat => base ≤ q) s.heap H locs → lv_has ls 7 [(0, .ref a0), (2, .int x2), (3, .ref a3), (4, .int z9_4), (5, .int z1_5)] → iv 0 32 z9_4 → W p l e (headSpec (Cond.code yX6_reckon cX6_reckon 7 (some .int) :: sg_tbl) ({ frames := 1, cells := 0, slots := 0, locals := 26 })).room s m #[.ref a0, .int x1, .int x2, .ref a3] below meth c H locs 0 0 (MQ below (va_Qi (fun r (_ : Unit) => (fun r : Int32 => True) r) (fun _ => sgB (KT P) D vwCl base tys ad ks) (fun q : Nat => base ≤ q)) #[.ref a0, .int x1, .int x2, .ref a3] s 0 0 (fun q : Nat => base ≤ q)) (F0 m 145 ls []) := by
          intro H locs ls z9_4 hG hS hl hz9_4
          obtain ⟨y10, ey10⟩ : ∃ y : Int32, y = z1_5 + Int32.ofInt 1 := ⟨_, rfl⟩
          refine lv_iinc (v := y10) (lv' := [(5, .int y10), (0, .ref a0), (2, .int x2), (3, .ref a3), (4, .int z9_4)]) X.1 X.2.1 dX6_reckon_145 hl (k := 4) rfl ey10.symm (by decide) rfl (fun ls hl => ?_)
          refine lv_goto (tgt := 6) X.1 X.2.1 dX6_reckon_148 (by decide) ?_
          exact ih1 H _ _ z9_4 y10 hG hS (lv_sub hl [1, 2, 3, 4, 0] rfl) hz9_4 (iv_of (iv_add (a' := 1) (b' := 240) ey10 (iv_lt (b' := 239) (iv_gt_of c2) hz1_5 h2 (by decide +kernel)) (iv_c _ (a := 1) (b := 1) (by decide +kernel)) (by decide +kernel)) (a' := 0) (b' := 240) (by decide +kernel)) (iv_stepU ey10 (iv_lt (b' := 239) (iv_gt_of c2) hz1_5 h2 (by decide +kernel)) (by decide +kernel) hN1)
        refine lv_icmp_lt (tgt := 69) X.1 X.2.1 dX6_reckon_25 (by decide) (fun c8 => ?_) (fun c8 => ?_)
        · refine lv_iload X.1 X.2.1 dX6_reckon_69 (lv_at hl 0 rfl) ?_
          refine lv_bipush (v := (-19)) X.1 X.2.1 dX6_reckon_71 (by decide +kernel) ?_
          have B12_104 : ∀ (locs : List Loc) (ls : Array Slot), va_S (fun q : Nat => base ≤ q) s.heap H locs → lv_has ls 7 [(0, .ref a0), (2, .int x2), (3, .ref a3), (4, .int z1_4), (5, .int z1_5), (6, .int f7)] → W p l e (headSpec (Cond.code yX6_reckon cX6_reckon 7 (some .int) :: sg_tbl) ({ frames := 1, cells := 0, slots := 0, locals := 26 })).room s m #[.ref a0, .int x1, .int x2, .ref a3] below meth c H locs 0 0 (MQ below (va_Qi (fun r (_ : Unit) => (fun r : Int32 => True) r) (fun _ => sgB (KT P) D vwCl base tys ad ks) (fun q : Nat => base ≤ q)) #[.ref a0, .int x1, .int x2, .ref a3] s 0 0 (fun q : Nat => base ≤ q)) (F0 m 104 ls []) := by
            intro locs ls hS hl
            refine lv_iload X.1 X.2.1 dX6_reckon_104 (lv_at hl 3 rfl) ?_
            refine lv_iconst (v := 1) X.1 X.2.1 dX6_reckon_106 (by decide +kernel) ?_
            refine lv_icmp_le (tgt := 145) X.1 X.2.1 dX6_reckon_107 (by decide) (fun c13 => ?_) (fun c13 => ?_)
            · exact B9_145 H _ _ z1_4 hG hS (lv_sub hl [0, 1, 2, 3, 4] rfl) (iv_of (iv_le (b' := 1) c13 hz1_4 (iv_c 1 (a := 1) (b := 1) (by decide +kernel)) (by decide +kernel)) (a' := 0) (b' := 32) (by decide +kernel))
            · obtain ⟨y14, ey14⟩ : ∃ y : Int32, y = z1_4 + Int32.ofInt (-1) := ⟨_, rfl⟩
              refine lv_iinc (v := y14) (lv' := [(4, .int y14), (0, .ref a0), (2, .int x2), (3, .ref a3), (5, .int z1_5), (6, .int f7)]) X.1 X.2.1 dX6_reckon_110 hl (k := 3) rfl ey14.symm (by decide) rfl (fun ls hl => ?_)
              refine lv_aload_n X.1 X.2.1 dX6_reckon_113 rfl (lv_at hl 1 rfl) ?_
              refine gf_X6_1 X hK hG h0 wl_1_67 dX6_reckon_114 (fun q15 hq15 kq15 => ?_)
              refine lv_iload X.1 X.2.1 dX6_reckon_117 (lv_at hl 0 rfl) ?_
              refine lv_iconst (v := 1) X.1 X.2.1 dX6_reckon_119 (by decide +kernel) ?_
              refine lv_isub X.1 X.2.1 dX6_reckon_120 ?_
              refine lv_topi (fun f16 ef16 => ?_)
              refine lv_iload X.1 X.2.1 dX6_reckon_121 (lv_at hl 5 rfl) ?_
              refine lv_aload_n X.1 X.2.1 dX6_reckon_123 rfl (lv_at hl 1 rfl) ?_
              refine gg_X6_1 X hK hG h0 wl_1_67 kq15 dX6_reckon_124 ?_
              refine lv_iload X.1 X.2.1 dX6_reckon_127 (lv_at hl 0 rfl) ?_
              refine lv_iconst (v := 1) X.1 X.2.1 dX6_reckon_129 (by decide +kernel) ?_
              refine lv_isub X.1 X.2.1 dX6_reckon_130 ?_
              refine lv_topi (fun f17 ef17 => ?_)
              refine al_30 X hK hG hq15 (iv_vpin (iv_sub (a' := 0) (b' := 30) ef17 (iv_add (a' := 1) (b' := 31) ey14 (iv_ltr (c' := 2) (iv_gt_of c13) (iv_c 1 (a := 1) (b := 1) (by decide +kernel)) hz1_4 (by decide +kernel)) (iv_c _ (a := (-1)) (b := (-1)) (by decide +kernel)) (by decide +kernel)) (iv_c 1 (a := 1) (b := 1) (by decide +kernel)) (by decide +kernel)) (by decide +kernel)) dX6_reckon_131 (fun f18 hf18 => ?_)
              obtain ⟨g19, eg19⟩ : ∃ y : Int64, y = (f18 : Int32).toInt64 := ⟨_, rfl⟩
              refine lv_i2l (v := g19) X.1 X.2.1 dX6_reckon_132 eg19.symm ?_
              refine lv_aload_n X.1 X.2.1 dX6_reckon_133 rfl (lv_at hl 1 rfl) ?_
              refine gg_X6_1 X hK hG h0 wl_1_67 kq15 dX6_reckon_134 ?_
              refine lv_iload X.1 X.2.1 dX6_reckon_137 (lv_at hl 0 rfl) ?_
              refine al_30 X hK hG hq15 (iv_vpin (iv_add (a' := 1) (b' := 31) ey14 (iv_ltr (c' := 2) (iv_gt_of c13) (iv_c 1 (a := 1) (b := 1) (by decide +kernel)) hz1_4 (by decide +kernel)) (iv_c _ (a := (-1)) (b := (-1)) (by decide +kernel)) (by decide +kernel)) (by decide +kernel)) dX6_reckon_139 (fun f20 hf20 => ?_)
              obtain ⟨g21, eg21⟩ : ∃ y : Int64, y = (f20 : Int32).toInt64 := ⟨_, rfl⟩
              refine lv_i2l (v := g21) X.1 X.2.1 dX6_reckon_140 eg21.symm ?_
              refine ca_X6_joined X hK hG hC (fun _ h => h) hS hb f7 g19 g21 wl_4_134 hl.1 (rest := [.int f16, .ref q15]) rfl (Nat.le_of_ble_eq_true rfl) ⟨Nat.le_of_ble_eq_true rfl, Nat.le_of_ble_eq_true rfl⟩ ⟨Nat.le_of_ble_eq_true rfl, Nat.le_of_ble_eq_true rfl⟩ dX6_reckon_141 (fun f22 locs hf22 hS => ?_)
              refine as_30 X hK hG hS hq15 (iv_vpin (iv_sub (a' := 0) (b' := 30) ef16 (iv_add (a' := 1) (b' := 31) ey14 (iv_ltr (c' := 2) (iv_gt_of c13) (iv_c 1 (a := 1) (b := 1) (by decide +kernel)) hz1_4 (by decide +kernel)) (iv_c _ (a := (-1)) (b := (-1)) (by decide +kernel)) (by decide +kernel)) (iv_c 1 (a := 1) (b := 1) (by decide +kernel)) (by decide +kernel)) (by decide +kernel)) ⟨_, rfl, (iv_top _)⟩ dX6_reckon_144 (fun H locs hG hS ru23 => ?_)
              exact B9_145 H _ _ y14 hG hS (lv_sub hl [1, 2, 3, 0, 4] rfl) (iv_of (iv_add (a' := 1) (b' := 31) ey14 (iv_ltr (c' := 2) (iv_gt_of c13) (iv_c 1 (a := 1) (b := 1) (by decide +kernel)) hz1_4 (by decide +kernel)) (iv_c _ (a := (-1)) (b := (-1)) (by decide +kernel)) (by decide +kernel)) (a' := 0) (b' := 32) (by decide +kernel))
          refine lv_icmp_ne (tgt := 104) X.1 X.2.1 dX6_reckon_73 (by decide) (fun c11 => ?_) (fun c11 => ?_)
          · exact B12_104 _ _ hS (lv_sub hl [1, 2, 3, 4, 5, 0] rfl)
          · refine lv_iload X.1 X.2.1 dX6_reckon_76 (lv_at hl 4 rfl) ?_
            refine lv_if_le (tgt := 104) X.1 X.2.1 dX6_reckon_78 (by decide) (fun c24 => ?_) (fun c24 => ?_)
            · exact B12_104 _ _ hS (lv_sub hl [1, 2, 3, 4, 5, 0] rfl)
            · refine lv_aload_n X.1 X.2.1 dX6_reckon_81 rfl (lv_at hl 1 rfl) ?_
              refine gf_X6_1 X hK hG h0 wl_1_67 dX6_reckon_82 (fun q25 hq25 kq25 => ?_)
              refine lv_iload X.1 X.2.1 dX6_reckon_85 (lv_at hl 4 rfl) ?_
              refine lv_iconst (v := 1) X.1 X.2.1 dX6_reckon_87 (by decide +kernel) ?_
              refine lv_isub X.1 X.2.1 dX6_reckon_88 ?_
              refine lv_topi (fun f26 ef26 => ?_)
              refine lv_iconst (v := 1) X.1 X.2.1 dX6_reckon_89 (by decide +kernel) ?_
              refine lv_aload_n X.1 X.2.1 dX6_reckon_90 rfl (lv_at hl 1 rfl) ?_
              refine gg_X6_1 X hK hG h0 wl_1_67 kq25 dX6_reckon_91 ?_
              refine lv_iload X.1 X.2.1 dX6_reckon_94 (lv_at hl 4 rfl) ?_
              refine lv_iconst (v := 1) X.1 X.2.1 dX6_reckon_96 (by decide +kernel) ?_
              refine lv_isub X.1 X.2.1 dX6_reckon_97 ?_
              refine lv_topi (fun f27 ef27 => ?_)
              refine al_30 X hK hG hq25 (iv_vpin (iv_sub (a' := 0) (b' := 31) ef27 (iv_ltr (c' := 1) (iv_gt_of c24) (iv_c 0 (a := 0) (b := 0) (by decide +kernel)) hz1_4 (by decide +kernel)) (iv_c 1 (a := 1) (b := 1) (by decide +kernel)) (by decide +kernel)) (by decide +kernel)) dX6_reckon_98 (fun f28 hf28 => ?_)
              refine lv_isub X.1 X.2.1 dX6_reckon_99 ?_
              refine lv_topi (fun f29 ef29 => ?_)
              refine as_30 X hK hG hS hq25 (iv_vpin (iv_sub (a' := 0) (b' := 31) ef26 (iv_ltr (c' := 1) (iv_gt_of c24) (iv_c 0 (a := 0) (b := 0) (by decide +kernel)) hz1_4 (by decide +kernel)) (iv_c 1 (a := 1) (b := 1) (by decide +kernel)) (by decide +kernel)) (by decide +kernel)) ⟨_, rfl, (iv_top _)⟩ dX6_reckon_100 (fun H locs hG hS ru30 => ?_)
              refine lv_goto (tgt := 145) X.1 X.2.1 dX6_reckon_101 (by decide) ?_
              exact B9_145 H _ _ z1_4 hG hS (lv_sub hl [1, 2, 3, 4, 5] rfl) (iv_of (iv_ltr (c' := 1) (iv_gt_of c24) (iv_c 0 (a := 0) (b := 0) (by decide +kernel)) hz1_4 (by decide +kernel)) (a' := 0) (b' := 32) (by decide +kernel))
        · refine lv_iload X.1 X.2.1 dX6_reckon_28 (lv_at hl 4 rfl) ?_
          refine lv_aload_n X.1 X.2.1 dX6_reckon_30 rfl (lv_at hl 1 rfl) ?_
          refine gf_X6_1 X hK hG h0 wl_1_67 dX6_reckon_31 (fun q31 hq31 kq31 => ?_)
          refine sg_alen X hK hG hq31 (k := 30) rfl (v := 32) rfl dX6_reckon_34 ?_
          refine lv_icmp_lt (tgt := 40) X.1 X.2.1 dX6_reckon_35 (by decide) (fun c32 => ?_) (fun c32 => ?_)
          · refine lv_aload_n X.1 X.2.1 dX6_reckon_40 rfl (lv_at hl 1 rfl) ?_
            refine gg_X6_1 X hK hG h0 wl_1_67 kq31 dX6_reckon_41 ?_
            refine lv_iload X.1 X.2.1 dX6_reckon_44 (lv_at hl 4 rfl) ?_
            refine lv_iload X.1 X.2.1 dX6_reckon_46 (lv_at hl 0 rfl) ?_
            have B34_62 : ∀ (locs : List Loc) (ls : Array Slot) (w34_0 : Int32), va_S (fun q : Nat => base ≤ q) s.heap H locs → lv_has ls 7 [(0, .ref a0), (2, .int x2), (3, .ref a3), (4, .int z1_4), (5, .int z1_5)] → W p l e (headSpec (Cond.code yX6_reckon cX6_reckon 7 (some .int) :: sg_tbl) ({ frames := 1, cells := 0, slots := 0, locals := 26 })).room s m #[.ref a0, .int x1, .int x2, .ref a3] below meth c H locs 0 0 (MQ below (va_Qi (fun r (_ : Unit) => (fun r : Int32 => True) r) (fun _ => sgB (KT P) D vwCl base tys ad ks) (fun q : Nat => base ≤ q)) #[.ref a0, .int x1, .int x2, .ref a3] s 0 0 (fun q : Nat => base ≤ q)) (F0 m 62 ls [.int w34_0, .int z1_4, .ref q31]) := by
              intro locs ls w34_0 hS hl
              refine as_30 X hK hG hS hq31 (iv_vpin (iv_lt (b' := 31) c32 hz1_4 (iv_c 32 (a := 32) (b := 32) (by decide +kernel)) (by decide +kernel)) (by decide +kernel)) ⟨_, rfl, (iv_top _)⟩ dX6_reckon_62 (fun H locs hG hS ru35 => ?_)
              obtain ⟨y36, ey36⟩ : ∃ y : Int32, y = z1_4 + Int32.ofInt 1 := ⟨_, rfl⟩
              refine lv_iinc (v := y36) (lv' := [(4, .int y36), (0, .ref a0), (2, .int x2), (3, .ref a3), (5, .int z1_5)]) X.1 X.2.1 dX6_reckon_63 hl (k := 3) rfl ey36.symm (by decide) rfl (fun ls hl => ?_)
              refine lv_goto (tgt := 145) X.1 X.2.1 dX6_reckon_66 (by decide) ?_
              exact B9_145 H _ _ y36 hG hS (lv_sub hl [1, 2, 3, 0, 4] rfl) (iv_of (iv_add (a' := 1) (b' := 32) ey36 (iv_lt (b' := 31) c32 hz1_4 (iv_c 32 (a := 32) (b := 32) (by decide +kernel)) (by decide +kernel)) (iv_c _ (a := 1) (b := 1) (by decide +kernel)) (by decide +kernel)) (a' := 0) (b' := 32) (by decide +kernel))
            refine lv_if_lt (tgt := 56) X.1 X.2.1 dX6_reckon_48 (by decide) (fun c33 => ?_) (fun c33 => ?_)
            · refine lv_aload_n X.1 X.2.1 dX6_reckon_56 rfl (lv_at hl 3 rfl) ?_
              refine lv_iconst (v := (-1)) X.1 X.2.1 dX6_reckon_57 (by decide +kernel) ?_
              refine lv_iload X.1 X.2.1 dX6_reckon_58 (lv_at hl 0 rfl) ?_
              refine lv_isub X.1 X.2.1 dX6_reckon_60 ?_
              refine lv_topi (fun f37 ef37 => ?_)
              refine al_39 X hK hG h3 (iv_vpin (iv_sub (a' := 0) (b' := 5) ef37 (iv_c (-1) (a := (-1)) (b := (-1)) (by decide +kernel)) (iv_lt (b' := (-1)) c33 (iv_ler (c' := (-6)) (iv_ge_of c8) (iv_c (-6) (a := (-6)) (b := (-6)) (by decide +kernel)) (iv_top f7) (by decide +kernel)) (iv_c 0 (a := 0) (b := 0) (by decide +kernel)) (by decide +kernel)) (by decide +kernel)) (by decide +kernel)) dX6_reckon_61 (fun f38 hf38 => ?_)
              exact B34_62 _ _ f38 hS (lv_sub hl [1, 2, 3, 4, 5] rfl)
            · refine lv_iload X.1 X.2.1 dX6_reckon_51 (lv_at hl 0 rfl) ?_
              refine lv_goto (tgt := 62) X.1 X.2.1 dX6_reckon_53 (by decide) ?_
              exact B34_62 _ _ f7 hS (lv_sub hl [1, 2, 3, 4, 5] rfl)
          · refine lv_iconst (v := 0) X.1 X.2.1 dX6_reckon_38 (by decide +kernel) ?_
            exact sg_iret X hr hlk hb hK hC hG hS trivial dX6_reckon_39
  exact B1_6 _ s.heap _ _ 0 x1 hG hS (lv_sub hl [2, 4, 5, 1, 0] rfl) (iv_of (iv_c 0 (a := 0) (b := 0) (by decide +kernel)) (a' := 0) (b' := 32) (by decide +kernel)) h1 (Nat.le_refl _)

theorem ca_X6_reckon   (X : CallFix p m c cc nL s args sg_tbl own) (hK : va_K D vwCl tys s) (hG : sgG (KT P) D vwCl (fun q : Nat => base ≤ q) tys ad ks H) (hC : sgC base s) (hS : va_S (fun q : Nat => base ≤ q) s.heap H locs) (hb : base ≤ s.heap.size) (a0 : Nat) (h0 : isK ad ks 6 a0) (x1 : Int32) (h1 : iv 0 240 x1) (x2 : Int32) (h2 : iv 0 240 x2) (a3 : Nat) (h3 : isK ad ks 39 a3) (hl : Cond.methodLink own index yX6_reckon ∈ sg_tbl) (hsize : ls.size = nL) (hst : st0 = [.int x1, .int x2, .ref a3].reverse ++ .ref a0 :: rest) (hW : (rest.map fun v => v.category).sum ≤ 8) (hR : 2 ≤ R.frames ∧ 52 ≤ R.locals) (hf : cells ≤ R.cells ∧ slots ≤ R.slots) (hdg : decode cc pc = .ok (.invokevirtual index, 3)) (kk : ∀ (r : Int32) (H1 : Heap) (locs1 : List Loc), (fun r : Int32 => True) r → sgG (KT P) D vwCl (fun q : Nat => base ≤ q) tys ad ks H1 → va_S (fun q : Nat => base ≤ q) s.heap H1 locs1 → W p l e R s m args below meth c H1 locs1 cells slots Q (F0 m (pc + 3) ls (.int r :: rest))) : W p l e R s m args below meth c H locs cells slots Q (F0 m pc ls st0) :=
  sg_callVi X hK hG hC hS hb (m_X6_reckon l a0 h0 x1 h1 x2 h2 a3 h3) h0 (k := 6) (ci := 6) rfl (C := RX6) (T := TX6) (N := 7) rfl wl_4_133 wl_1_3 wl_4_132 wl_0_24 (n := 3) (by decide +kernel) rfl rfl rfl hl hsize hst hW hR hf hdg kk

set_option maxHeartbeats 8000000 in
set_option maxRecDepth 100000 in
theorem m_X6_worth (l : Launch) {D : va_G} {base : Nat} {tys : List (ClassId × FieldType)} {ad ks : List Nat} {P : sgPm} (a0 : Nat) (h0 : isK ad ks 6 a0) (a1 : Nat) (h1 : isK ad ks 39 a1) : sgMi l (KT P) D vwCl base tys ad ks yX6_worth cX6_worth 4 (some .int) ({ frames := 2, cells := 0, slots := 0, locals := 52 }) [.ref a0, .ref a1] (fun r : Int32 => True) := by
  refine sg_ofW (by decide +kernel) (Nat.le_of_ble_eq_true rfl) (fun p e s m below meth c X hr hlk hb hK hC hG ls hl => ?_)
  have hS : va_S (fun q : Nat => base ≤ q) s.heap s.heap [] := va_S.rf
  have hl : lv_has ls 4 [(0, .ref a0), (1, .ref a1)] := hl
  refine lv_iconst (v := 0) X.1 X.2.1 dX6_worth_0 (by decide +kernel) ?_
  refine lv_istore_n (lv' := [(2, .int 0), (0, .ref a0), (1, .ref a1)]) X.1 X.2.1 dX6_worth_1 rfl hl (by decide) rfl (fun ls hl => ?_)
  have B1_2 : ∀ (N : Nat) (H : Heap) (locs : List Loc) (ls : Array Slot) (z1_2 : Int32), sgG (KT P) D vwCl (fun q : Nat => base ≤ q) tys ad ks H → va_S (fun q : Nat => base ≤ q) s.heap H locs → lv_has ls 4 [(0, .ref a0), (1, .ref a1), (2, .int z1_2)] → iv 0 64 z1_2 → (65 - z1_2.toInt).toNat ≤ N → W p l e (headSpec (Cond.code yX6_worth cX6_worth 4 (some .int) :: sg_tbl) ({ frames := 2, cells := 0, slots := 0, locals := 52 })).room s m #[.ref a0, .ref a1] below meth c H locs 0 0 (MQ below (va_Qi (fun r (_ : Unit) => (fun r : Int32 => True) r) (fun _ => sgB (KT P) D vwCl base tys ad ks) (fun q : Nat => base ≤ q)) #[.ref a0, .ref a1] s 0 0 (fun q : Nat => base ≤ q)) (F0 m 2 ls []) := by
    intro N; induction N with
    | zero =>
      intro H locs ls z1_2 hG hS hl hz1_2 hN
      exact absurd hN (by have := iv_up hz1_2; omega)
    | succ N ih1 =>
      intro H locs ls z1_2 hG hS hl hz1_2 hN1
      refine lv_iload_n X.1 X.2.1 dX6_worth_2 rfl (lv_at hl 2 rfl) ?_
      refine lv_aload_n X.1 X.2.1 dX6_worth_3 rfl (lv_at hl 0 rfl) ?_
      refine gf_X6_5 X hK hG h0 wl_1_71 dX6_worth_4 (fun f2 hf2 kf2 => ?_)
      refine lv_icmp_ge (tgt := 81) X.1 X.2.1 dX6_worth_7 (by decide) (fun c3 => ?_) (fun c3 => ?_)
      · refine lv_iconst (v := 0) X.1 X.2.1 dX6_worth_81 (by decide +kernel) ?_
        exact sg_iret X hr hlk hb hK hC hG hS trivial dX6_worth_82
      · refine lv_aload_n X.1 X.2.1 dX6_worth_10 rfl (lv_at hl 0 rfl) ?_
        refine gf_X6_2 X hK hG h0 wl_1_68 dX6_worth_11 (fun q4 hq4 kq4 => ?_)
        refine lv_iload_n X.1 X.2.1 dX6_worth_14 rfl (lv_at hl 2 rfl) ?_
        refine al_31 X hK hG hq4 (iv_vpin (iv_lt (b' := 63) (iv_gt_of c3) hz1_2 hf2 (by decide +kernel)) (by decide +kernel)) dX6_worth_15 (fun f5 hf5 => ?_)
        refine lv_aload_n X.1 X.2.1 dX6_worth_16 rfl (lv_at hl 0 rfl) ?_
        refine gf_X6_3 X hK hG h0 wl_1_69 dX6_worth_17 (fun q6 hq6 kq6 => ?_)
        refine lv_iload_n X.1 X.2.1 dX6_worth_20 rfl (lv_at hl 2 rfl) ?_
        refine al_32 X hK hG hq6 (iv_vpin (iv_lt (b' := 63) (iv_gt_of c3) hz1_2 hf2 (by decide +kernel)) (by decide +kernel)) dX6_worth_21 (fun f7 hf7 => ?_)
        have B9_30 : ∀ (locs : List Loc) (ls : Array Slot) (w9_0 : Int32), va_S (fun q : Nat => base ≤ q) s.heap H locs → lv_has ls 4 [(0, .ref a0), (1, .ref a1), (2, .int z1_2)] → iv 0 1 w9_0 → W p l e (headSpec (Cond.code yX6_worth cX6_worth 4 (some .int) :: sg_tbl) ({ frames := 2, cells := 0, slots := 0, locals := 52 })).room s m #[.ref a0, .ref a1] below meth c H locs 0 0 (MQ below (va_Qi (fun r (_ : Unit) => (fun r : Int32 => True) r) (fun _ => sgB (KT P) D vwCl base tys ad ks) (fun q : Nat => base ≤ q)) #[.ref a0, .ref a1] s 0 0 (fun q : Nat => base ≤ q)) (F0 m 30 ls [.int w9_0]) := by
          intro locs ls w9_0 hS hl hw9_0
          refine lv_istore_n (lv' := [(3, .int w9_0), (0, .ref a0), (1, .ref a1), (2, .int z1_2)]) X.1 X.2.1 dX6_worth_30 rfl hl (by decide) rfl (fun ls hl => ?_)
          refine lv_iload_n X.1 X.2.1 dX6_worth_31 rfl (lv_at hl 0 rfl) ?_
          have B11_55 : ∀ (H : Heap) (locs : List Loc) (ls : Array Slot), sgG (KT P) D vwCl (fun q : Nat => base ≤ q) tys ad ks H → va_S (fun q : Nat => base ≤ q) s.heap H locs → lv_has ls 4 [(0, .ref a0), (1, .ref a1), (2, .int z1_2)] → W p l e (headSpec (Cond.code yX6_worth cX6_worth 4 (some .int) :: sg_tbl) ({ frames := 2, cells := 0, slots := 0, locals := 52 })).room s m #[.ref a0, .ref a1] below meth c H locs 0 0 (MQ below (va_Qi (fun r (_ : Unit) => (fun r : Int32 => True) r) (fun _ => sgB (KT P) D vwCl base tys ad ks) (fun q : Nat => base ≤ q)) #[.ref a0, .ref a1] s 0 0 (fun q : Nat => base ≤ q)) (F0 m 55 ls []) := by
            intro H locs ls hG hS hl
            refine lv_aload_n X.1 X.2.1 dX6_worth_55 rfl (lv_at hl 0 rfl) ?_
            refine lv_aload_n X.1 X.2.1 dX6_worth_56 rfl (lv_at hl 0 rfl) ?_
            refine gf_X6_3 X hK hG h0 wl_1_69 dX6_worth_57 (fun q12 hq12 kq12 => ?_)
            refine lv_iload_n X.1 X.2.1 dX6_worth_60 rfl (lv_at hl 2 rfl) ?_
            refine al_32 X hK hG hq12 (iv_vpin (iv_lt (b' := 63) (iv_gt_of c3) hz1_2 hf2 (by decide +kernel)) (by decide +kernel)) dX6_worth_61 (fun f13 hf13 => ?_)
            refine lv_aload_n X.1 X.2.1 dX6_worth_62 rfl (lv_at hl 0 rfl) ?_
            refine gf_X6_2 X hK hG h0 wl_1_68 dX6_worth_63 (fun q14 hq14 kq14 => ?_)
            refine lv_iload_n X.1 X.2.1 dX6_worth_66 rfl (lv_at hl 2 rfl) ?_
            refine lv_iconst (v := 1) X.1 X.2.1 dX6_worth_67 (by decide +kernel) ?_
            refine lv_iadd X.1 X.2.1 dX6_worth_68 ?_
            refine lv_topi (fun f15 ef15 => ?_)
            refine al_31 X hK hG hq14 (iv_vpin (iv_add (a' := 1) (b' := 64) ef15 (iv_lt (b' := 63) (iv_gt_of c3) hz1_2 hf2 (by decide +kernel)) (iv_c 1 (a := 1) (b := 1) (by decide +kernel)) (by decide +kernel)) (by decide +kernel)) dX6_worth_69 (fun f16 hf16 => ?_)
            refine lv_aload_n X.1 X.2.1 dX6_worth_70 rfl (lv_at hl 1 rfl) ?_
            refine ca_X6_reckon X hK hG hC hS hb a0 h0 f13 hf13 f16 hf16 a1 h1 wl_4_130 hl.1 (rest := []) rfl (Nat.le_of_ble_eq_true rfl) ⟨Nat.le_of_ble_eq_true rfl, Nat.le_of_ble_eq_true rfl⟩ ⟨Nat.le_of_ble_eq_true rfl, Nat.le_of_ble_eq_true rfl⟩ dX6_worth_71 (fun f17 H locs hf17 hG hS => ?_)
            exact sg_iret X hr hlk hb hK hC hG hS trivial dX6_worth_74
          refine lv_if_ne (tgt := 55) X.1 X.2.1 dX6_worth_32 (by decide) (fun c10 => ?_) (fun c10 => ?_)
          · exact B11_55 H _ _ hG hS (lv_sub hl [1, 2, 3] rfl)
          · refine lv_aload_n X.1 X.2.1 dX6_worth_35 rfl (lv_at hl 1 rfl) ?_
            refine lv_aload_n X.1 X.2.1 dX6_worth_36 rfl (lv_at hl 1 rfl) ?_
            refine gg_X6_2 X hK hG h0 wl_1_68 kq4 dX6_worth_37 ?_
            refine lv_iload_n X.1 X.2.1 dX6_worth_40 rfl (lv_at hl 3 rfl) ?_
            refine al_31 X hK hG hq4 (iv_vpin (iv_lt (b' := 63) (iv_gt_of c3) hz1_2 hf2 (by decide +kernel)) (by decide +kernel)) dX6_worth_41 (fun f18 hf18 => ?_)
            refine lv_aload_n X.1 X.2.1 dX6_worth_42 rfl (lv_at hl 1 rfl) ?_
            refine gg_X6_3 X hK hG h0 wl_1_69 kq6 dX6_worth_43 ?_
            refine lv_iload_n X.1 X.2.1 dX6_worth_46 rfl (lv_at hl 3 rfl) ?_
            refine al_32 X hK hG hq6 (iv_vpin (iv_lt (b' := 63) (iv_gt_of c3) hz1_2 hf2 (by decide +kernel)) (by decide +kernel)) dX6_worth_47 (fun f19 hf19 => ?_)
            refine lv_aload_n X.1 X.2.1 dX6_worth_48 rfl (lv_at hl 2 rfl) ?_
            refine ca_X6_reckon X hK hG hC hS hb a0 h0 f18 hf18 f19 hf19 a1 h1 wl_4_130 hl.1 (rest := []) rfl (Nat.le_of_ble_eq_true rfl) ⟨Nat.le_of_ble_eq_true rfl, Nat.le_of_ble_eq_true rfl⟩ ⟨Nat.le_of_ble_eq_true rfl, Nat.le_of_ble_eq_true rfl⟩ dX6_worth_49 (fun f20 H locs hf20 hG hS => ?_)
            refine lv_if_eq (tgt := 75) X.1 X.2.1 dX6_worth_52 (by decide) (fun c21 => ?_) (fun c21 => ?_)
            · obtain ⟨y22, ey22⟩ : ∃ y : Int32, y = z1_2 + Int32.ofInt 1 := ⟨_, rfl⟩
              refine lv_iinc (v := y22) (lv' := [(2, .int y22), (3, .int w9_0), (0, .ref a0), (1, .ref a1)]) X.1 X.2.1 dX6_worth_75 hl (k := 3) rfl ey22.symm (by decide) rfl (fun ls hl => ?_)
              refine lv_goto (tgt := 2) X.1 X.2.1 dX6_worth_78 (by decide) ?_
              exact ih1 H _ _ y22 hG hS (lv_sub hl [2, 3, 0] rfl) (iv_of (iv_add (a' := 1) (b' := 64) ey22 (iv_lt (b' := 63) (iv_gt_of c3) hz1_2 hf2 (by decide +kernel)) (iv_c _ (a := 1) (b := 1) (by decide +kernel)) (by decide +kernel)) (a' := 0) (b' := 64) (by decide +kernel)) (iv_stepU ey22 (iv_lt (b' := 63) (iv_gt_of c3) hz1_2 hf2 (by decide +kernel)) (by decide +kernel) hN1)
            · exact B11_55 H _ _ hG hS (lv_sub hl [1, 2, 3] rfl)
        refine lv_icmp_ne (tgt := 29) X.1 X.2.1 dX6_worth_22 (by decide) (fun c8 => ?_) (fun c8 => ?_)
        · refine lv_iconst (v := 0) X.1 X.2.1 dX6_worth_29 (by decide +kernel) ?_
          exact B9_30 _ _ 0 hS (lv_sub hl [0, 1, 2] rfl) (iv_of (iv_c 0 (a := 0) (b := 0) (by decide +kernel)) (a' := 0) (b' := 1) (by decide +kernel))
        · refine lv_iconst (v := 1) X.1 X.2.1 dX6_worth_25 (by decide +kernel) ?_
          refine lv_goto (tgt := 30) X.1 X.2.1 dX6_worth_26 (by decide) ?_
          exact B9_30 _ _ 1 hS (lv_sub hl [0, 1, 2] rfl) (iv_of (iv_c 1 (a := 1) (b := 1) (by decide +kernel)) (a' := 0) (b' := 1) (by decide +kernel))
  exact B1_2 _ s.heap _ _ 0 hG hS (lv_sub hl [1, 2, 0] rfl) (iv_of (iv_c 0 (a := 0) (b := 0) (by decide +kernel)) (a' := 0) (b' := 64) (by decide +kernel)) (Nat.le_refl _)

theorem ca_X6_worth   (X : CallFix p m c cc nL s args sg_tbl own) (hK : va_K D vwCl tys s) (hG : sgG (KT P) D vwCl (fun q : Nat => base ≤ q) tys ad ks H) (hC : sgC base s) (hS : va_S (fun q : Nat => base ≤ q) s.heap H locs) (hb : base ≤ s.heap.size) (a0 : Nat) (h0 : isK ad ks 6 a0) (a1 : Nat) (h1 : isK ad ks 39 a1) (hl : Cond.methodLink own index yX6_worth ∈ sg_tbl) (hsize : ls.size = nL) (hst : st0 = [.ref a1].reverse ++ .ref a0 :: rest) (hW : (rest.map fun v => v.category).sum ≤ 8) (hR : 3 ≤ R.frames ∧ 75 ≤ R.locals) (hf : cells ≤ R.cells ∧ slots ≤ R.slots) (hdg : decode cc pc = .ok (.invokevirtual index, 3)) (kk : ∀ (r : Int32) (H1 : Heap) (locs1 : List Loc), (fun r : Int32 => True) r → sgG (KT P) D vwCl (fun q : Nat => base ≤ q) tys ad ks H1 → va_S (fun q : Nat => base ≤ q) s.heap H1 locs1 → W p l e R s m args below meth c H1 locs1 cells slots Q (F0 m (pc + 3) ls (.int r :: rest))) : W p l e R s m args below meth c H locs cells slots Q (F0 m pc ls st0) :=
  sg_callVi X hK hG hC hS hb (m_X6_worth l a0 h0 a1 h1) h0 (k := 6) (ci := 6) rfl (C := RX6) (T := TX6) (N := 7) rfl wl_4_129 wl_1_3 wl_4_127 wl_4_128 (n := 1) (by decide +kernel) rfl rfl rfl hl hsize hst hW hR hf hdg kk

set_option maxHeartbeats 8000000 in
set_option maxRecDepth 100000 in
theorem m_X5_clear (l : Launch) {D : va_G} {base : Nat} {tys : List (ClassId × FieldType)} {ad ks : List Nat} {P : sgPm} (a0 : Nat) (h0 : isK ad ks 5 a0) : sgMv l (KT P) D vwCl base tys ad ks yX5_clear cX5_clear 1 none ({ frames := 0, cells := 0, slots := 0, locals := 0 }) [.ref a0] := by
  refine sg_ofW (by decide +kernel) (Nat.le_of_ble_eq_true rfl) (fun p e s m below meth c X hr hlk hb hK hC hG ls hl => ?_)
  have hS : va_S (fun q : Nat => base ≤ q) s.heap s.heap [] := va_S.rf
  have hl : lv_has ls 1 [(0, .ref a0)] := hl
  refine lv_aload_n X.1 X.2.1 dX5_clear_0 rfl (lv_at hl 0 rfl) ?_
  refine lv_iconst (v := 0) X.1 X.2.1 dX5_clear_1 (by decide +kernel) ?_
  refine pf_X5_4 X hK hG hS h0 wl_1_172 ⟨_, rfl, (iv_top _)⟩ dX5_clear_2 (fun H locs hG hS ku1 ru1 => ?_)
  refine lv_aload_n X.1 X.2.1 dX5_clear_5 rfl (lv_at hl 0 rfl) ?_
  refine lv_iconst (v := 0) X.1 X.2.1 dX5_clear_6 (by decide +kernel) ?_
  refine pf_X5_6 X hK hG hS h0 wl_1_175 ⟨_, rfl, (iv_top _)⟩ dX5_clear_7 (fun H locs hG hS ku2 ru2 => ?_)
  refine lv_aload_n X.1 X.2.1 dX5_clear_10 rfl (lv_at hl 0 rfl) ?_
  refine lv_iconst (v := 0) X.1 X.2.1 dX5_clear_11 (by decide +kernel) ?_
  refine pf_X5_8 X hK hG hS h0 wl_1_177 ⟨_, rfl, (iv_of (iv_c 0 (a := 0) (b := 0) (by decide +kernel)) (a' := 0) (b' := 1) (by decide +kernel))⟩ dX5_clear_12 (fun H locs hG hS ku3 ru3 => ?_)
  exact sg_vret X hr hlk hb hK hC hG hS dX5_clear_15

theorem ca_X5_clear   (X : CallFix p m c cc nL s args sg_tbl own) (hK : va_K D vwCl tys s) (hG : sgG (KT P) D vwCl (fun q : Nat => base ≤ q) tys ad ks H) (hC : sgC base s) (hS : va_S (fun q : Nat => base ≤ q) s.heap H locs) (hb : base ≤ s.heap.size) (a0 : Nat) (h0 : isK ad ks 5 a0) (hl : Cond.methodLink own index yX5_clear ∈ sg_tbl) (hsize : ls.size = nL) (hst : st0 = [].reverse ++ .ref a0 :: rest) (hW : (rest.map fun v => v.category).sum ≤ 8) (hR : 1 ≤ R.frames ∧ 20 ≤ R.locals) (hf : cells ≤ R.cells ∧ slots ≤ R.slots) (hdg : decode cc pc = .ok (.invokevirtual index, 3)) (kk : ∀ (H1 : Heap) (locs1 : List Loc), sgG (KT P) D vwCl (fun q : Nat => base ≤ q) tys ad ks H1 → va_S (fun q : Nat => base ≤ q) s.heap H1 locs1 → W p l e R s m args below meth c H1 locs1 cells slots Q (F0 m (pc + 3) ls rest)) : W p l e R s m args below meth c H locs cells slots Q (F0 m pc ls st0) :=
  sg_callVv X hK hG hC hS hb (m_X5_clear l a0 h0) h0 (k := 5) (ci := 5) rfl (C := RX5) (T := TX5) (N := 11) rfl wl_4_50 wl_1_6 wl_4_48 wl_4_49 (n := 0) (by decide +kernel) rfl rfl rfl hl hsize hst hW hR hf hdg kk

set_option maxHeartbeats 8000000 in
set_option maxRecDepth 100000 in
theorem m_X5_shown (l : Launch) {D : va_G} {base : Nat} {tys : List (ClassId × FieldType)} {ad ks : List Nat} {P : sgPm} {Hx : Heap} (a0 : Nat) (h0 : isK ad ks 5 a0) : sgPi l (KT P) D vwCl base tys ad ks Hx yX5_shown cX5_shown 1 (some .int) ({ frames := 1, cells := 0, slots := 0, locals := 13 }) [.ref a0] (fun r : Int32 => iv (-2147483648) 60 r) := by
  refine sg_ofP (Pq := fun Hx => va_Qi (fun r (_ : Unit) => (fun r : Int32 => iv (-2147483648) 60 r) r) (fun _ t => t.heap = Hx) (fun _ : Nat => False)) (by decide +kernel) (Nat.le_of_ble_eq_true rfl) (fun p e s m below meth c X hr hlk hb hK hC hG ls hl => ?_)
  have hS : va_S (fun _ : Nat => False) s.heap s.heap [] := va_S.rf
  have hl : lv_has ls 1 [(0, .ref a0)] := hl
  refine lv_aload_n X.1 X.2.1 dX5_shown_0 rfl (lv_at hl 0 rfl) ?_
  refine gf_X5_6 X hK hG h0 wl_1_175 dX5_shown_1 (fun f1 hf1 kf1 => ?_)
  refine lv_bipush (v := 60) X.1 X.2.1 dX5_shown_4 (by decide +kernel) ?_
  refine va_mmin X.1 X.2.1 (X.2.2.1.trans hl.1.symm) X.2.2.2.1 (X.2.2.2.2 _ wl_4_168) (X.2.2.2.2 _ wl_3_64) (X.2.2.2.2 _ wl_1_15) (X.2.2.2.2 _ wl_3_65) (Nat.le_of_ble_eq_true rfl) (Nat.le_of_ble_eq_true rfl) (Nat.le_of_ble_eq_true rfl) (Nat.le_of_ble_eq_true rfl) dX5_shown_6 ?_
  refine lv_topi (fun f2 ef2 => ?_)
  exact sg_iretP X hr hlk hS (iv_min (a' := (-2147483648)) (b' := 60) ef2 (iv_top f1) (iv_c 60 (a := 60) (b := 60) (by decide +kernel)) (by decide +kernel)) dX5_shown_9

theorem ca_X5_shown   (X : CallFix p m c cc nL s args sg_tbl own) (hK : va_K D vwCl tys s) (hG : sgG (KT P) D vwCl (fun q : Nat => base ≤ q) tys ad ks H) (hC : sgC base s) (hA : ∀ q : Nat, A q → base ≤ q) (hS : va_S A s.heap H locs) (hb : base ≤ s.heap.size) (a0 : Nat) (h0 : isK ad ks 5 a0) (hl : Cond.methodLink own index yX5_shown ∈ sg_tbl) (hsize : ls.size = nL) (hst : st0 = [].reverse ++ .ref a0 :: rest) (hW : (rest.map fun v => v.category).sum ≤ 8) (hR : 2 ≤ R.frames ∧ 33 ≤ R.locals) (hf : cells ≤ R.cells ∧ slots ≤ R.slots) (hdg : decode cc pc = .ok (.invokevirtual index, 3)) (kk : ∀ (r : Int32) (locs1 : List Loc), (fun r : Int32 => iv (-2147483648) 60 r) r → va_S A s.heap H locs1 → W p l e R s m args below meth c H locs1 cells slots Q (F0 m (pc + 3) ls (.int r :: rest))) : W p l e R s m args below meth c H locs cells slots Q (F0 m pc ls st0) :=
  sg_callPVi X hK hG hC hA hS hb (m_X5_shown l a0 h0) h0 (k := 5) (ci := 5) rfl (C := RX5) (T := TX5) (N := 11) rfl wl_5_8 wl_1_6 wl_5_6 wl_5_7 (n := 0) (by decide +kernel) rfl rfl rfl hl hsize hst hW hR hf hdg kk

set_option maxHeartbeats 8000000 in
set_option maxRecDepth 100000 in
theorem m_X5_keep (l : Launch) {D : va_G} {base : Nat} {tys : List (ClassId × FieldType)} {ad ks : List Nat} {P : sgPm} (a0 : Nat) (h0 : isK ad ks 5 a0) (a1 : Nat) (h1 : isK ad ks 9 a1) (x2 : Int32) : sgMv l (KT P) D vwCl base tys ad ks yX5_keep cX5_keep 3 none ({ frames := 1, cells := 0, slots := 0, locals := 21 }) [.ref a0, .ref a1, .int x2] := by
  refine sg_ofW (by decide +kernel) (Nat.le_of_ble_eq_true rfl) (fun p e s m below meth c X hr hlk hb hK hC hG ls hl => ?_)
  have hS : va_S (fun q : Nat => base ≤ q) s.heap s.heap [] := va_S.rf
  have hl : lv_has ls 3 [(0, .ref a0), (1, .ref a1), (2, .int x2)] := hl
  refine lv_aload_n X.1 X.2.1 dX5_keep_0 rfl (lv_at hl 0 rfl) ?_
  refine gf_X5_0 X hK hG h0 wl_1_168 dX5_keep_1 (fun q1 hq1 kq1 => ?_)
  refine lv_aload_n X.1 X.2.1 dX5_keep_4 rfl (lv_at hl 0 rfl) ?_
  refine gf_X5_5 X hK hG h0 wl_1_174 dX5_keep_5 (fun f2 hf2 kf2 => ?_)
  refine al_26 X hK hG hq1 (iv_vpin hf2 (by decide +kernel)) dX5_keep_8 (fun q3 hq3 => ?_)
  refine lv_aload_n X.1 X.2.1 dX5_keep_9 rfl (lv_at hl 1 rfl) ?_
  refine ca_X9_takeFrom X hK hG hC hS hb q3 hq3 a1 h1 wl_4_164 hl.1 (rest := []) rfl (Nat.le_of_ble_eq_true rfl) ⟨Nat.le_of_ble_eq_true rfl, Nat.le_of_ble_eq_true rfl⟩ ⟨Nat.le_of_ble_eq_true rfl, Nat.le_of_ble_eq_true rfl⟩ dX5_keep_10 (fun H locs hG hS => ?_)
  refine lv_aload_n X.1 X.2.1 dX5_keep_13 rfl (lv_at hl 0 rfl) ?_
  refine lv_aload_n X.1 X.2.1 dX5_keep_14 rfl (lv_at hl 0 rfl) ?_
  refine gf_X5_5 X hK hG h0 wl_1_174 dX5_keep_15 (fun f5 hf5 kf5 => ?_)
  refine lv_iconst (v := 1) X.1 X.2.1 dX5_keep_18 (by decide +kernel) ?_
  refine lv_iadd X.1 X.2.1 dX5_keep_19 ?_
  refine lv_topi (fun f6 ef6 => ?_)
  refine lv_bipush (v := 40) X.1 X.2.1 dX5_keep_20 (by decide +kernel) ?_
  refine lv_irem X.1 X.2.1 dX5_keep_22 (iv_ne0 (iv_c 40 (a := 40) (b := 40) (by decide +kernel)) (by decide +kernel)) ?_
  refine lv_topi (fun f7 ef7 => ?_)
  refine pf_X5_5 X hK hG hS h0 wl_1_174 ⟨_, rfl, (iv_rem (a' := 0) (b' := 39) ef7 (iv_add (a' := 1) (b' := 40) ef6 hf5 (iv_c 1 (a := 1) (b := 1) (by decide +kernel)) (by decide +kernel)) (iv_c 40 (a := 40) (b := 40) (by decide +kernel)) (by decide +kernel))⟩ dX5_keep_23 (fun H locs hG hS ku8 ru8 => ?_)
  refine lv_aload_n X.1 X.2.1 dX5_keep_26 rfl (lv_at hl 0 rfl) ?_
  refine lv_aload_n X.1 X.2.1 dX5_keep_27 rfl (lv_at hl 0 rfl) ?_
  refine gf_X5_4 X hK hG h0 wl_1_172 dX5_keep_28 (fun f9 hf9 kf9 => ?_)
  refine lv_iconst (v := 1) X.1 X.2.1 dX5_keep_31 (by decide +kernel) ?_
  refine lv_iadd X.1 X.2.1 dX5_keep_32 ?_
  refine lv_topi (fun f10 ef10 => ?_)
  refine lv_bipush (v := 40) X.1 X.2.1 dX5_keep_33 (by decide +kernel) ?_
  refine va_mmin X.1 X.2.1 (X.2.2.1.trans hl.1.symm) X.2.2.2.1 (X.2.2.2.2 _ wl_4_168) (X.2.2.2.2 _ wl_3_64) (X.2.2.2.2 _ wl_1_15) (X.2.2.2.2 _ wl_3_65) (Nat.le_of_ble_eq_true rfl) (Nat.le_of_ble_eq_true rfl) (Nat.le_of_ble_eq_true rfl) (Nat.le_of_ble_eq_true rfl) dX5_keep_35 ?_
  refine lv_topi (fun f11 ef11 => ?_)
  refine pf_X5_4 X hK hG hS h0 wl_1_172 ⟨_, rfl, (iv_top _)⟩ dX5_keep_38 (fun H locs hG hS ku12 ru12 => ?_)
  refine lv_aload_n X.1 X.2.1 dX5_keep_41 rfl (lv_at hl 0 rfl) ?_
  refine gf_X5_1 X hK hG h0 wl_1_169 dX5_keep_42 (fun q13 hq13 kq13 => ?_)
  refine lv_aload_n X.1 X.2.1 dX5_keep_45 rfl (lv_at hl 0 rfl) ?_
  refine gf_X5_7 X hK hG h0 wl_1_176 dX5_keep_46 (fun f14 hf14 kf14 => ?_)
  refine lv_iload_n X.1 X.2.1 dX5_keep_49 rfl (lv_at hl 2 rfl) ?_
  refine as_27 X hK hG hS hq13 (iv_vpin hf14 (by decide +kernel)) ⟨_, rfl, (iv_top _)⟩ dX5_keep_50 (fun H locs hG hS ru15 => ?_)
  refine lv_aload_n X.1 X.2.1 dX5_keep_51 rfl (lv_at hl 0 rfl) ?_
  refine lv_aload_n X.1 X.2.1 dX5_keep_52 rfl (lv_at hl 0 rfl) ?_
  refine gg_X5_7 X hK hG h0 wl_1_176 (ru15 _ _ _ _ _ _ _ h0 rfl rfl (by decide) (fun z => z.elim) kf14) dX5_keep_53 ?_
  refine lv_iconst (v := 1) X.1 X.2.1 dX5_keep_56 (by decide +kernel) ?_
  refine lv_iadd X.1 X.2.1 dX5_keep_57 ?_
  refine lv_topi (fun f16 ef16 => ?_)
  refine lv_bipush (v := 100) X.1 X.2.1 dX5_keep_58 (by decide +kernel) ?_
  refine lv_irem X.1 X.2.1 dX5_keep_60 (iv_ne0 (iv_c 100 (a := 100) (b := 100) (by decide +kernel)) (by decide +kernel)) ?_
  refine lv_topi (fun f17 ef17 => ?_)
  refine pf_X5_7 X hK hG hS h0 wl_1_176 ⟨_, rfl, (iv_rem (a' := 0) (b' := 99) ef17 (iv_add (a' := 1) (b' := 100) ef16 hf14 (iv_c 1 (a := 1) (b := 1) (by decide +kernel)) (by decide +kernel)) (iv_c 100 (a := 100) (b := 100) (by decide +kernel)) (by decide +kernel))⟩ dX5_keep_61 (fun H locs hG hS ku18 ru18 => ?_)
  refine lv_aload_n X.1 X.2.1 dX5_keep_64 rfl (lv_at hl 0 rfl) ?_
  refine lv_aload_n X.1 X.2.1 dX5_keep_65 rfl (lv_at hl 0 rfl) ?_
  refine gf_X5_6 X hK hG h0 wl_1_175 dX5_keep_66 (fun f19 hf19 kf19 => ?_)
  refine lv_iconst (v := 1) X.1 X.2.1 dX5_keep_69 (by decide +kernel) ?_
  refine lv_iadd X.1 X.2.1 dX5_keep_70 ?_
  refine lv_topi (fun f20 ef20 => ?_)
  refine lv_bipush (v := 100) X.1 X.2.1 dX5_keep_71 (by decide +kernel) ?_
  refine va_mmin X.1 X.2.1 (X.2.2.1.trans hl.1.symm) X.2.2.2.1 (X.2.2.2.2 _ wl_4_168) (X.2.2.2.2 _ wl_3_64) (X.2.2.2.2 _ wl_1_15) (X.2.2.2.2 _ wl_3_65) (Nat.le_of_ble_eq_true rfl) (Nat.le_of_ble_eq_true rfl) (Nat.le_of_ble_eq_true rfl) (Nat.le_of_ble_eq_true rfl) dX5_keep_73 ?_
  refine lv_topi (fun f21 ef21 => ?_)
  refine pf_X5_6 X hK hG hS h0 wl_1_175 ⟨_, rfl, (iv_top _)⟩ dX5_keep_76 (fun H locs hG hS ku22 ru22 => ?_)
  exact sg_vret X hr hlk hb hK hC hG hS dX5_keep_79

theorem ca_X5_keep   (X : CallFix p m c cc nL s args sg_tbl own) (hK : va_K D vwCl tys s) (hG : sgG (KT P) D vwCl (fun q : Nat => base ≤ q) tys ad ks H) (hC : sgC base s) (hS : va_S (fun q : Nat => base ≤ q) s.heap H locs) (hb : base ≤ s.heap.size) (a0 : Nat) (h0 : isK ad ks 5 a0) (a1 : Nat) (h1 : isK ad ks 9 a1) (x2 : Int32) (hl : Cond.methodLink own index yX5_keep ∈ sg_tbl) (hsize : ls.size = nL) (hst : st0 = [.ref a1, .int x2].reverse ++ .ref a0 :: rest) (hW : (rest.map fun v => v.category).sum ≤ 8) (hR : 2 ≤ R.frames ∧ 43 ≤ R.locals) (hf : cells ≤ R.cells ∧ slots ≤ R.slots) (hdg : decode cc pc = .ok (.invokevirtual index, 3)) (kk : ∀ (H1 : Heap) (locs1 : List Loc), sgG (KT P) D vwCl (fun q : Nat => base ≤ q) tys ad ks H1 → va_S (fun q : Nat => base ≤ q) s.heap H1 locs1 → W p l e R s m args below meth c H1 locs1 cells slots Q (F0 m (pc + 3) ls rest)) : W p l e R s m args below meth c H locs cells slots Q (F0 m pc ls st0) :=
  sg_callVv X hK hG hC hS hb (m_X5_keep l a0 h0 a1 h1 x2) h0 (k := 5) (ci := 5) rfl (C := RX5) (T := TX5) (N := 11) rfl wl_4_163 wl_1_6 wl_4_161 wl_4_162 (n := 2) (by decide +kernel) rfl rfl rfl hl hsize hst hW hR hf hdg kk

set_option maxHeartbeats 8000000 in
set_option maxRecDepth 100000 in
theorem m_X5_takeBack (l : Launch) {D : va_G} {base : Nat} {tys : List (ClassId × FieldType)} {ad ks : List Nat} {P : sgPm} (a0 : Nat) (h0 : isK ad ks 5 a0) (a1 : Nat) (h1 : isK ad ks 9 a1) : sgMi l (KT P) D vwCl base tys ad ks yX5_takeBack cX5_takeBack 2 (some .boolean) ({ frames := 1, cells := 0, slots := 0, locals := 21 }) [.ref a0, .ref a1] (fun r : Int32 => iv 0 1 r) := by
  refine sg_ofW (by decide +kernel) (Nat.le_of_ble_eq_true rfl) (fun p e s m below meth c X hr hlk hb hK hC hG ls hl => ?_)
  have hS : va_S (fun q : Nat => base ≤ q) s.heap s.heap [] := va_S.rf
  have hl : lv_has ls 2 [(0, .ref a0), (1, .ref a1)] := hl
  refine lv_aload_n X.1 X.2.1 dX5_takeBack_0 rfl (lv_at hl 0 rfl) ?_
  refine gf_X5_4 X hK hG h0 wl_1_172 dX5_takeBack_1 (fun f1 hf1 kf1 => ?_)
  refine lv_iconst (v := 1) X.1 X.2.1 dX5_takeBack_4 (by decide +kernel) ?_
  refine lv_icmp_ge (tgt := 10) X.1 X.2.1 dX5_takeBack_5 (by decide) (fun c2 => ?_) (fun c2 => ?_)
  · refine lv_aload_n X.1 X.2.1 dX5_takeBack_10 rfl (lv_at hl 0 rfl) ?_
    refine lv_aload_n X.1 X.2.1 dX5_takeBack_11 rfl (lv_at hl 0 rfl) ?_
    refine gf_X5_5 X hK hG h0 wl_1_174 dX5_takeBack_12 (fun f3 hf3 kf3 => ?_)
    refine lv_bipush (v := 40) X.1 X.2.1 dX5_takeBack_15 (by decide +kernel) ?_
    refine lv_iadd X.1 X.2.1 dX5_takeBack_17 ?_
    refine lv_topi (fun f4 ef4 => ?_)
    refine lv_iconst (v := 1) X.1 X.2.1 dX5_takeBack_18 (by decide +kernel) ?_
    refine lv_isub X.1 X.2.1 dX5_takeBack_19 ?_
    refine lv_topi (fun f5 ef5 => ?_)
    refine lv_bipush (v := 40) X.1 X.2.1 dX5_takeBack_20 (by decide +kernel) ?_
    refine lv_irem X.1 X.2.1 dX5_takeBack_22 (iv_ne0 (iv_c 40 (a := 40) (b := 40) (by decide +kernel)) (by decide +kernel)) ?_
    refine lv_topi (fun f6 ef6 => ?_)
    refine pf_X5_5 X hK hG hS h0 wl_1_174 ⟨_, rfl, (iv_rem (a' := 0) (b' := 39) ef6 (iv_sub (a' := 39) (b' := 78) ef5 (iv_add (a' := 40) (b' := 79) ef4 hf3 (iv_c 40 (a := 40) (b := 40) (by decide +kernel)) (by decide +kernel)) (iv_c 1 (a := 1) (b := 1) (by decide +kernel)) (by decide +kernel)) (iv_c 40 (a := 40) (b := 40) (by decide +kernel)) (by decide +kernel))⟩ dX5_takeBack_23 (fun H locs hG hS ku7 ru7 => ?_)
    refine lv_aload_n X.1 X.2.1 dX5_takeBack_26 rfl (lv_at hl 1 rfl) ?_
    refine lv_aload_n X.1 X.2.1 dX5_takeBack_27 rfl (lv_at hl 0 rfl) ?_
    refine gf_X5_0 X hK hG h0 wl_1_168 dX5_takeBack_28 (fun q8 hq8 kq8 => ?_)
    refine lv_aload_n X.1 X.2.1 dX5_takeBack_31 rfl (lv_at hl 0 rfl) ?_
    refine gg_X5_5 X hK hG h0 wl_1_174 ku7 dX5_takeBack_32 ?_
    refine al_26 X hK hG hq8 (iv_vpin (iv_rem (a' := 0) (b' := 39) ef6 (iv_sub (a' := 39) (b' := 78) ef5 (iv_add (a' := 40) (b' := 79) ef4 hf3 (iv_c 40 (a := 40) (b := 40) (by decide +kernel)) (by decide +kernel)) (iv_c 1 (a := 1) (b := 1) (by decide +kernel)) (by decide +kernel)) (iv_c 40 (a := 40) (b := 40) (by decide +kernel)) (by decide +kernel)) (by decide +kernel)) dX5_takeBack_35 (fun q9 hq9 => ?_)
    refine ca_X9_takeFrom X hK hG hC hS hb a1 h1 q9 hq9 wl_4_164 hl.1 (rest := []) rfl (Nat.le_of_ble_eq_true rfl) ⟨Nat.le_of_ble_eq_true rfl, Nat.le_of_ble_eq_true rfl⟩ ⟨Nat.le_of_ble_eq_true rfl, Nat.le_of_ble_eq_true rfl⟩ dX5_takeBack_36 (fun H locs hG hS => ?_)
    refine lv_aload_n X.1 X.2.1 dX5_takeBack_39 rfl (lv_at hl 0 rfl) ?_
    refine lv_dup X.1 X.2.1 dX5_takeBack_40 rfl ?_
    refine gf_X5_4 X hK hG h0 wl_1_172 dX5_takeBack_41 (fun f11 hf11 kf11 => ?_)
    refine lv_iconst (v := 1) X.1 X.2.1 dX5_takeBack_44 (by decide +kernel) ?_
    refine lv_isub X.1 X.2.1 dX5_takeBack_45 ?_
    refine lv_topi (fun f12 ef12 => ?_)
    refine pf_X5_4 X hK hG hS h0 wl_1_172 ⟨_, rfl, (iv_top _)⟩ dX5_takeBack_46 (fun H locs hG hS ku13 ru13 => ?_)
    refine lv_aload_n X.1 X.2.1 dX5_takeBack_49 rfl (lv_at hl 0 rfl) ?_
    refine lv_aload_n X.1 X.2.1 dX5_takeBack_50 rfl (lv_at hl 0 rfl) ?_
    refine gf_X5_7 X hK hG h0 wl_1_176 dX5_takeBack_51 (fun f14 hf14 kf14 => ?_)
    refine lv_bipush (v := 100) X.1 X.2.1 dX5_takeBack_54 (by decide +kernel) ?_
    refine lv_iadd X.1 X.2.1 dX5_takeBack_56 ?_
    refine lv_topi (fun f15 ef15 => ?_)
    refine lv_iconst (v := 1) X.1 X.2.1 dX5_takeBack_57 (by decide +kernel) ?_
    refine lv_isub X.1 X.2.1 dX5_takeBack_58 ?_
    refine lv_topi (fun f16 ef16 => ?_)
    refine lv_bipush (v := 100) X.1 X.2.1 dX5_takeBack_59 (by decide +kernel) ?_
    refine lv_irem X.1 X.2.1 dX5_takeBack_61 (iv_ne0 (iv_c 100 (a := 100) (b := 100) (by decide +kernel)) (by decide +kernel)) ?_
    refine lv_topi (fun f17 ef17 => ?_)
    refine pf_X5_7 X hK hG hS h0 wl_1_176 ⟨_, rfl, (iv_rem (a' := 0) (b' := 99) ef17 (iv_sub (a' := 99) (b' := 198) ef16 (iv_add (a' := 100) (b' := 199) ef15 hf14 (iv_c 100 (a := 100) (b := 100) (by decide +kernel)) (by decide +kernel)) (iv_c 1 (a := 1) (b := 1) (by decide +kernel)) (by decide +kernel)) (iv_c 100 (a := 100) (b := 100) (by decide +kernel)) (by decide +kernel))⟩ dX5_takeBack_62 (fun H locs hG hS ku18 ru18 => ?_)
    refine lv_aload_n X.1 X.2.1 dX5_takeBack_65 rfl (lv_at hl 0 rfl) ?_
    refine lv_dup X.1 X.2.1 dX5_takeBack_66 rfl ?_
    refine gf_X5_6 X hK hG h0 wl_1_175 dX5_takeBack_67 (fun f19 hf19 kf19 => ?_)
    refine lv_iconst (v := 1) X.1 X.2.1 dX5_takeBack_70 (by decide +kernel) ?_
    refine lv_isub X.1 X.2.1 dX5_takeBack_71 ?_
    refine lv_topi (fun f20 ef20 => ?_)
    refine pf_X5_6 X hK hG hS h0 wl_1_175 ⟨_, rfl, (iv_top _)⟩ dX5_takeBack_72 (fun H locs hG hS ku21 ru21 => ?_)
    refine lv_iconst (v := 1) X.1 X.2.1 dX5_takeBack_75 (by decide +kernel) ?_
    exact sg_zret X hr (sg_zn (iv_of (iv_c 1 (a := 1) (b := 1) (by decide +kernel)) (a' := 0) (b' := 1) (by decide +kernel))) hlk hb hK hC hG hS (iv_of (iv_c 1 (a := 1) (b := 1) (by decide +kernel)) (a' := 0) (b' := 1) (by decide +kernel)) dX5_takeBack_76
  · refine lv_iconst (v := 0) X.1 X.2.1 dX5_takeBack_8 (by decide +kernel) ?_
    exact sg_zret X hr (sg_zn (iv_of (iv_c 0 (a := 0) (b := 0) (by decide +kernel)) (a' := 0) (b' := 1) (by decide +kernel))) hlk hb hK hC hG hS (iv_of (iv_c 0 (a := 0) (b := 0) (by decide +kernel)) (a' := 0) (b' := 1) (by decide +kernel)) dX5_takeBack_9

theorem ca_X5_takeBack   (X : CallFix p m c cc nL s args sg_tbl own) (hK : va_K D vwCl tys s) (hG : sgG (KT P) D vwCl (fun q : Nat => base ≤ q) tys ad ks H) (hC : sgC base s) (hS : va_S (fun q : Nat => base ≤ q) s.heap H locs) (hb : base ≤ s.heap.size) (a0 : Nat) (h0 : isK ad ks 5 a0) (a1 : Nat) (h1 : isK ad ks 9 a1) (hl : Cond.methodLink own index yX5_takeBack ∈ sg_tbl) (hsize : ls.size = nL) (hst : st0 = [.ref a1].reverse ++ .ref a0 :: rest) (hW : (rest.map fun v => v.category).sum ≤ 8) (hR : 2 ≤ R.frames ∧ 42 ≤ R.locals) (hf : cells ≤ R.cells ∧ slots ≤ R.slots) (hdg : decode cc pc = .ok (.invokevirtual index, 3)) (kk : ∀ (r : Int32) (H1 : Heap) (locs1 : List Loc), (fun r : Int32 => iv 0 1 r) r → sgG (KT P) D vwCl (fun q : Nat => base ≤ q) tys ad ks H1 → va_S (fun q : Nat => base ≤ q) s.heap H1 locs1 → W p l e R s m args below meth c H1 locs1 cells slots Q (F0 m (pc + 3) ls (.int r :: rest))) : W p l e R s m args below meth c H locs cells slots Q (F0 m pc ls st0) :=
  sg_callVi X hK hG hC hS hb (m_X5_takeBack l a0 h0 a1 h1) h0 (k := 5) (ci := 5) rfl (C := RX5) (T := TX5) (N := 11) rfl wl_5_0 wl_1_6 wl_4_238 wl_4_239 (n := 1) (by decide +kernel) rfl rfl rfl hl hsize hst hW hR hf hdg kk
end
