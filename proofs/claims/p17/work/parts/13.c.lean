abbrev cX5_bringBack : ByteArray := prog_7_method_8_code
def yX5_bringBack : MethodName := ⟨RX5, "bringBack", "(LLawnAhead$State;)Z"⟩
abbrev cX5_deed : ByteArray := prog_7_method_6_code
def yX5_deed : MethodName := ⟨RX5, "deed", "(I)I"⟩
abbrev cX5_takeImage : ByteArray := prog_7_method_7_code
def yX5_takeImage : MethodName := ⟨RX5, "takeImage", "(LLawnAhead$State;)V"⟩
abbrev cX8_growing : ByteArray := prog_10_method_6_code
def yX8_growing : MethodName := ⟨RX8, "growing", "(III)I"⟩
abbrev cX8_grows : ByteArray := prog_10_method_4_code
def yX8_grows : MethodName := ⟨RX8, "grows", "(IIII)Z"⟩
abbrev cX8_listCuts : ByteArray := prog_10_method_10_code
def yX8_listCuts : MethodName := ⟨RX8, "listCuts", "(I)V"⟩
abbrev cX8_listWay : ByteArray := prog_10_method_11_code
def yX8_listWay : MethodName := ⟨RX8, "listWay", "(IIII)V"⟩
abbrev cX8_lowest : ByteArray := prog_10_method_7_code
def yX8_lowest : MethodName := ⟨RX8, "lowest", "(III)I"⟩
abbrev cX8_setLetters : ByteArray := prog_10_method_5_code
def yX8_setLetters : MethodName := ⟨RX8, "setLetters", "(IIII)V"⟩
abbrev cX8_threatBits : ByteArray := prog_10_method_8_code
def yX8_threatBits : MethodName := ⟨RX8, "threatBits", "(III)I"⟩
abbrev cX8_threatened : ByteArray := prog_10_method_9_code
def yX8_threatened : MethodName := ⟨RX8, "threatened", "(III)Z"⟩
abbrev cX8_turnTo : ByteArray := prog_10_method_3_code
def yX8_turnTo : MethodName := ⟨RX8, "turnTo", "(II)V"⟩
theorem dX5_bringBack_0 : decode cX5_bringBack 0 = .ok (.aload_n 0, 1) := by decide +kernel
theorem dX5_bringBack_1 : decode cX5_bringBack 1 = .ok (.getfield 34, 3) := by decide +kernel
theorem dX5_bringBack_4 : decode cX5_bringBack 4 = .ok (.ifCond .ne 5, 3) := by decide +kernel
theorem dX5_bringBack_7 : decode cX5_bringBack 7 = .ok (.iconst 0, 1) := by decide +kernel
theorem dX5_bringBack_8 : decode cX5_bringBack 8 = .ok (.ireturn, 1) := by decide +kernel
theorem dX5_bringBack_9 : decode cX5_bringBack 9 = .ok (.aload_n 1, 1) := by decide +kernel
theorem dX5_bringBack_10 : decode cX5_bringBack 10 = .ok (.aload_n 0, 1) := by decide +kernel
theorem dX5_bringBack_11 : decode cX5_bringBack 11 = .ok (.getfield 20, 3) := by decide +kernel
theorem dX5_bringBack_14 : decode cX5_bringBack 14 = .ok (.invokevirtual 47, 3) := by decide +kernel
theorem dX5_bringBack_17 : decode cX5_bringBack 17 = .ok (.aload_n 0, 1) := by decide +kernel
theorem dX5_bringBack_18 : decode cX5_bringBack 18 = .ok (.getfield 24, 3) := by decide +kernel
theorem dX5_bringBack_21 : decode cX5_bringBack 21 = .ok (.iconst 0, 1) := by decide +kernel
theorem dX5_bringBack_22 : decode cX5_bringBack 22 = .ok (.aload_n 0, 1) := by decide +kernel
theorem dX5_bringBack_23 : decode cX5_bringBack 23 = .ok (.getfield 15, 3) := by decide +kernel
theorem dX5_bringBack_26 : decode cX5_bringBack 26 = .ok (.iconst 0, 1) := by decide +kernel
theorem dX5_bringBack_27 : decode cX5_bringBack 27 = .ok (.bipush 100, 2) := by decide +kernel
theorem dX5_bringBack_29 : decode cX5_bringBack 29 = .ok (.invokestatic 54, 3) := by decide +kernel
theorem dX5_bringBack_32 : decode cX5_bringBack 32 = .ok (.aload_n 0, 1) := by decide +kernel
theorem dX5_bringBack_33 : decode cX5_bringBack 33 = .ok (.aload_n 0, 1) := by decide +kernel
theorem dX5_bringBack_34 : decode cX5_bringBack 34 = .ok (.getfield 60, 3) := by decide +kernel
theorem dX5_bringBack_37 : decode cX5_bringBack 37 = .ok (.putfield 31, 3) := by decide +kernel
theorem dX5_bringBack_40 : decode cX5_bringBack 40 = .ok (.aload_n 0, 1) := by decide +kernel
theorem dX5_bringBack_41 : decode cX5_bringBack 41 = .ok (.aload_n 0, 1) := by decide +kernel
theorem dX5_bringBack_42 : decode cX5_bringBack 42 = .ok (.getfield 63, 3) := by decide +kernel
theorem dX5_bringBack_45 : decode cX5_bringBack 45 = .ok (.putfield 51, 3) := by decide +kernel
theorem dX5_bringBack_48 : decode cX5_bringBack 48 = .ok (.aload_n 0, 1) := by decide +kernel
theorem dX5_bringBack_49 : decode cX5_bringBack 49 = .ok (.iconst 0, 1) := by decide +kernel
theorem dX5_bringBack_50 : decode cX5_bringBack 50 = .ok (.putfield 27, 3) := by decide +kernel
theorem dX5_bringBack_53 : decode cX5_bringBack 53 = .ok (.iconst 1, 1) := by decide +kernel
theorem dX5_bringBack_54 : decode cX5_bringBack 54 = .ok (.ireturn, 1) := by decide +kernel
theorem dX5_deed_0 : decode cX5_deed 0 = .ok (.iload_n 1, 1) := by decide +kernel
theorem dX5_deed_1 : decode cX5_deed 1 = .ok (.ifCond .lt 9, 3) := by decide +kernel
theorem dX5_deed_4 : decode cX5_deed 4 = .ok (.iload_n 1, 1) := by decide +kernel
theorem dX5_deed_5 : decode cX5_deed 5 = .ok (.bipush 100, 2) := by decide +kernel
theorem dX5_deed_7 : decode cX5_deed 7 = .ok (.if_icmp .lt 7, 3) := by decide +kernel
theorem dX5_deed_10 : decode cX5_deed 10 = .ok (.iconst 0, 1) := by decide +kernel
theorem dX5_deed_11 : decode cX5_deed 11 = .ok (.goto 22, 3) := by decide +kernel
theorem dX5_deed_14 : decode cX5_deed 14 = .ok (.aload_n 0, 1) := by decide +kernel
theorem dX5_deed_15 : decode cX5_deed 15 = .ok (.getfield 15, 3) := by decide +kernel
theorem dX5_deed_18 : decode cX5_deed 18 = .ok (.aload_n 0, 1) := by decide +kernel
theorem dX5_deed_19 : decode cX5_deed 19 = .ok (.getfield 51, 3) := by decide +kernel
theorem dX5_deed_22 : decode cX5_deed 22 = .ok (.bipush 100, 2) := by decide +kernel
theorem dX5_deed_24 : decode cX5_deed 24 = .ok (.iadd, 1) := by decide +kernel
theorem dX5_deed_25 : decode cX5_deed 25 = .ok (.iconst 1, 1) := by decide +kernel
theorem dX5_deed_26 : decode cX5_deed 26 = .ok (.isub, 1) := by decide +kernel
theorem dX5_deed_27 : decode cX5_deed 27 = .ok (.iload_n 1, 1) := by decide +kernel
theorem dX5_deed_28 : decode cX5_deed 28 = .ok (.isub, 1) := by decide +kernel
theorem dX5_deed_29 : decode cX5_deed 29 = .ok (.bipush 100, 2) := by decide +kernel
theorem dX5_deed_31 : decode cX5_deed 31 = .ok (.irem, 1) := by decide +kernel
theorem dX5_deed_32 : decode cX5_deed 32 = .ok (.iaload, 1) := by decide +kernel
theorem dX5_deed_33 : decode cX5_deed 33 = .ok (.ireturn, 1) := by decide +kernel
theorem dX5_takeImage_0 : decode cX5_takeImage 0 = .ok (.aload_n 0, 1) := by decide +kernel
theorem dX5_takeImage_1 : decode cX5_takeImage 1 = .ok (.getfield 20, 3) := by decide +kernel
theorem dX5_takeImage_4 : decode cX5_takeImage 4 = .ok (.aload_n 1, 1) := by decide +kernel
theorem dX5_takeImage_5 : decode cX5_takeImage 5 = .ok (.invokevirtual 47, 3) := by decide +kernel
theorem dX5_takeImage_8 : decode cX5_takeImage 8 = .ok (.aload_n 0, 1) := by decide +kernel
theorem dX5_takeImage_9 : decode cX5_takeImage 9 = .ok (.getfield 15, 3) := by decide +kernel
theorem dX5_takeImage_12 : decode cX5_takeImage 12 = .ok (.iconst 0, 1) := by decide +kernel
theorem dX5_takeImage_13 : decode cX5_takeImage 13 = .ok (.aload_n 0, 1) := by decide +kernel
theorem dX5_takeImage_14 : decode cX5_takeImage 14 = .ok (.getfield 24, 3) := by decide +kernel
theorem dX5_takeImage_17 : decode cX5_takeImage 17 = .ok (.iconst 0, 1) := by decide +kernel
theorem dX5_takeImage_18 : decode cX5_takeImage 18 = .ok (.bipush 100, 2) := by decide +kernel
theorem dX5_takeImage_20 : decode cX5_takeImage 20 = .ok (.invokestatic 54, 3) := by decide +kernel
theorem dX5_takeImage_23 : decode cX5_takeImage 23 = .ok (.aload_n 0, 1) := by decide +kernel
theorem dX5_takeImage_24 : decode cX5_takeImage 24 = .ok (.aload_n 0, 1) := by decide +kernel
theorem dX5_takeImage_25 : decode cX5_takeImage 25 = .ok (.getfield 31, 3) := by decide +kernel
theorem dX5_takeImage_28 : decode cX5_takeImage 28 = .ok (.putfield 60, 3) := by decide +kernel
theorem dX5_takeImage_31 : decode cX5_takeImage 31 = .ok (.aload_n 0, 1) := by decide +kernel
theorem dX5_takeImage_32 : decode cX5_takeImage 32 = .ok (.aload_n 0, 1) := by decide +kernel
theorem dX5_takeImage_33 : decode cX5_takeImage 33 = .ok (.getfield 51, 3) := by decide +kernel
theorem dX5_takeImage_36 : decode cX5_takeImage 36 = .ok (.putfield 63, 3) := by decide +kernel
theorem dX5_takeImage_39 : decode cX5_takeImage 39 = .ok (.aload_n 0, 1) := by decide +kernel
theorem dX5_takeImage_40 : decode cX5_takeImage 40 = .ok (.iconst 1, 1) := by decide +kernel
theorem dX5_takeImage_41 : decode cX5_takeImage 41 = .ok (.putfield 34, 3) := by decide +kernel
theorem dX5_takeImage_44 : decode cX5_takeImage 44 = .ok (.return_, 1) := by decide +kernel
theorem dX8_growing_0 : decode cX8_growing 0 = .ok (.iconst 0, 1) := by decide +kernel
theorem dX8_growing_1 : decode cX8_growing 1 = .ok (.istore 4, 2) := by decide +kernel
theorem dX8_growing_3 : decode cX8_growing 3 = .ok (.iconst 0, 1) := by decide +kernel
theorem dX8_growing_4 : decode cX8_growing 4 = .ok (.istore 5, 2) := by decide +kernel
theorem dX8_growing_6 : decode cX8_growing 6 = .ok (.iload 5, 2) := by decide +kernel
theorem dX8_growing_8 : decode cX8_growing 8 = .ok (.aload_n 0, 1) := by decide +kernel
theorem dX8_growing_9 : decode cX8_growing 9 = .ok (.getfield 32, 3) := by decide +kernel
theorem dX8_growing_12 : decode cX8_growing 12 = .ok (.getfield 46, 3) := by decide +kernel
theorem dX8_growing_15 : decode cX8_growing 15 = .ok (.if_icmp .ge 30, 3) := by decide +kernel
theorem dX8_growing_18 : decode cX8_growing 18 = .ok (.aload_n 0, 1) := by decide +kernel
theorem dX8_growing_19 : decode cX8_growing 19 = .ok (.iload 5, 2) := by decide +kernel
theorem dX8_growing_21 : decode cX8_growing 21 = .ok (.iload_n 1, 1) := by decide +kernel
theorem dX8_growing_22 : decode cX8_growing 22 = .ok (.iload_n 2, 1) := by decide +kernel
theorem dX8_growing_23 : decode cX8_growing 23 = .ok (.iload_n 3, 1) := by decide +kernel
theorem dX8_growing_24 : decode cX8_growing 24 = .ok (.invokevirtual 93, 3) := by decide +kernel
theorem dX8_growing_27 : decode cX8_growing 27 = .ok (.ifCond .eq 12, 3) := by decide +kernel
theorem dX8_growing_30 : decode cX8_growing 30 = .ok (.iload 4, 2) := by decide +kernel
theorem dX8_growing_32 : decode cX8_growing 32 = .ok (.iconst 1, 1) := by decide +kernel
theorem dX8_growing_33 : decode cX8_growing 33 = .ok (.iload 5, 2) := by decide +kernel
theorem dX8_growing_35 : decode cX8_growing 35 = .ok (.ishl, 1) := by decide +kernel
theorem dX8_growing_36 : decode cX8_growing 36 = .ok (.ior, 1) := by decide +kernel
theorem dX8_growing_37 : decode cX8_growing 37 = .ok (.istore 4, 2) := by decide +kernel
theorem dX8_growing_39 : decode cX8_growing 39 = .ok (.iinc 5 1, 3) := by decide +kernel
theorem dX8_growing_42 : decode cX8_growing 42 = .ok (.goto (-36), 3) := by decide +kernel
theorem dX8_growing_45 : decode cX8_growing 45 = .ok (.iload 4, 2) := by decide +kernel
theorem dX8_growing_47 : decode cX8_growing 47 = .ok (.ireturn, 1) := by decide +kernel
theorem dX8_grows_0 : decode cX8_grows 0 = .ok (.iload_n 1, 1) := by decide +kernel
theorem dX8_grows_1 : decode cX8_grows 1 = .ok (.ifCond .lt 32, 3) := by decide +kernel
theorem dX8_grows_4 : decode cX8_grows 4 = .ok (.iload_n 1, 1) := by decide +kernel
theorem dX8_grows_5 : decode cX8_grows 5 = .ok (.aload_n 0, 1) := by decide +kernel
theorem dX8_grows_6 : decode cX8_grows 6 = .ok (.getfield 32, 3) := by decide +kernel
theorem dX8_grows_9 : decode cX8_grows 9 = .ok (.getfield 46, 3) := by decide +kernel
theorem dX8_grows_12 : decode cX8_grows 12 = .ok (.if_icmp .ge 21, 3) := by decide +kernel
theorem dX8_grows_15 : decode cX8_grows 15 = .ok (.iload_n 2, 1) := by decide +kernel
theorem dX8_grows_16 : decode cX8_grows 16 = .ok (.iload_n 3, 1) := by decide +kernel
theorem dX8_grows_17 : decode cX8_grows 17 = .ok (.ior, 1) := by decide +kernel
theorem dX8_grows_18 : decode cX8_grows 18 = .ok (.aload_n 0, 1) := by decide +kernel
theorem dX8_grows_19 : decode cX8_grows 19 = .ok (.getfield 32, 3) := by decide +kernel
theorem dX8_grows_22 : decode cX8_grows 22 = .ok (.getfield 52, 3) := by decide +kernel
theorem dX8_grows_25 : decode cX8_grows 25 = .ok (.ior, 1) := by decide +kernel
theorem dX8_grows_26 : decode cX8_grows 26 = .ok (.iload_n 1, 1) := by decide +kernel
theorem dX8_grows_27 : decode cX8_grows 27 = .ok (.ishr, 1) := by decide +kernel
theorem dX8_grows_28 : decode cX8_grows 28 = .ok (.iconst 1, 1) := by decide +kernel
theorem dX8_grows_29 : decode cX8_grows 29 = .ok (.iand, 1) := by decide +kernel
theorem dX8_grows_30 : decode cX8_grows 30 = .ok (.ifCond .eq 5, 3) := by decide +kernel
theorem dX8_grows_33 : decode cX8_grows 33 = .ok (.iconst 0, 1) := by decide +kernel
theorem dX8_grows_34 : decode cX8_grows 34 = .ok (.ireturn, 1) := by decide +kernel
theorem dX8_grows_35 : decode cX8_grows 35 = .ok (.aload_n 0, 1) := by decide +kernel
theorem dX8_grows_36 : decode cX8_grows 36 = .ok (.getfield 32, 3) := by decide +kernel
theorem dX8_grows_39 : decode cX8_grows 39 = .ok (.getfield 55, 3) := by decide +kernel
theorem dX8_grows_42 : decode cX8_grows 42 = .ok (.iload_n 1, 1) := by decide +kernel
theorem dX8_grows_43 : decode cX8_grows 43 = .ok (.iaload, 1) := by decide +kernel
theorem dX8_grows_44 : decode cX8_grows 44 = .ok (.iload_n 2, 1) := by decide +kernel
theorem dX8_grows_45 : decode cX8_grows 45 = .ok (.iand, 1) := by decide +kernel
theorem dX8_grows_46 : decode cX8_grows 46 = .ok (.invokestatic 58, 3) := by decide +kernel
theorem dX8_grows_49 : decode cX8_grows 49 = .ok (.istore 5, 2) := by decide +kernel
theorem dX8_grows_51 : decode cX8_grows 51 = .ok (.aload_n 0, 1) := by decide +kernel
theorem dX8_grows_52 : decode cX8_grows 52 = .ok (.getfield 36, 3) := by decide +kernel
theorem dX8_grows_55 : decode cX8_grows 55 = .ok (.ifnonnull 37, 3) := by decide +kernel
theorem dX8_grows_58 : decode cX8_grows 58 = .ok (.iload 5, 2) := by decide +kernel
theorem dX8_grows_60 : decode cX8_grows 60 = .ok (.aload_n 0, 1) := by decide +kernel
theorem dX8_grows_61 : decode cX8_grows 61 = .ok (.getfield 32, 3) := by decide +kernel
theorem dX8_grows_64 : decode cX8_grows 64 = .ok (.getfield 64, 3) := by decide +kernel
theorem dX8_grows_67 : decode cX8_grows 67 = .ok (.iconst 4, 1) := by decide +kernel
theorem dX8_grows_68 : decode cX8_grows 68 = .ok (.iaload, 1) := by decide +kernel
theorem dX8_grows_69 : decode cX8_grows 69 = .ok (.if_icmp .lt 21, 3) := by decide +kernel
theorem dX8_grows_72 : decode cX8_grows 72 = .ok (.iload 5, 2) := by decide +kernel
theorem dX8_grows_74 : decode cX8_grows 74 = .ok (.aload_n 0, 1) := by decide +kernel
theorem dX8_grows_75 : decode cX8_grows 75 = .ok (.getfield 32, 3) := by decide +kernel
theorem dX8_grows_78 : decode cX8_grows 78 = .ok (.getfield 64, 3) := by decide +kernel
theorem dX8_grows_81 : decode cX8_grows 81 = .ok (.iconst 5, 1) := by decide +kernel
theorem dX8_grows_82 : decode cX8_grows 82 = .ok (.iaload, 1) := by decide +kernel
theorem dX8_grows_83 : decode cX8_grows 83 = .ok (.if_icmp .gt 7, 3) := by decide +kernel
theorem dX8_grows_86 : decode cX8_grows 86 = .ok (.iconst 1, 1) := by decide +kernel
theorem dX8_grows_87 : decode cX8_grows 87 = .ok (.goto 4, 3) := by decide +kernel
theorem dX8_grows_90 : decode cX8_grows 90 = .ok (.iconst 0, 1) := by decide +kernel
theorem dX8_grows_91 : decode cX8_grows 91 = .ok (.ireturn, 1) := by decide +kernel
theorem dX8_grows_92 : decode cX8_grows 92 = .ok (.aload_n 0, 1) := by decide +kernel
theorem dX8_grows_93 : decode cX8_grows 93 = .ok (.getfield 36, 3) := by decide +kernel
theorem dX8_grows_96 : decode cX8_grows 96 = .ok (.getfield 67, 3) := by decide +kernel
theorem dX8_grows_99 : decode cX8_grows 99 = .ok (.ifCond .eq 10, 3) := by decide +kernel
theorem dX8_grows_102 : decode cX8_grows 102 = .ok (.iload 4, 2) := by decide +kernel
theorem dX8_grows_104 : decode cX8_grows 104 = .ok (.iconst 3, 1) := by decide +kernel
theorem dX8_grows_105 : decode cX8_grows 105 = .ok (.iand, 1) := by decide +kernel
theorem dX8_grows_106 : decode cX8_grows 106 = .ok (.goto 4, 3) := by decide +kernel
theorem dX8_grows_109 : decode cX8_grows 109 = .ok (.iconst 0, 1) := by decide +kernel
theorem dX8_grows_110 : decode cX8_grows 110 = .ok (.istore 6, 2) := by decide +kernel
theorem dX8_grows_112 : decode cX8_grows 112 = .ok (.aload_n 0, 1) := by decide +kernel
theorem dX8_grows_113 : decode cX8_grows 113 = .ok (.getfield 36, 3) := by decide +kernel
theorem dX8_grows_116 : decode cX8_grows 116 = .ok (.getfield 67, 3) := by decide +kernel
theorem dX8_grows_119 : decode cX8_grows 119 = .ok (.ifCond .eq 23, 3) := by decide +kernel
theorem dX8_grows_122 : decode cX8_grows 122 = .ok (.iload 4, 2) := by decide +kernel
theorem dX8_grows_124 : decode cX8_grows 124 = .ok (.aload_n 0, 1) := by decide +kernel
theorem dX8_grows_125 : decode cX8_grows 125 = .ok (.getfield 11, 3) := by decide +kernel
theorem dX8_grows_128 : decode cX8_grows 128 = .ok (.iload 6, 2) := by decide +kernel
theorem dX8_grows_130 : decode cX8_grows 130 = .ok (.iaload, 1) := by decide +kernel
theorem dX8_grows_131 : decode cX8_grows 131 = .ok (.if_icmp .eq 11, 3) := by decide +kernel
theorem dX8_grows_134 : decode cX8_grows 134 = .ok (.aload_n 0, 1) := by decide +kernel
theorem dX8_grows_135 : decode cX8_grows 135 = .ok (.iload 6, 2) := by decide +kernel
theorem dX8_grows_137 : decode cX8_grows 137 = .ok (.iload 4, 2) := by decide +kernel
theorem dX8_grows_139 : decode cX8_grows 139 = .ok (.invokevirtual 71, 3) := by decide +kernel
theorem dX8_grows_142 : decode cX8_grows 142 = .ok (.iload_n 2, 1) := by decide +kernel
theorem dX8_grows_143 : decode cX8_grows 143 = .ok (.invokestatic 58, 3) := by decide +kernel
theorem dX8_grows_146 : decode cX8_grows 146 = .ok (.istore 7, 2) := by decide +kernel
theorem dX8_grows_148 : decode cX8_grows 148 = .ok (.iload 6, 2) := by decide +kernel
theorem dX8_grows_150 : decode cX8_grows 150 = .ok (.sipush 279, 3) := by decide +kernel
theorem dX8_grows_153 : decode cX8_grows 153 = .ok (.imul, 1) := by decide +kernel
theorem dX8_grows_154 : decode cX8_grows 154 = .ok (.iload 5, 2) := by decide +kernel
theorem dX8_grows_156 : decode cX8_grows 156 = .ok (.bipush 31, 2) := by decide +kernel
theorem dX8_grows_158 : decode cX8_grows 158 = .ok (.imul, 1) := by decide +kernel
theorem dX8_grows_159 : decode cX8_grows 159 = .ok (.iadd, 1) := by decide +kernel
theorem dX8_grows_160 : decode cX8_grows 160 = .ok (.iload 7, 2) := by decide +kernel
theorem dX8_grows_162 : decode cX8_grows 162 = .ok (.iadd, 1) := by decide +kernel
theorem dX8_grows_163 : decode cX8_grows 163 = .ok (.istore 8, 2) := by decide +kernel
theorem dX8_grows_165 : decode cX8_grows 165 = .ok (.iload 8, 2) := by decide +kernel
theorem dX8_grows_167 : decode cX8_grows 167 = .ok (.aload_n 0, 1) := by decide +kernel
theorem dX8_grows_168 : decode cX8_grows 168 = .ok (.getfield 15, 3) := by decide +kernel
theorem dX8_grows_171 : decode cX8_grows 171 = .ok (.arraylength, 1) := by decide +kernel
theorem dX8_grows_172 : decode cX8_grows 172 = .ok (.if_icmp .lt 5, 3) := by decide +kernel
theorem dX8_grows_175 : decode cX8_grows 175 = .ok (.iconst 0, 1) := by decide +kernel
theorem dX8_grows_176 : decode cX8_grows 176 = .ok (.ireturn, 1) := by decide +kernel
theorem dX8_grows_177 : decode cX8_grows 177 = .ok (.iconst 1, 1) := by decide +kernel
theorem dX8_grows_178 : decode cX8_grows 178 = .ok (.iload_n 1, 1) := by decide +kernel
theorem dX8_grows_179 : decode cX8_grows 179 = .ok (.ishl, 1) := by decide +kernel
theorem dX8_grows_180 : decode cX8_grows 180 = .ok (.istore 9, 2) := by decide +kernel
theorem dX8_grows_182 : decode cX8_grows 182 = .ok (.aload_n 0, 1) := by decide +kernel
theorem dX8_grows_183 : decode cX8_grows 183 = .ok (.getfield 15, 3) := by decide +kernel
theorem dX8_grows_186 : decode cX8_grows 186 = .ok (.iload 8, 2) := by decide +kernel
theorem dX8_grows_188 : decode cX8_grows 188 = .ok (.iaload, 1) := by decide +kernel
theorem dX8_grows_189 : decode cX8_grows 189 = .ok (.iload 9, 2) := by decide +kernel
theorem dX8_grows_191 : decode cX8_grows 191 = .ok (.iand, 1) := by decide +kernel
theorem dX8_grows_192 : decode cX8_grows 192 = .ok (.ifCond .ne 52, 3) := by decide +kernel
theorem dX8_grows_195 : decode cX8_grows 195 = .ok (.aload_n 0, 1) := by decide +kernel
theorem dX8_grows_196 : decode cX8_grows 196 = .ok (.getfield 15, 3) := by decide +kernel
theorem dX8_grows_199 : decode cX8_grows 199 = .ok (.iload 8, 2) := by decide +kernel
theorem dX8_grows_201 : decode cX8_grows 201 = .ok (.dup2, 1) := by decide +kernel
theorem dX8_grows_202 : decode cX8_grows 202 = .ok (.iaload, 1) := by decide +kernel
theorem dX8_grows_203 : decode cX8_grows 203 = .ok (.iload 9, 2) := by decide +kernel
theorem dX8_grows_205 : decode cX8_grows 205 = .ok (.ior, 1) := by decide +kernel
theorem dX8_grows_206 : decode cX8_grows 206 = .ok (.iastore, 1) := by decide +kernel
theorem dX8_grows_207 : decode cX8_grows 207 = .ok (.aload_n 0, 1) := by decide +kernel
theorem dX8_grows_208 : decode cX8_grows 208 = .ok (.iload_n 1, 1) := by decide +kernel
theorem dX8_grows_209 : decode cX8_grows 209 = .ok (.iload 5, 2) := by decide +kernel
theorem dX8_grows_211 : decode cX8_grows 211 = .ok (.iload 4, 2) := by decide +kernel
theorem dX8_grows_213 : decode cX8_grows 213 = .ok (.iload 7, 2) := by decide +kernel
theorem dX8_grows_215 : decode cX8_grows 215 = .ok (.invokevirtual 75, 3) := by decide +kernel
theorem dX8_grows_218 : decode cX8_grows 218 = .ok (.aload_n 0, 1) := by decide +kernel
theorem dX8_grows_219 : decode cX8_grows 219 = .ok (.getfield 36, 3) := by decide +kernel
theorem dX8_grows_222 : decode cX8_grows 222 = .ok (.aload_n 0, 1) := by decide +kernel
theorem dX8_grows_223 : decode cX8_grows 223 = .ok (.getfield 23, 3) := by decide +kernel
theorem dX8_grows_226 : decode cX8_grows 226 = .ok (.invokevirtual 79, 3) := by decide +kernel
theorem dX8_grows_229 : decode cX8_grows 229 = .ok (.ifCond .le 15, 3) := by decide +kernel
theorem dX8_grows_232 : decode cX8_grows 232 = .ok (.aload_n 0, 1) := by decide +kernel
theorem dX8_grows_233 : decode cX8_grows 233 = .ok (.getfield 18, 3) := by decide +kernel
theorem dX8_grows_236 : decode cX8_grows 236 = .ok (.iload 8, 2) := by decide +kernel
theorem dX8_grows_238 : decode cX8_grows 238 = .ok (.dup2, 1) := by decide +kernel
theorem dX8_grows_239 : decode cX8_grows 239 = .ok (.iaload, 1) := by decide +kernel
theorem dX8_grows_240 : decode cX8_grows 240 = .ok (.iload 9, 2) := by decide +kernel
theorem dX8_grows_242 : decode cX8_grows 242 = .ok (.ior, 1) := by decide +kernel
theorem dX8_grows_243 : decode cX8_grows 243 = .ok (.iastore, 1) := by decide +kernel
theorem dX8_grows_244 : decode cX8_grows 244 = .ok (.aload_n 0, 1) := by decide +kernel
theorem dX8_grows_245 : decode cX8_grows 245 = .ok (.getfield 18, 3) := by decide +kernel
theorem dX8_grows_248 : decode cX8_grows 248 = .ok (.iload 8, 2) := by decide +kernel
theorem dX8_grows_250 : decode cX8_grows 250 = .ok (.iaload, 1) := by decide +kernel
theorem dX8_grows_251 : decode cX8_grows 251 = .ok (.iload 9, 2) := by decide +kernel
theorem dX8_grows_253 : decode cX8_grows 253 = .ok (.iand, 1) := by decide +kernel
theorem dX8_grows_254 : decode cX8_grows 254 = .ok (.ifCond .eq 7, 3) := by decide +kernel
theorem dX8_grows_257 : decode cX8_grows 257 = .ok (.iconst 1, 1) := by decide +kernel
theorem dX8_grows_258 : decode cX8_grows 258 = .ok (.goto 4, 3) := by decide +kernel
theorem dX8_grows_261 : decode cX8_grows 261 = .ok (.iconst 0, 1) := by decide +kernel
theorem dX8_grows_262 : decode cX8_grows 262 = .ok (.ireturn, 1) := by decide +kernel
theorem dX8_listCuts_0 : decode cX8_listCuts 0 = .ok (.aload_n 0, 1) := by decide +kernel
theorem dX8_listCuts_1 : decode cX8_listCuts 1 = .ok (.iconst 0, 1) := by decide +kernel
theorem dX8_listCuts_2 : decode cX8_listCuts 2 = .ok (.putfield 100, 3) := by decide +kernel
theorem dX8_listCuts_5 : decode cX8_listCuts 5 = .ok (.iconst 0, 1) := by decide +kernel
theorem dX8_listCuts_6 : decode cX8_listCuts 6 = .ok (.istore_n 2, 1) := by decide +kernel
theorem dX8_listCuts_7 : decode cX8_listCuts 7 = .ok (.iload_n 2, 1) := by decide +kernel
theorem dX8_listCuts_8 : decode cX8_listCuts 8 = .ok (.aload_n 0, 1) := by decide +kernel
theorem dX8_listCuts_9 : decode cX8_listCuts 9 = .ok (.getfield 32, 3) := by decide +kernel
theorem dX8_listCuts_12 : decode cX8_listCuts 12 = .ok (.getfield 46, 3) := by decide +kernel
theorem dX8_listCuts_15 : decode cX8_listCuts 15 = .ok (.if_icmp .ge 25, 3) := by decide +kernel
theorem dX8_listCuts_18 : decode cX8_listCuts 18 = .ok (.aload_n 0, 1) := by decide +kernel
theorem dX8_listCuts_19 : decode cX8_listCuts 19 = .ok (.iload_n 2, 1) := by decide +kernel
theorem dX8_listCuts_20 : decode cX8_listCuts 20 = .ok (.iconst 0, 1) := by decide +kernel
theorem dX8_listCuts_21 : decode cX8_listCuts 21 = .ok (.iconst 1, 1) := by decide +kernel
theorem dX8_listCuts_22 : decode cX8_listCuts 22 = .ok (.iload_n 1, 1) := by decide +kernel
theorem dX8_listCuts_23 : decode cX8_listCuts 23 = .ok (.invokevirtual 103, 3) := by decide +kernel
theorem dX8_listCuts_26 : decode cX8_listCuts 26 = .ok (.aload_n 0, 1) := by decide +kernel
theorem dX8_listCuts_27 : decode cX8_listCuts 27 = .ok (.iload_n 2, 1) := by decide +kernel
theorem dX8_listCuts_28 : decode cX8_listCuts 28 = .ok (.iconst 1, 1) := by decide +kernel
theorem dX8_listCuts_29 : decode cX8_listCuts 29 = .ok (.iconst 2, 1) := by decide +kernel
theorem dX8_listCuts_30 : decode cX8_listCuts 30 = .ok (.iload_n 1, 1) := by decide +kernel
theorem dX8_listCuts_31 : decode cX8_listCuts 31 = .ok (.invokevirtual 103, 3) := by decide +kernel
theorem dX8_listCuts_34 : decode cX8_listCuts 34 = .ok (.iinc 2 1, 3) := by decide +kernel
theorem dX8_listCuts_37 : decode cX8_listCuts 37 = .ok (.goto (-30), 3) := by decide +kernel
theorem dX8_listCuts_40 : decode cX8_listCuts 40 = .ok (.return_, 1) := by decide +kernel
theorem dX8_listWay_0 : decode cX8_listWay 0 = .ok (.iload_n 3, 1) := by decide +kernel
theorem dX8_listWay_1 : decode cX8_listWay 1 = .ok (.istore 5, 2) := by decide +kernel
theorem dX8_listWay_3 : decode cX8_listWay 3 = .ok (.iload 5, 2) := by decide +kernel
theorem dX8_listWay_5 : decode cX8_listWay 5 = .ok (.aload_n 0, 1) := by decide +kernel
theorem dX8_listWay_6 : decode cX8_listWay 6 = .ok (.getfield 32, 3) := by decide +kernel
theorem dX8_listWay_9 : decode cX8_listWay 9 = .ok (.getfield 64, 3) := by decide +kernel
theorem dX8_listWay_12 : decode cX8_listWay 12 = .ok (.iconst 3, 1) := by decide +kernel
theorem dX8_listWay_13 : decode cX8_listWay 13 = .ok (.iaload, 1) := by decide +kernel
theorem dX8_listWay_14 : decode cX8_listWay 14 = .ok (.if_icmp .gt 90, 3) := by decide +kernel
theorem dX8_listWay_17 : decode cX8_listWay 17 = .ok (.aload_n 0, 1) := by decide +kernel
theorem dX8_listWay_18 : decode cX8_listWay 18 = .ok (.getfield 32, 3) := by decide +kernel
theorem dX8_listWay_21 : decode cX8_listWay 21 = .ok (.iload_n 1, 1) := by decide +kernel
theorem dX8_listWay_22 : decode cX8_listWay 22 = .ok (.iload_n 2, 1) := by decide +kernel
theorem dX8_listWay_23 : decode cX8_listWay 23 = .ok (.iload 5, 2) := by decide +kernel
theorem dX8_listWay_25 : decode cX8_listWay 25 = .ok (.invokevirtual 106, 3) := by decide +kernel
theorem dX8_listWay_28 : decode cX8_listWay 28 = .ok (.istore 6, 2) := by decide +kernel
theorem dX8_listWay_30 : decode cX8_listWay 30 = .ok (.iload 6, 2) := by decide +kernel
theorem dX8_listWay_32 : decode cX8_listWay 32 = .ok (.ifCond .eq 23, 3) := by decide +kernel
theorem dX8_listWay_35 : decode cX8_listWay 35 = .ok (.iload 4, 2) := by decide +kernel
theorem dX8_listWay_37 : decode cX8_listWay 37 = .ok (.iload 6, 2) := by decide +kernel
theorem dX8_listWay_39 : decode cX8_listWay 39 = .ok (.iand, 1) := by decide +kernel
theorem dX8_listWay_40 : decode cX8_listWay 40 = .ok (.iload 6, 2) := by decide +kernel
theorem dX8_listWay_42 : decode cX8_listWay 42 = .ok (.if_icmp .ne 13, 3) := by decide +kernel
theorem dX8_listWay_45 : decode cX8_listWay 45 = .ok (.aload_n 0, 1) := by decide +kernel
theorem dX8_listWay_46 : decode cX8_listWay 46 = .ok (.getfield 100, 3) := by decide +kernel
theorem dX8_listWay_49 : decode cX8_listWay 49 = .ok (.sipush 270, 3) := by decide +kernel
theorem dX8_listWay_52 : decode cX8_listWay 52 = .ok (.if_icmp .lt 4, 3) := by decide +kernel
theorem dX8_listWay_55 : decode cX8_listWay 55 = .ok (.return_, 1) := by decide +kernel
theorem dX8_listWay_56 : decode cX8_listWay 56 = .ok (.aload_n 0, 1) := by decide +kernel
theorem dX8_listWay_57 : decode cX8_listWay 57 = .ok (.getfield 26, 3) := by decide +kernel
theorem dX8_listWay_60 : decode cX8_listWay 60 = .ok (.aload_n 0, 1) := by decide +kernel
theorem dX8_listWay_61 : decode cX8_listWay 61 = .ok (.getfield 100, 3) := by decide +kernel
theorem dX8_listWay_64 : decode cX8_listWay 64 = .ok (.bipush 100, 2) := by decide +kernel
theorem dX8_listWay_66 : decode cX8_listWay 66 = .ok (.iload_n 1, 1) := by decide +kernel
theorem dX8_listWay_67 : decode cX8_listWay 67 = .ok (.imul, 1) := by decide +kernel
theorem dX8_listWay_68 : decode cX8_listWay 68 = .ok (.bipush 10, 2) := by decide +kernel
theorem dX8_listWay_70 : decode cX8_listWay 70 = .ok (.iload_n 2, 1) := by decide +kernel
theorem dX8_listWay_71 : decode cX8_listWay 71 = .ok (.imul, 1) := by decide +kernel
theorem dX8_listWay_72 : decode cX8_listWay 72 = .ok (.iadd, 1) := by decide +kernel
theorem dX8_listWay_73 : decode cX8_listWay 73 = .ok (.iload 5, 2) := by decide +kernel
theorem dX8_listWay_75 : decode cX8_listWay 75 = .ok (.iadd, 1) := by decide +kernel
theorem dX8_listWay_76 : decode cX8_listWay 76 = .ok (.iastore, 1) := by decide +kernel
theorem dX8_listWay_77 : decode cX8_listWay 77 = .ok (.aload_n 0, 1) := by decide +kernel
theorem dX8_listWay_78 : decode cX8_listWay 78 = .ok (.getfield 29, 3) := by decide +kernel
theorem dX8_listWay_81 : decode cX8_listWay 81 = .ok (.aload_n 0, 1) := by decide +kernel
theorem dX8_listWay_82 : decode cX8_listWay 82 = .ok (.getfield 100, 3) := by decide +kernel
theorem dX8_listWay_85 : decode cX8_listWay 85 = .ok (.iload 6, 2) := by decide +kernel
theorem dX8_listWay_87 : decode cX8_listWay 87 = .ok (.iastore, 1) := by decide +kernel
theorem dX8_listWay_88 : decode cX8_listWay 88 = .ok (.aload_n 0, 1) := by decide +kernel
theorem dX8_listWay_89 : decode cX8_listWay 89 = .ok (.dup, 1) := by decide +kernel
theorem dX8_listWay_90 : decode cX8_listWay 90 = .ok (.getfield 100, 3) := by decide +kernel
theorem dX8_listWay_93 : decode cX8_listWay 93 = .ok (.iconst 1, 1) := by decide +kernel
theorem dX8_listWay_94 : decode cX8_listWay 94 = .ok (.iadd, 1) := by decide +kernel
theorem dX8_listWay_95 : decode cX8_listWay 95 = .ok (.putfield 100, 3) := by decide +kernel
theorem dX8_listWay_98 : decode cX8_listWay 98 = .ok (.iinc 5 1, 3) := by decide +kernel
theorem dX8_listWay_101 : decode cX8_listWay 101 = .ok (.goto (-98), 3) := by decide +kernel
theorem dX8_listWay_104 : decode cX8_listWay 104 = .ok (.return_, 1) := by decide +kernel
theorem dX8_lowest_0 : decode cX8_lowest 0 = .ok (.iconst 0, 1) := by decide +kernel
theorem dX8_lowest_1 : decode cX8_lowest 1 = .ok (.istore 4, 2) := by decide +kernel
theorem dX8_lowest_3 : decode cX8_lowest 3 = .ok (.iload 4, 2) := by decide +kernel
theorem dX8_lowest_5 : decode cX8_lowest 5 = .ok (.aload_n 0, 1) := by decide +kernel
theorem dX8_lowest_6 : decode cX8_lowest 6 = .ok (.getfield 32, 3) := by decide +kernel
theorem dX8_lowest_9 : decode cX8_lowest 9 = .ok (.getfield 46, 3) := by decide +kernel
theorem dX8_lowest_12 : decode cX8_lowest 12 = .ok (.if_icmp .ge 24, 3) := by decide +kernel
theorem dX8_lowest_15 : decode cX8_lowest 15 = .ok (.aload_n 0, 1) := by decide +kernel
theorem dX8_lowest_16 : decode cX8_lowest 16 = .ok (.iload 4, 2) := by decide +kernel
theorem dX8_lowest_18 : decode cX8_lowest 18 = .ok (.iload_n 1, 1) := by decide +kernel
theorem dX8_lowest_19 : decode cX8_lowest 19 = .ok (.iload_n 2, 1) := by decide +kernel
theorem dX8_lowest_20 : decode cX8_lowest 20 = .ok (.iload_n 3, 1) := by decide +kernel
theorem dX8_lowest_21 : decode cX8_lowest 21 = .ok (.invokevirtual 93, 3) := by decide +kernel
theorem dX8_lowest_24 : decode cX8_lowest 24 = .ok (.ifCond .eq 6, 3) := by decide +kernel
theorem dX8_lowest_27 : decode cX8_lowest 27 = .ok (.iload 4, 2) := by decide +kernel
theorem dX8_lowest_29 : decode cX8_lowest 29 = .ok (.ireturn, 1) := by decide +kernel
theorem dX8_lowest_30 : decode cX8_lowest 30 = .ok (.iinc 4 1, 3) := by decide +kernel
theorem dX8_lowest_33 : decode cX8_lowest 33 = .ok (.goto (-30), 3) := by decide +kernel
theorem dX8_lowest_36 : decode cX8_lowest 36 = .ok (.iconst (-1), 1) := by decide +kernel
theorem dX8_lowest_37 : decode cX8_lowest 37 = .ok (.ireturn, 1) := by decide +kernel
theorem dX8_setLetters_0 : decode cX8_setLetters 0 = .ok (.aload_n 0, 1) := by decide +kernel
theorem dX8_setLetters_1 : decode cX8_setLetters 1 = .ok (.getfield 23, 3) := by decide +kernel
theorem dX8_setLetters_4 : decode cX8_setLetters 4 = .ok (.iconst 0, 1) := by decide +kernel
theorem dX8_setLetters_5 : decode cX8_setLetters 5 = .ok (.iload_n 2, 1) := by decide +kernel
theorem dX8_setLetters_6 : decode cX8_setLetters 6 = .ok (.iastore, 1) := by decide +kernel
theorem dX8_setLetters_7 : decode cX8_setLetters 7 = .ok (.aload_n 0, 1) := by decide +kernel
theorem dX8_setLetters_8 : decode cX8_setLetters 8 = .ok (.getfield 23, 3) := by decide +kernel
theorem dX8_setLetters_11 : decode cX8_setLetters 11 = .ok (.iconst 1, 1) := by decide +kernel
theorem dX8_setLetters_12 : decode cX8_setLetters 12 = .ok (.aload_n 0, 1) := by decide +kernel
theorem dX8_setLetters_13 : decode cX8_setLetters 13 = .ok (.getfield 32, 3) := by decide +kernel
theorem dX8_setLetters_16 : decode cX8_setLetters 16 = .ok (.iload_n 1, 1) := by decide +kernel
theorem dX8_setLetters_17 : decode cX8_setLetters 17 = .ok (.invokevirtual 83, 3) := by decide +kernel
theorem dX8_setLetters_20 : decode cX8_setLetters 20 = .ok (.iastore, 1) := by decide +kernel
theorem dX8_setLetters_21 : decode cX8_setLetters 21 = .ok (.aload_n 0, 1) := by decide +kernel
theorem dX8_setLetters_22 : decode cX8_setLetters 22 = .ok (.getfield 23, 3) := by decide +kernel
theorem dX8_setLetters_25 : decode cX8_setLetters 25 = .ok (.iconst 2, 1) := by decide +kernel
theorem dX8_setLetters_26 : decode cX8_setLetters 26 = .ok (.aload_n 0, 1) := by decide +kernel
theorem dX8_setLetters_27 : decode cX8_setLetters 27 = .ok (.getfield 32, 3) := by decide +kernel
theorem dX8_setLetters_30 : decode cX8_setLetters 30 = .ok (.iload_n 1, 1) := by decide +kernel
theorem dX8_setLetters_31 : decode cX8_setLetters 31 = .ok (.invokevirtual 86, 3) := by decide +kernel
theorem dX8_setLetters_34 : decode cX8_setLetters 34 = .ok (.iastore, 1) := by decide +kernel
theorem dX8_setLetters_35 : decode cX8_setLetters 35 = .ok (.aload_n 0, 1) := by decide +kernel
theorem dX8_setLetters_36 : decode cX8_setLetters 36 = .ok (.getfield 23, 3) := by decide +kernel
theorem dX8_setLetters_39 : decode cX8_setLetters 39 = .ok (.iconst 3, 1) := by decide +kernel
theorem dX8_setLetters_40 : decode cX8_setLetters 40 = .ok (.aload_n 0, 1) := by decide +kernel
theorem dX8_setLetters_41 : decode cX8_setLetters 41 = .ok (.getfield 32, 3) := by decide +kernel
theorem dX8_setLetters_44 : decode cX8_setLetters 44 = .ok (.iload_n 1, 1) := by decide +kernel
theorem dX8_setLetters_45 : decode cX8_setLetters 45 = .ok (.aload_n 0, 1) := by decide +kernel
theorem dX8_setLetters_46 : decode cX8_setLetters 46 = .ok (.getfield 32, 3) := by decide +kernel
theorem dX8_setLetters_49 : decode cX8_setLetters 49 = .ok (.getfield 52, 3) := by decide +kernel
theorem dX8_setLetters_52 : decode cX8_setLetters 52 = .ok (.invokevirtual 89, 3) := by decide +kernel
theorem dX8_setLetters_55 : decode cX8_setLetters 55 = .ok (.iastore, 1) := by decide +kernel
theorem dX8_setLetters_56 : decode cX8_setLetters 56 = .ok (.aload_n 0, 1) := by decide +kernel
theorem dX8_setLetters_57 : decode cX8_setLetters 57 = .ok (.getfield 23, 3) := by decide +kernel
theorem dX8_setLetters_60 : decode cX8_setLetters 60 = .ok (.iconst 4, 1) := by decide +kernel
theorem dX8_setLetters_61 : decode cX8_setLetters 61 = .ok (.iload_n 3, 1) := by decide +kernel
theorem dX8_setLetters_62 : decode cX8_setLetters 62 = .ok (.iastore, 1) := by decide +kernel
theorem dX8_setLetters_63 : decode cX8_setLetters 63 = .ok (.aload_n 0, 1) := by decide +kernel
theorem dX8_setLetters_64 : decode cX8_setLetters 64 = .ok (.getfield 23, 3) := by decide +kernel
theorem dX8_setLetters_67 : decode cX8_setLetters 67 = .ok (.iconst 5, 1) := by decide +kernel
theorem dX8_setLetters_68 : decode cX8_setLetters 68 = .ok (.iload 4, 2) := by decide +kernel
theorem dX8_setLetters_70 : decode cX8_setLetters 70 = .ok (.iastore, 1) := by decide +kernel
theorem dX8_setLetters_71 : decode cX8_setLetters 71 = .ok (.return_, 1) := by decide +kernel
theorem dX8_threatBits_0 : decode cX8_threatBits 0 = .ok (.iconst 0, 1) := by decide +kernel
theorem dX8_threatBits_1 : decode cX8_threatBits 1 = .ok (.istore 4, 2) := by decide +kernel
theorem dX8_threatBits_3 : decode cX8_threatBits 3 = .ok (.aload_n 0, 1) := by decide +kernel
theorem dX8_threatBits_4 : decode cX8_threatBits 4 = .ok (.getfield 32, 3) := by decide +kernel
theorem dX8_threatBits_7 : decode cX8_threatBits 7 = .ok (.iload_n 1, 1) := by decide +kernel
theorem dX8_threatBits_8 : decode cX8_threatBits 8 = .ok (.invokevirtual 97, 3) := by decide +kernel
theorem dX8_threatBits_11 : decode cX8_threatBits 11 = .ok (.istore 5, 2) := by decide +kernel
theorem dX8_threatBits_13 : decode cX8_threatBits 13 = .ok (.iconst 0, 1) := by decide +kernel
theorem dX8_threatBits_14 : decode cX8_threatBits 14 = .ok (.istore 6, 2) := by decide +kernel
theorem dX8_threatBits_16 : decode cX8_threatBits 16 = .ok (.iload 6, 2) := by decide +kernel
theorem dX8_threatBits_18 : decode cX8_threatBits 18 = .ok (.aload_n 0, 1) := by decide +kernel
theorem dX8_threatBits_19 : decode cX8_threatBits 19 = .ok (.getfield 32, 3) := by decide +kernel
theorem dX8_threatBits_22 : decode cX8_threatBits 22 = .ok (.getfield 46, 3) := by decide +kernel
theorem dX8_threatBits_25 : decode cX8_threatBits 25 = .ok (.if_icmp .ge 40, 3) := by decide +kernel
theorem dX8_threatBits_28 : decode cX8_threatBits 28 = .ok (.iload 5, 2) := by decide +kernel
theorem dX8_threatBits_30 : decode cX8_threatBits 30 = .ok (.iload 6, 2) := by decide +kernel
theorem dX8_threatBits_32 : decode cX8_threatBits 32 = .ok (.ishr, 1) := by decide +kernel
theorem dX8_threatBits_33 : decode cX8_threatBits 33 = .ok (.iconst 1, 1) := by decide +kernel
theorem dX8_threatBits_34 : decode cX8_threatBits 34 = .ok (.iand, 1) := by decide +kernel
theorem dX8_threatBits_35 : decode cX8_threatBits 35 = .ok (.ifCond .eq 24, 3) := by decide +kernel
theorem dX8_threatBits_38 : decode cX8_threatBits 38 = .ok (.aload_n 0, 1) := by decide +kernel
theorem dX8_threatBits_39 : decode cX8_threatBits 39 = .ok (.iload 6, 2) := by decide +kernel
theorem dX8_threatBits_41 : decode cX8_threatBits 41 = .ok (.iload_n 1, 1) := by decide +kernel
theorem dX8_threatBits_42 : decode cX8_threatBits 42 = .ok (.iload_n 2, 1) := by decide +kernel
theorem dX8_threatBits_43 : decode cX8_threatBits 43 = .ok (.iload_n 3, 1) := by decide +kernel
theorem dX8_threatBits_44 : decode cX8_threatBits 44 = .ok (.invokevirtual 93, 3) := by decide +kernel
theorem dX8_threatBits_47 : decode cX8_threatBits 47 = .ok (.ifCond .eq 12, 3) := by decide +kernel
theorem dX8_threatBits_50 : decode cX8_threatBits 50 = .ok (.iload 4, 2) := by decide +kernel
theorem dX8_threatBits_52 : decode cX8_threatBits 52 = .ok (.iconst 1, 1) := by decide +kernel
theorem dX8_threatBits_53 : decode cX8_threatBits 53 = .ok (.iload 6, 2) := by decide +kernel
theorem dX8_threatBits_55 : decode cX8_threatBits 55 = .ok (.ishl, 1) := by decide +kernel
theorem dX8_threatBits_56 : decode cX8_threatBits 56 = .ok (.ior, 1) := by decide +kernel
theorem dX8_threatBits_57 : decode cX8_threatBits 57 = .ok (.istore 4, 2) := by decide +kernel
theorem dX8_threatBits_59 : decode cX8_threatBits 59 = .ok (.iinc 6 1, 3) := by decide +kernel
theorem dX8_threatBits_62 : decode cX8_threatBits 62 = .ok (.goto (-46), 3) := by decide +kernel
theorem dX8_threatBits_65 : decode cX8_threatBits 65 = .ok (.iload 4, 2) := by decide +kernel
theorem dX8_threatBits_67 : decode cX8_threatBits 67 = .ok (.ireturn, 1) := by decide +kernel
theorem dX8_threatened_0 : decode cX8_threatened 0 = .ok (.aload_n 0, 1) := by decide +kernel
theorem dX8_threatened_1 : decode cX8_threatened 1 = .ok (.getfield 32, 3) := by decide +kernel
theorem dX8_threatened_4 : decode cX8_threatened 4 = .ok (.iload_n 1, 1) := by decide +kernel
theorem dX8_threatened_5 : decode cX8_threatened 5 = .ok (.invokevirtual 97, 3) := by decide +kernel
theorem dX8_threatened_8 : decode cX8_threatened 8 = .ok (.istore 4, 2) := by decide +kernel
theorem dX8_threatened_10 : decode cX8_threatened 10 = .ok (.iconst 0, 1) := by decide +kernel
theorem dX8_threatened_11 : decode cX8_threatened 11 = .ok (.istore 5, 2) := by decide +kernel
theorem dX8_threatened_13 : decode cX8_threatened 13 = .ok (.iload 5, 2) := by decide +kernel
theorem dX8_threatened_15 : decode cX8_threatened 15 = .ok (.aload_n 0, 1) := by decide +kernel
theorem dX8_threatened_16 : decode cX8_threatened 16 = .ok (.getfield 32, 3) := by decide +kernel
theorem dX8_threatened_19 : decode cX8_threatened 19 = .ok (.getfield 46, 3) := by decide +kernel
theorem dX8_threatened_22 : decode cX8_threatened 22 = .ok (.if_icmp .ge 41, 3) := by decide +kernel
theorem dX8_threatened_25 : decode cX8_threatened 25 = .ok (.iload 4, 2) := by decide +kernel
theorem dX8_threatened_27 : decode cX8_threatened 27 = .ok (.iload 5, 2) := by decide +kernel
theorem dX8_threatened_29 : decode cX8_threatened 29 = .ok (.ishr, 1) := by decide +kernel
theorem dX8_threatened_30 : decode cX8_threatened 30 = .ok (.ifCond .eq 33, 3) := by decide +kernel
theorem dX8_threatened_33 : decode cX8_threatened 33 = .ok (.iload 4, 2) := by decide +kernel
theorem dX8_threatened_35 : decode cX8_threatened 35 = .ok (.iload 5, 2) := by decide +kernel
theorem dX8_threatened_37 : decode cX8_threatened 37 = .ok (.ishr, 1) := by decide +kernel
theorem dX8_threatened_38 : decode cX8_threatened 38 = .ok (.iconst 1, 1) := by decide +kernel
theorem dX8_threatened_39 : decode cX8_threatened 39 = .ok (.iand, 1) := by decide +kernel
theorem dX8_threatened_40 : decode cX8_threatened 40 = .ok (.ifCond .eq 17, 3) := by decide +kernel
theorem dX8_threatened_43 : decode cX8_threatened 43 = .ok (.aload_n 0, 1) := by decide +kernel
theorem dX8_threatened_44 : decode cX8_threatened 44 = .ok (.iload 5, 2) := by decide +kernel
theorem dX8_threatened_46 : decode cX8_threatened 46 = .ok (.iload_n 1, 1) := by decide +kernel
theorem dX8_threatened_47 : decode cX8_threatened 47 = .ok (.iload_n 2, 1) := by decide +kernel
theorem dX8_threatened_48 : decode cX8_threatened 48 = .ok (.iload_n 3, 1) := by decide +kernel
theorem dX8_threatened_49 : decode cX8_threatened 49 = .ok (.invokevirtual 93, 3) := by decide +kernel
theorem dX8_threatened_52 : decode cX8_threatened 52 = .ok (.ifCond .eq 5, 3) := by decide +kernel
theorem dX8_threatened_55 : decode cX8_threatened 55 = .ok (.iconst 1, 1) := by decide +kernel
theorem dX8_threatened_56 : decode cX8_threatened 56 = .ok (.ireturn, 1) := by decide +kernel
theorem dX8_threatened_57 : decode cX8_threatened 57 = .ok (.iinc 5 1, 3) := by decide +kernel
theorem dX8_threatened_60 : decode cX8_threatened 60 = .ok (.goto (-47), 3) := by decide +kernel
theorem dX8_threatened_63 : decode cX8_threatened 63 = .ok (.iconst 0, 1) := by decide +kernel
theorem dX8_threatened_64 : decode cX8_threatened 64 = .ok (.ireturn, 1) := by decide +kernel
theorem dX8_turnTo_0 : decode cX8_turnTo 0 = .ok (.aload_n 0, 1) := by decide +kernel
theorem dX8_turnTo_1 : decode cX8_turnTo 1 = .ok (.getfield 11, 3) := by decide +kernel
theorem dX8_turnTo_4 : decode cX8_turnTo 4 = .ok (.iload_n 1, 1) := by decide +kernel
theorem dX8_turnTo_5 : decode cX8_turnTo 5 = .ok (.iload_n 2, 1) := by decide +kernel
theorem dX8_turnTo_6 : decode cX8_turnTo 6 = .ok (.iastore, 1) := by decide +kernel
theorem dX8_turnTo_7 : decode cX8_turnTo 7 = .ok (.iload_n 1, 1) := by decide +kernel
theorem dX8_turnTo_8 : decode cX8_turnTo 8 = .ok (.iconst 1, 1) := by decide +kernel
theorem dX8_turnTo_9 : decode cX8_turnTo 9 = .ok (.iadd, 1) := by decide +kernel
theorem dX8_turnTo_10 : decode cX8_turnTo 10 = .ok (.sipush 279, 3) := by decide +kernel
theorem dX8_turnTo_13 : decode cX8_turnTo 13 = .ok (.imul, 1) := by decide +kernel
theorem dX8_turnTo_14 : decode cX8_turnTo 14 = .ok (.istore_n 3, 1) := by decide +kernel
theorem dX8_turnTo_15 : decode cX8_turnTo 15 = .ok (.iload_n 1, 1) := by decide +kernel
theorem dX8_turnTo_16 : decode cX8_turnTo 16 = .ok (.sipush 279, 3) := by decide +kernel
theorem dX8_turnTo_19 : decode cX8_turnTo 19 = .ok (.imul, 1) := by decide +kernel
theorem dX8_turnTo_20 : decode cX8_turnTo 20 = .ok (.istore 4, 2) := by decide +kernel
theorem dX8_turnTo_22 : decode cX8_turnTo 22 = .ok (.iload 4, 2) := by decide +kernel
theorem dX8_turnTo_24 : decode cX8_turnTo 24 = .ok (.iload_n 3, 1) := by decide +kernel
theorem dX8_turnTo_25 : decode cX8_turnTo 25 = .ok (.if_icmp .ge 25, 3) := by decide +kernel
theorem dX8_turnTo_28 : decode cX8_turnTo 28 = .ok (.aload_n 0, 1) := by decide +kernel
theorem dX8_turnTo_29 : decode cX8_turnTo 29 = .ok (.getfield 15, 3) := by decide +kernel
theorem dX8_turnTo_32 : decode cX8_turnTo 32 = .ok (.iload 4, 2) := by decide +kernel
theorem dX8_turnTo_34 : decode cX8_turnTo 34 = .ok (.iconst 0, 1) := by decide +kernel
theorem dX8_turnTo_35 : decode cX8_turnTo 35 = .ok (.iastore, 1) := by decide +kernel
theorem dX8_turnTo_36 : decode cX8_turnTo 36 = .ok (.aload_n 0, 1) := by decide +kernel
theorem dX8_turnTo_37 : decode cX8_turnTo 37 = .ok (.getfield 18, 3) := by decide +kernel
theorem dX8_turnTo_40 : decode cX8_turnTo 40 = .ok (.iload 4, 2) := by decide +kernel
theorem dX8_turnTo_42 : decode cX8_turnTo 42 = .ok (.iconst 0, 1) := by decide +kernel
theorem dX8_turnTo_43 : decode cX8_turnTo 43 = .ok (.iastore, 1) := by decide +kernel
theorem dX8_turnTo_44 : decode cX8_turnTo 44 = .ok (.iinc 4 1, 3) := by decide +kernel
theorem dX8_turnTo_47 : decode cX8_turnTo 47 = .ok (.goto (-25), 3) := by decide +kernel
theorem dX8_turnTo_50 : decode cX8_turnTo 50 = .ok (.return_, 1) := by decide +kernel
theorem wl_6_87 : (.methodLink RX5 54 arraycopyName : Cond) ∈ sg_tbl := tb_6 _ (List.mem_of_getElem? (i := 87) (by decide +kernel)) (by decide +kernel)
theorem wl_3_42 : (.native arraycopyName : Cond) ∈ sg_tbl := tb_3 _ (List.mem_of_getElem? (i := 42) (by decide +kernel)) (by decide +kernel)
theorem wl_3_41 : (.static arraycopyName : Cond) ∈ sg_tbl := tb_3 _ (List.mem_of_getElem? (i := 41) (by decide +kernel)) (by decide +kernel)
theorem wl_1_14 : (.initialized "java/lang/System" : Cond) ∈ sg_tbl := tb_1 _ (List.mem_of_getElem? (i := 14) (by decide +kernel)) (by decide +kernel)
theorem wl_1_170 : (.fieldLink RX5 20 "LawnAhead$History" "imageState" "LLawnAhead$State;" : Cond) ∈ sg_tbl := tb_1 _ (List.mem_of_getElem? (i := 170) (by decide +kernel)) (by decide +kernel)
theorem wl_1_171 : (.fieldLink RX5 24 "LawnAhead$History" "imageDeeds" "[I" : Cond) ∈ sg_tbl := tb_1 _ (List.mem_of_getElem? (i := 171) (by decide +kernel)) (by decide +kernel)
theorem wl_1_178 : (.fieldLink RX5 60 "LawnAhead$History" "imageKept" "I" : Cond) ∈ sg_tbl := tb_1 _ (List.mem_of_getElem? (i := 178) (by decide +kernel)) (by decide +kernel)
theorem wl_1_179 : (.fieldLink RX5 63 "LawnAhead$History" "imageNextDeed" "I" : Cond) ∈ sg_tbl := tb_1 _ (List.mem_of_getElem? (i := 179) (by decide +kernel)) (by decide +kernel)
theorem wl_2_40 : (.fieldLink RX8 11 "LawnAhead$Sight" "pageDays" "[I" : Cond) ∈ sg_tbl := tb_2 _ (List.mem_of_getElem? (i := 40) (by decide +kernel)) (by decide +kernel)
theorem wl_2_41 : (.fieldLink RX8 15 "LawnAhead$Sight" "reckoned" "[I" : Cond) ∈ sg_tbl := tb_2 _ (List.mem_of_getElem? (i := 41) (by decide +kernel)) (by decide +kernel)
theorem wl_2_42 : (.fieldLink RX8 18 "LawnAhead$Sight" "worthy" "[I" : Cond) ∈ sg_tbl := tb_2 _ (List.mem_of_getElem? (i := 42) (by decide +kernel)) (by decide +kernel)
theorem wl_2_43 : (.fieldLink RX8 23 "LawnAhead$Sight" "letters" "[I" : Cond) ∈ sg_tbl := tb_2 _ (List.mem_of_getElem? (i := 43) (by decide +kernel)) (by decide +kernel)
theorem wl_2_35 : (.fieldLink RX8 32 "LawnAhead$Sight" "ground" "LLawnAhead$Ground;" : Cond) ∈ sg_tbl := tb_2 _ (List.mem_of_getElem? (i := 35) (by decide +kernel)) (by decide +kernel)
theorem wl_4_116 : (.methodLink RX8 83 yX4_row : Cond) ∈ sg_tbl := tb_4 _ (List.mem_of_getElem? (i := 116) (by decide +kernel)) (by decide +kernel)
theorem wl_4_120 : (.methodLink RX8 86 yX4_column : Cond) ∈ sg_tbl := tb_4 _ (List.mem_of_getElem? (i := 120) (by decide +kernel)) (by decide +kernel)
theorem wl_1_231 : (.fieldLink RX8 52 "LawnAhead$Ground" "beds" "I" : Cond) ∈ sg_tbl := tb_1 _ (List.mem_of_getElem? (i := 231) (by decide +kernel)) (by decide +kernel)
theorem wl_4_121 : (.methodLink RX8 89 yX4_around : Cond) ∈ sg_tbl := tb_4 _ (List.mem_of_getElem? (i := 121) (by decide +kernel)) (by decide +kernel)
theorem wl_1_218 : (.fieldLink RX8 46 "LawnAhead$Ground" "cells" "I" : Cond) ∈ sg_tbl := tb_1 _ (List.mem_of_getElem? (i := 218) (by decide +kernel)) (by decide +kernel)
theorem wl_1_213 : (.fieldLink RX8 55 "LawnAhead$Ground" "near" "[I" : Cond) ∈ sg_tbl := tb_1 _ (List.mem_of_getElem? (i := 213) (by decide +kernel)) (by decide +kernel)
theorem wl_4_102 : (.methodLink RX8 58 yJ6_bitCount_0f7a4 : Cond) ∈ sg_tbl := tb_4 _ (List.mem_of_getElem? (i := 102) (by decide +kernel)) (by decide +kernel)
theorem wl_2_39 : (.fieldLink RX8 36 "LawnAhead$Sight" "law" "LLawnAhead$Law;" : Cond) ∈ sg_tbl := tb_2 _ (List.mem_of_getElem? (i := 39) (by decide +kernel)) (by decide +kernel)
theorem wl_1_210 : (.fieldLink RX8 64 "LawnAhead$Ground" "rules" "[I" : Cond) ∈ sg_tbl := tb_1 _ (List.mem_of_getElem? (i := 210) (by decide +kernel)) (by decide +kernel)
theorem wl_1_73 : (.fieldLink RX8 67 "LawnAhead$Law" "usesDay" "Z" : Cond) ∈ sg_tbl := tb_1 _ (List.mem_of_getElem? (i := 73) (by decide +kernel)) (by decide +kernel)
theorem wl_4_112 : (.methodLink RX8 75 yX8_setLetters : Cond) ∈ sg_tbl := tb_4 _ (List.mem_of_getElem? (i := 112) (by decide +kernel)) (by decide +kernel)
theorem wl_4_126 : (.methodLink RX8 79 yX6_worth : Cond) ∈ sg_tbl := tb_4 _ (List.mem_of_getElem? (i := 126) (by decide +kernel)) (by decide +kernel)
theorem wl_4_108 : (.methodLink RX8 71 yX8_turnTo : Cond) ∈ sg_tbl := tb_4 _ (List.mem_of_getElem? (i := 108) (by decide +kernel)) (by decide +kernel)
theorem wl_4_158 : (.methodLink RX8 93 yX8_grows : Cond) ∈ sg_tbl := tb_4 _ (List.mem_of_getElem? (i := 158) (by decide +kernel)) (by decide +kernel)
theorem wl_4_154 : (.methodLink RX8 97 yX4_winners : Cond) ∈ sg_tbl := tb_4 _ (List.mem_of_getElem? (i := 154) (by decide +kernel)) (by decide +kernel)
theorem wl_4_227 : (.methodLink RX8 106 yX4_cutBits : Cond) ∈ sg_tbl := tb_4 _ (List.mem_of_getElem? (i := 227) (by decide +kernel)) (by decide +kernel)
theorem wl_2_53 : (.fieldLink RX8 100 "LawnAhead$Sight" "listed" "I" : Cond) ∈ sg_tbl := tb_2 _ (List.mem_of_getElem? (i := 53) (by decide +kernel)) (by decide +kernel)
theorem wl_2_44 : (.fieldLink RX8 26 "LawnAhead$Sight" "codes" "[I" : Cond) ∈ sg_tbl := tb_2 _ (List.mem_of_getElem? (i := 44) (by decide +kernel)) (by decide +kernel)
theorem wl_2_48 : (.fieldLink RX8 29 "LawnAhead$Sight" "taken" "[I" : Cond) ∈ sg_tbl := tb_2 _ (List.mem_of_getElem? (i := 48) (by decide +kernel)) (by decide +kernel)
theorem wl_4_223 : (.methodLink RX8 103 yX8_listWay : Cond) ∈ sg_tbl := tb_4 _ (List.mem_of_getElem? (i := 223) (by decide +kernel)) (by decide +kernel)
theorem wl_5_13 : (.code yX5_deed cX5_deed 2 (some .int) : Cond) ∈ sg_tbl := tb_5 _ (List.mem_of_getElem? (i := 13) (by decide +kernel)) (by decide +kernel)
theorem wl_5_11 : (.instanceMethod yX5_deed : Cond) ∈ sg_tbl := tb_5 _ (List.mem_of_getElem? (i := 11) (by decide +kernel)) (by decide +kernel)
theorem wl_5_12 : (.selects RX5 yX5_deed yX5_deed : Cond) ∈ sg_tbl := tb_5 _ (List.mem_of_getElem? (i := 12) (by decide +kernel)) (by decide +kernel)
theorem wl_6_86 : (.code yX5_takeImage cX5_takeImage 2 none : Cond) ∈ sg_tbl := tb_6 _ (List.mem_of_getElem? (i := 86) (by decide +kernel)) (by decide +kernel)
theorem wl_6_84 : (.instanceMethod yX5_takeImage : Cond) ∈ sg_tbl := tb_6 _ (List.mem_of_getElem? (i := 84) (by decide +kernel)) (by decide +kernel)
theorem wl_6_85 : (.selects RX5 yX5_takeImage yX5_takeImage : Cond) ∈ sg_tbl := tb_6 _ (List.mem_of_getElem? (i := 85) (by decide +kernel)) (by decide +kernel)
theorem wl_6_95 : (.code yX5_bringBack cX5_bringBack 2 (some .boolean) : Cond) ∈ sg_tbl := tb_6 _ (List.mem_of_getElem? (i := 95) (by decide +kernel)) (by decide +kernel)
theorem wl_6_93 : (.instanceMethod yX5_bringBack : Cond) ∈ sg_tbl := tb_6 _ (List.mem_of_getElem? (i := 93) (by decide +kernel)) (by decide +kernel)
theorem wl_6_94 : (.selects RX5 yX5_bringBack yX5_bringBack : Cond) ∈ sg_tbl := tb_6 _ (List.mem_of_getElem? (i := 94) (by decide +kernel)) (by decide +kernel)
theorem wl_1_8 : (.initialized RX8 : Cond) ∈ sg_tbl := tb_1 _ (List.mem_of_getElem? (i := 8) (by decide +kernel)) (by decide +kernel)
theorem wl_4_111 : (.code yX8_turnTo cX8_turnTo 5 none : Cond) ∈ sg_tbl := tb_4 _ (List.mem_of_getElem? (i := 111) (by decide +kernel)) (by decide +kernel)
theorem wl_4_110 : (.instanceMethod yX8_turnTo : Cond) ∈ sg_tbl := tb_4 _ (List.mem_of_getElem? (i := 110) (by decide +kernel)) (by decide +kernel)
theorem wl_0_22 : (.selects RX8 yX8_turnTo yX8_turnTo : Cond) ∈ sg_tbl := tb_0 _ (List.mem_of_getElem? (i := 22) (by decide +kernel)) (by decide +kernel)
theorem wl_4_115 : (.code yX8_setLetters cX8_setLetters 5 none : Cond) ∈ sg_tbl := tb_4 _ (List.mem_of_getElem? (i := 115) (by decide +kernel)) (by decide +kernel)
theorem wl_4_114 : (.instanceMethod yX8_setLetters : Cond) ∈ sg_tbl := tb_4 _ (List.mem_of_getElem? (i := 114) (by decide +kernel)) (by decide +kernel)
theorem wl_0_23 : (.selects RX8 yX8_setLetters yX8_setLetters : Cond) ∈ sg_tbl := tb_0 _ (List.mem_of_getElem? (i := 23) (by decide +kernel)) (by decide +kernel)
theorem wl_4_101 : (.code yX8_grows cX8_grows 10 (some .boolean) : Cond) ∈ sg_tbl := tb_4 _ (List.mem_of_getElem? (i := 101) (by decide +kernel)) (by decide +kernel)
theorem wl_4_99 : (.instanceMethod yX8_grows : Cond) ∈ sg_tbl := tb_4 _ (List.mem_of_getElem? (i := 99) (by decide +kernel)) (by decide +kernel)
theorem wl_4_100 : (.selects RX8 yX8_grows yX8_grows : Cond) ∈ sg_tbl := tb_4 _ (List.mem_of_getElem? (i := 100) (by decide +kernel)) (by decide +kernel)
theorem wl_4_211 : (.code yX8_growing cX8_growing 6 (some .int) : Cond) ∈ sg_tbl := tb_4 _ (List.mem_of_getElem? (i := 211) (by decide +kernel)) (by decide +kernel)
theorem wl_4_209 : (.instanceMethod yX8_growing : Cond) ∈ sg_tbl := tb_4 _ (List.mem_of_getElem? (i := 209) (by decide +kernel)) (by decide +kernel)
theorem wl_4_210 : (.selects RX8 yX8_growing yX8_growing : Cond) ∈ sg_tbl := tb_4 _ (List.mem_of_getElem? (i := 210) (by decide +kernel)) (by decide +kernel)
theorem wl_5_45 : (.code yX8_lowest cX8_lowest 5 (some .int) : Cond) ∈ sg_tbl := tb_5 _ (List.mem_of_getElem? (i := 45) (by decide +kernel)) (by decide +kernel)
theorem wl_5_43 : (.instanceMethod yX8_lowest : Cond) ∈ sg_tbl := tb_5 _ (List.mem_of_getElem? (i := 43) (by decide +kernel)) (by decide +kernel)
theorem wl_5_44 : (.selects RX8 yX8_lowest yX8_lowest : Cond) ∈ sg_tbl := tb_5 _ (List.mem_of_getElem? (i := 44) (by decide +kernel)) (by decide +kernel)
theorem wl_4_231 : (.code yX8_threatBits cX8_threatBits 7 (some .int) : Cond) ∈ sg_tbl := tb_4 _ (List.mem_of_getElem? (i := 231) (by decide +kernel)) (by decide +kernel)
theorem wl_4_229 : (.instanceMethod yX8_threatBits : Cond) ∈ sg_tbl := tb_4 _ (List.mem_of_getElem? (i := 229) (by decide +kernel)) (by decide +kernel)
theorem wl_4_230 : (.selects RX8 yX8_threatBits yX8_threatBits : Cond) ∈ sg_tbl := tb_4 _ (List.mem_of_getElem? (i := 230) (by decide +kernel)) (by decide +kernel)
theorem wl_4_153 : (.code yX8_threatened cX8_threatened 6 (some .boolean) : Cond) ∈ sg_tbl := tb_4 _ (List.mem_of_getElem? (i := 153) (by decide +kernel)) (by decide +kernel)
theorem wl_4_151 : (.instanceMethod yX8_threatened : Cond) ∈ sg_tbl := tb_4 _ (List.mem_of_getElem? (i := 151) (by decide +kernel)) (by decide +kernel)
theorem wl_4_152 : (.selects RX8 yX8_threatened yX8_threatened : Cond) ∈ sg_tbl := tb_4 _ (List.mem_of_getElem? (i := 152) (by decide +kernel)) (by decide +kernel)
theorem wl_4_226 : (.code yX8_listWay cX8_listWay 7 none : Cond) ∈ sg_tbl := tb_4 _ (List.mem_of_getElem? (i := 226) (by decide +kernel)) (by decide +kernel)
theorem wl_4_225 : (.instanceMethod yX8_listWay : Cond) ∈ sg_tbl := tb_4 _ (List.mem_of_getElem? (i := 225) (by decide +kernel)) (by decide +kernel)
theorem wl_0_27 : (.selects RX8 yX8_listWay yX8_listWay : Cond) ∈ sg_tbl := tb_0 _ (List.mem_of_getElem? (i := 27) (by decide +kernel)) (by decide +kernel)
theorem wl_4_222 : (.code yX8_listCuts cX8_listCuts 3 none : Cond) ∈ sg_tbl := tb_4 _ (List.mem_of_getElem? (i := 222) (by decide +kernel)) (by decide +kernel)
theorem wl_4_220 : (.instanceMethod yX8_listCuts : Cond) ∈ sg_tbl := tb_4 _ (List.mem_of_getElem? (i := 220) (by decide +kernel)) (by decide +kernel)
theorem wl_4_221 : (.selects RX8 yX8_listCuts yX8_listCuts : Cond) ∈ sg_tbl := tb_4 _ (List.mem_of_getElem? (i := 221) (by decide +kernel)) (by decide +kernel)
section
variable {p : Program} {l : Launch} {e : Env} {R : Room} {s : State} {m : MethodId} {args : Array Value} {below : List Frame} {meth : Method} {c : Code} {H : Heap} {locs : List Loc} {cells slots : Nat} {Q : State → Prop} {cc : ByteArray} {nL pc : Nat} {ls : Array Slot} {rest : List Value} {own : String} {D : va_G} {A : Nat → Prop} {tys : List (ClassId × FieldType)} {ad ks : List Nat} {P : sgPm} {H0 : Heap} {index : Nat} {base : Nat} {st0 : List Value} {a : Nat}
theorem gf_X4_10   (X : CallFix p m c cc nL s args sg_tbl own) (hK : va_K D vwCl tys s) (hG : sgG (KT P) D vwCl A tys ad ks H) (ha : isK ad ks 4 a) (hl : Cond.fieldLink own index "LawnAhead$Ground" "beds" "I" ∈ sg_tbl) (hdg : decode cc pc = .ok (.getfield index, 3)) (kk : ∀ x : Int32, iv (-2147483648) 2147483647 x → fld D H 4 a 10 (.int x) → W p l e R s m args below meth c H locs cells slots Q (F0 m (pc + 3) ls (.int x :: rest))) : W p l e R s m args below meth c H locs cells slots Q (F0 m pc ls (.ref a :: rest)) :=
  sg_get X hK hG ha (k := 4) (ci := 4) rfl (C := RX4) (T := TX4) (N := 15) rfl inL_X4 10 (by decide) rfl hl (fun _ h => h) hdg (fun v hv hf => by obtain ⟨x, rfl, hx⟩ := hv; exact kk x hx hf)
theorem gf_X5_10   (X : CallFix p m c cc nL s args sg_tbl own) (hK : va_K D vwCl tys s) (hG : sgG (KT P) D vwCl A tys ad ks H) (ha : isK ad ks 5 a) (hl : Cond.fieldLink own index "LawnAhead$History" "imageNextDeed" "I" ∈ sg_tbl) (hdg : decode cc pc = .ok (.getfield index, 3)) (kk : ∀ x : Int32, iv 0 99 x → fld D H 5 a 10 (.int x) → W p l e R s m args below meth c H locs cells slots Q (F0 m (pc + 3) ls (.int x :: rest))) : W p l e R s m args below meth c H locs cells slots Q (F0 m pc ls (.ref a :: rest)) :=
  sg_get X hK hG ha (k := 5) (ci := 5) rfl (C := RX5) (T := TX5) (N := 11) rfl inL_X5 10 (by decide) rfl hl (fun _ h => h) hdg (fun v hv hf => by obtain ⟨x, rfl, hx⟩ := hv; exact kk x hx hf)
theorem gf_X5_2   (X : CallFix p m c cc nL s args sg_tbl own) (hK : va_K D vwCl tys s) (hG : sgG (KT P) D vwCl A tys ad ks H) (ha : isK ad ks 5 a) (hl : Cond.fieldLink own index "LawnAhead$History" "imageState" "LLawnAhead$State;" ∈ sg_tbl) (hdg : decode cc pc = .ok (.getfield index, 3)) (kk : ∀ x : Nat, isK ad ks 9 x → fld D H 5 a 2 (.ref x) → W p l e R s m args below meth c H locs cells slots Q (F0 m (pc + 3) ls (.ref x :: rest))) : W p l e R s m args below meth c H locs cells slots Q (F0 m pc ls (.ref a :: rest)) :=
  sg_get X hK hG ha (k := 5) (ci := 5) rfl (C := RX5) (T := TX5) (N := 11) rfl inL_X5 2 (by decide) rfl hl (fun _ h => h) hdg (fun v hv hf => by
    obtain ⟨h1, -⟩ | ⟨x, rfl, hx⟩ := hv
    · cases h1
    · exact kk x hx hf)
theorem gf_X5_3   (X : CallFix p m c cc nL s args sg_tbl own) (hK : va_K D vwCl tys s) (hG : sgG (KT P) D vwCl A tys ad ks H) (ha : isK ad ks 5 a) (hl : Cond.fieldLink own index "LawnAhead$History" "imageDeeds" "[I" ∈ sg_tbl) (hdg : decode cc pc = .ok (.getfield index, 3)) (kk : ∀ x : Nat, isK ad ks 28 x → fld D H 5 a 3 (.ref x) → W p l e R s m args below meth c H locs cells slots Q (F0 m (pc + 3) ls (.ref x :: rest))) : W p l e R s m args below meth c H locs cells slots Q (F0 m pc ls (.ref a :: rest)) :=
  sg_get X hK hG ha (k := 5) (ci := 5) rfl (C := RX5) (T := TX5) (N := 11) rfl inL_X5 3 (by decide) rfl hl (fun _ h => h) hdg (fun v hv hf => by
    obtain ⟨h1, -⟩ | ⟨x, rfl, hx⟩ := hv
    · cases h1
    · exact kk x hx hf)
theorem gf_X5_8   (X : CallFix p m c cc nL s args sg_tbl own) (hK : va_K D vwCl tys s) (hG : sgG (KT P) D vwCl A tys ad ks H) (ha : isK ad ks 5 a) (hl : Cond.fieldLink own index "LawnAhead$History" "hasImage" "Z" ∈ sg_tbl) (hdg : decode cc pc = .ok (.getfield index, 3)) (kk : ∀ x : Int32, iv 0 1 x → fld D H 5 a 8 (.int x) → W p l e R s m args below meth c H locs cells slots Q (F0 m (pc + 3) ls (.int x :: rest))) : W p l e R s m args below meth c H locs cells slots Q (F0 m pc ls (.ref a :: rest)) :=
  sg_get X hK hG ha (k := 5) (ci := 5) rfl (C := RX5) (T := TX5) (N := 11) rfl inL_X5 8 (by decide) rfl hl (fun _ h => h) hdg (fun v hv hf => by obtain ⟨x, rfl, hx⟩ := hv; exact kk x hx hf)
theorem gf_X5_9   (X : CallFix p m c cc nL s args sg_tbl own) (hK : va_K D vwCl tys s) (hG : sgG (KT P) D vwCl A tys ad ks H) (ha : isK ad ks 5 a) (hl : Cond.fieldLink own index "LawnAhead$History" "imageKept" "I" ∈ sg_tbl) (hdg : decode cc pc = .ok (.getfield index, 3)) (kk : ∀ x : Int32, iv (-2147483648) 2147483647 x → fld D H 5 a 9 (.int x) → W p l e R s m args below meth c H locs cells slots Q (F0 m (pc + 3) ls (.int x :: rest))) : W p l e R s m args below meth c H locs cells slots Q (F0 m pc ls (.ref a :: rest)) :=
  sg_get X hK hG ha (k := 5) (ci := 5) rfl (C := RX5) (T := TX5) (N := 11) rfl inL_X5 9 (by decide) rfl hl (fun _ h => h) hdg (fun v hv hf => by obtain ⟨x, rfl, hx⟩ := hv; exact kk x hx hf)
theorem gf_X6_6   (X : CallFix p m c cc nL s args sg_tbl own) (hK : va_K D vwCl tys s) (hG : sgG (KT P) D vwCl A tys ad ks H) (ha : isK ad ks 6 a) (hl : Cond.fieldLink own index "LawnAhead$Law" "usesDay" "Z" ∈ sg_tbl) (hdg : decode cc pc = .ok (.getfield index, 3)) (kk : ∀ x : Int32, iv 0 1 x → fld D H 6 a 6 (.int x) → W p l e R s m args below meth c H locs cells slots Q (F0 m (pc + 3) ls (.int x :: rest))) : W p l e R s m args below meth c H locs cells slots Q (F0 m pc ls (.ref a :: rest)) :=
  sg_get X hK hG ha (k := 6) (ci := 6) rfl (C := RX6) (T := TX6) (N := 7) rfl inL_X6 6 (by decide) rfl hl (fun _ h => h) hdg (fun v hv hf => by obtain ⟨x, rfl, hx⟩ := hv; exact kk x hx hf)
theorem gf_X8_0   (X : CallFix p m c cc nL s args sg_tbl own) (hK : va_K D vwCl tys s) (hG : sgG (KT P) D vwCl A tys ad ks H) (ha : isK ad ks 8 a) (hl : Cond.fieldLink own index "LawnAhead$Sight" "ground" "LLawnAhead$Ground;" ∈ sg_tbl) (hdg : decode cc pc = .ok (.getfield index, 3)) (kk : ∀ x : Nat, isK ad ks 4 x → fld D H 8 a 0 (.ref x) → W p l e R s m args below meth c H locs cells slots Q (F0 m (pc + 3) ls (.ref x :: rest))) : W p l e R s m args below meth c H locs cells slots Q (F0 m pc ls (.ref a :: rest)) :=
  sg_get X hK hG ha (k := 8) (ci := 8) rfl (C := RX8) (T := TX8) (N := 9) rfl inL_X8 0 (by decide) rfl hl (fun _ h => h) hdg (fun v hv hf => by
    obtain ⟨h1, -⟩ | ⟨x, rfl, hx⟩ := hv
    · cases h1
    · exact kk x hx hf)
theorem gf_X8_1n   (X : CallFix p m c cc nL s args sg_tbl own) (hK : va_K D vwCl tys s) (hG : sgG (KT P) D vwCl A tys ad ks H) (ha : isK ad ks 8 a) (hp : P.1 = false) (hl : Cond.fieldLink own index "LawnAhead$Sight" "law" "LLawnAhead$Law;" ∈ sg_tbl) (hdg : decode cc pc = .ok (.getfield index, 3)) (kk : fld D H 8 a 1 .null → W p l e R s m args below meth c H locs cells slots Q (F0 m (pc + 3) ls (.null :: rest))) : W p l e R s m args below meth c H locs cells slots Q (F0 m pc ls (.ref a :: rest)) :=
  sg_get X hK hG ha (k := 8) (ci := 8) rfl (C := RX8) (T := TX8) (N := 9) rfl inL_X8 1 (by decide) rfl hl (fun _ h => h) hdg (fun v hv hf => by
    rw [hp] at hv
    obtain rfl : v = .null := sg_null rfl hG hv
    exact kk hf)
theorem gf_X8_1s   (X : CallFix p m c cc nL s args sg_tbl own) (hK : va_K D vwCl tys s) (hG : sgG (KT P) D vwCl A tys ad ks H) (ha : isK ad ks 8 a) (hp : P.1 = true) (hl : Cond.fieldLink own index "LawnAhead$Sight" "law" "LLawnAhead$Law;" ∈ sg_tbl) (hdg : decode cc pc = .ok (.getfield index, 3)) (kk : ∀ x : Nat, isK ad ks 6 x → fld D H 8 a 1 (.ref x) → W p l e R s m args below meth c H locs cells slots Q (F0 m (pc + 3) ls (.ref x :: rest))) : W p l e R s m args below meth c H locs cells slots Q (F0 m pc ls (.ref a :: rest)) :=
  sg_get X hK hG ha (k := 8) (ci := 8) rfl (C := RX8) (T := TX8) (N := 9) rfl inL_X8 1 (by decide) rfl hl (fun _ h => h) hdg (fun v hv hf => by
    rw [hp] at hv
    obtain ⟨h1, -⟩ | ⟨x, rfl, hx⟩ := hv
    · cases h1
    · exact kk x hx hf)
theorem gf_X8_2   (X : CallFix p m c cc nL s args sg_tbl own) (hK : va_K D vwCl tys s) (hG : sgG (KT P) D vwCl A tys ad ks H) (ha : isK ad ks 8 a) (hl : Cond.fieldLink own index "LawnAhead$Sight" "pageDays" "[I" ∈ sg_tbl) (hdg : decode cc pc = .ok (.getfield index, 3)) (kk : ∀ x : Nat, isK ad ks 36 x → fld D H 8 a 2 (.ref x) → W p l e R s m args below meth c H locs cells slots Q (F0 m (pc + 3) ls (.ref x :: rest))) : W p l e R s m args below meth c H locs cells slots Q (F0 m pc ls (.ref a :: rest)) :=
  sg_get X hK hG ha (k := 8) (ci := 8) rfl (C := RX8) (T := TX8) (N := 9) rfl inL_X8 2 (by decide) rfl hl (fun _ h => h) hdg (fun v hv hf => by
    obtain ⟨h1, -⟩ | ⟨x, rfl, hx⟩ := hv
    · cases h1
    · exact kk x hx hf)
theorem gf_X8_3   (X : CallFix p m c cc nL s args sg_tbl own) (hK : va_K D vwCl tys s) (hG : sgG (KT P) D vwCl A tys ad ks H) (ha : isK ad ks 8 a) (hl : Cond.fieldLink own index "LawnAhead$Sight" "reckoned" "[I" ∈ sg_tbl) (hdg : decode cc pc = .ok (.getfield index, 3)) (kk : ∀ x : Nat, isK ad ks 37 x → fld D H 8 a 3 (.ref x) → W p l e R s m args below meth c H locs cells slots Q (F0 m (pc + 3) ls (.ref x :: rest))) : W p l e R s m args below meth c H locs cells slots Q (F0 m pc ls (.ref a :: rest)) :=
  sg_get X hK hG ha (k := 8) (ci := 8) rfl (C := RX8) (T := TX8) (N := 9) rfl inL_X8 3 (by decide) rfl hl (fun _ h => h) hdg (fun v hv hf => by
    obtain ⟨h1, -⟩ | ⟨x, rfl, hx⟩ := hv
    · cases h1
    · exact kk x hx hf)
theorem gf_X8_4   (X : CallFix p m c cc nL s args sg_tbl own) (hK : va_K D vwCl tys s) (hG : sgG (KT P) D vwCl A tys ad ks H) (ha : isK ad ks 8 a) (hl : Cond.fieldLink own index "LawnAhead$Sight" "worthy" "[I" ∈ sg_tbl) (hdg : decode cc pc = .ok (.getfield index, 3)) (kk : ∀ x : Nat, isK ad ks 38 x → fld D H 8 a 4 (.ref x) → W p l e R s m args below meth c H locs cells slots Q (F0 m (pc + 3) ls (.ref x :: rest))) : W p l e R s m args below meth c H locs cells slots Q (F0 m pc ls (.ref a :: rest)) :=
  sg_get X hK hG ha (k := 8) (ci := 8) rfl (C := RX8) (T := TX8) (N := 9) rfl inL_X8 4 (by decide) rfl hl (fun _ h => h) hdg (fun v hv hf => by
    obtain ⟨h1, -⟩ | ⟨x, rfl, hx⟩ := hv
    · cases h1
    · exact kk x hx hf)
theorem gf_X8_5   (X : CallFix p m c cc nL s args sg_tbl own) (hK : va_K D vwCl tys s) (hG : sgG (KT P) D vwCl A tys ad ks H) (ha : isK ad ks 8 a) (hl : Cond.fieldLink own index "LawnAhead$Sight" "letters" "[I" ∈ sg_tbl) (hdg : decode cc pc = .ok (.getfield index, 3)) (kk : ∀ x : Nat, isK ad ks 39 x → fld D H 8 a 5 (.ref x) → W p l e R s m args below meth c H locs cells slots Q (F0 m (pc + 3) ls (.ref x :: rest))) : W p l e R s m args below meth c H locs cells slots Q (F0 m pc ls (.ref a :: rest)) :=
  sg_get X hK hG ha (k := 8) (ci := 8) rfl (C := RX8) (T := TX8) (N := 9) rfl inL_X8 5 (by decide) rfl hl (fun _ h => h) hdg (fun v hv hf => by
    obtain ⟨h1, -⟩ | ⟨x, rfl, hx⟩ := hv
    · cases h1
    · exact kk x hx hf)
theorem gf_X8_6   (X : CallFix p m c cc nL s args sg_tbl own) (hK : va_K D vwCl tys s) (hG : sgG (KT P) D vwCl A tys ad ks H) (ha : isK ad ks 8 a) (hl : Cond.fieldLink own index "LawnAhead$Sight" "codes" "[I" ∈ sg_tbl) (hdg : decode cc pc = .ok (.getfield index, 3)) (kk : ∀ x : Nat, isK ad ks 40 x → fld D H 8 a 6 (.ref x) → W p l e R s m args below meth c H locs cells slots Q (F0 m (pc + 3) ls (.ref x :: rest))) : W p l e R s m args below meth c H locs cells slots Q (F0 m pc ls (.ref a :: rest)) :=
  sg_get X hK hG ha (k := 8) (ci := 8) rfl (C := RX8) (T := TX8) (N := 9) rfl inL_X8 6 (by decide) rfl hl (fun _ h => h) hdg (fun v hv hf => by
    obtain ⟨h1, -⟩ | ⟨x, rfl, hx⟩ := hv
    · cases h1
    · exact kk x hx hf)
theorem gf_X8_7   (X : CallFix p m c cc nL s args sg_tbl own) (hK : va_K D vwCl tys s) (hG : sgG (KT P) D vwCl A tys ad ks H) (ha : isK ad ks 8 a) (hl : Cond.fieldLink own index "LawnAhead$Sight" "taken" "[I" ∈ sg_tbl) (hdg : decode cc pc = .ok (.getfield index, 3)) (kk : ∀ x : Nat, isK ad ks 41 x → fld D H 8 a 7 (.ref x) → W p l e R s m args below meth c H locs cells slots Q (F0 m (pc + 3) ls (.ref x :: rest))) : W p l e R s m args below meth c H locs cells slots Q (F0 m pc ls (.ref a :: rest)) :=
  sg_get X hK hG ha (k := 8) (ci := 8) rfl (C := RX8) (T := TX8) (N := 9) rfl inL_X8 7 (by decide) rfl hl (fun _ h => h) hdg (fun v hv hf => by
    obtain ⟨h1, -⟩ | ⟨x, rfl, hx⟩ := hv
    · cases h1
    · exact kk x hx hf)
theorem gf_X8_8   (X : CallFix p m c cc nL s args sg_tbl own) (hK : va_K D vwCl tys s) (hG : sgG (KT P) D vwCl A tys ad ks H) (ha : isK ad ks 8 a) (hl : Cond.fieldLink own index "LawnAhead$Sight" "listed" "I" ∈ sg_tbl) (hdg : decode cc pc = .ok (.getfield index, 3)) (kk : ∀ x : Int32, iv 0 270 x → fld D H 8 a 8 (.int x) → W p l e R s m args below meth c H locs cells slots Q (F0 m (pc + 3) ls (.int x :: rest))) : W p l e R s m args below meth c H locs cells slots Q (F0 m pc ls (.ref a :: rest)) :=
  sg_get X hK hG ha (k := 8) (ci := 8) rfl (C := RX8) (T := TX8) (N := 9) rfl inL_X8 8 (by decide) rfl hl (fun _ h => h) hdg (fun v hv hf => by obtain ⟨x, rfl, hx⟩ := hv; exact kk x hx hf)
theorem gg_X4_0   (X : CallFix p m c cc nL s args sg_tbl own) (hK : va_K D vwCl tys s) (hG : sgG (KT P) D vwCl A tys ad ks H) (ha : isK ad ks 4 a) (hl : Cond.fieldLink own index "LawnAhead$Ground" "rules" "[I" ∈ sg_tbl) {v : Value} (hf : fld D H 4 a 0 v) (hdg : decode cc pc = .ok (.getfield index, 3)) (kk : W p l e R s m args below meth c H locs cells slots Q (F0 m (pc + 3) ls (v :: rest))) : W p l e R s m args below meth c H locs cells slots Q (F0 m pc ls (.ref a :: rest)) :=
  sg_getf X hK hG ha (k := 4) (ci := 4) rfl (C := RX4) (T := TX4) (N := 15) rfl inL_X4 0 (by decide) (show 0 < 15 by decide) hl (fun _ h => h) hf hdg kk
theorem gg_X6_6   (X : CallFix p m c cc nL s args sg_tbl own) (hK : va_K D vwCl tys s) (hG : sgG (KT P) D vwCl A tys ad ks H) (ha : isK ad ks 6 a) (hl : Cond.fieldLink own index "LawnAhead$Law" "usesDay" "Z" ∈ sg_tbl) {v : Value} (hf : fld D H 6 a 6 v) (hdg : decode cc pc = .ok (.getfield index, 3)) (kk : W p l e R s m args below meth c H locs cells slots Q (F0 m (pc + 3) ls (v :: rest))) : W p l e R s m args below meth c H locs cells slots Q (F0 m pc ls (.ref a :: rest)) :=
  sg_getf X hK hG ha (k := 6) (ci := 6) rfl (C := RX6) (T := TX6) (N := 7) rfl inL_X6 6 (by decide) (show 6 < 7 by decide) hl (fun _ h => h) hf hdg kk
theorem gg_X8_0   (X : CallFix p m c cc nL s args sg_tbl own) (hK : va_K D vwCl tys s) (hG : sgG (KT P) D vwCl A tys ad ks H) (ha : isK ad ks 8 a) (hl : Cond.fieldLink own index "LawnAhead$Sight" "ground" "LLawnAhead$Ground;" ∈ sg_tbl) {v : Value} (hf : fld D H 8 a 0 v) (hdg : decode cc pc = .ok (.getfield index, 3)) (kk : W p l e R s m args below meth c H locs cells slots Q (F0 m (pc + 3) ls (v :: rest))) : W p l e R s m args below meth c H locs cells slots Q (F0 m pc ls (.ref a :: rest)) :=
  sg_getf X hK hG ha (k := 8) (ci := 8) rfl (C := RX8) (T := TX8) (N := 9) rfl inL_X8 0 (by decide) (show 0 < 9 by decide) hl (fun _ h => h) hf hdg kk
theorem gg_X8_1   (X : CallFix p m c cc nL s args sg_tbl own) (hK : va_K D vwCl tys s) (hG : sgG (KT P) D vwCl A tys ad ks H) (ha : isK ad ks 8 a) (hl : Cond.fieldLink own index "LawnAhead$Sight" "law" "LLawnAhead$Law;" ∈ sg_tbl) {v : Value} (hf : fld D H 8 a 1 v) (hdg : decode cc pc = .ok (.getfield index, 3)) (kk : W p l e R s m args below meth c H locs cells slots Q (F0 m (pc + 3) ls (v :: rest))) : W p l e R s m args below meth c H locs cells slots Q (F0 m pc ls (.ref a :: rest)) :=
  sg_getf X hK hG ha (k := 8) (ci := 8) rfl (C := RX8) (T := TX8) (N := 9) rfl inL_X8 1 (by decide) (show 1 < 9 by decide) hl (fun _ h => h) hf hdg kk
theorem gg_X8_3   (X : CallFix p m c cc nL s args sg_tbl own) (hK : va_K D vwCl tys s) (hG : sgG (KT P) D vwCl A tys ad ks H) (ha : isK ad ks 8 a) (hl : Cond.fieldLink own index "LawnAhead$Sight" "reckoned" "[I" ∈ sg_tbl) {v : Value} (hf : fld D H 8 a 3 v) (hdg : decode cc pc = .ok (.getfield index, 3)) (kk : W p l e R s m args below meth c H locs cells slots Q (F0 m (pc + 3) ls (v :: rest))) : W p l e R s m args below meth c H locs cells slots Q (F0 m pc ls (.ref a :: rest)) :=
  sg_getf X hK hG ha (k := 8) (ci := 8) rfl (C := RX8) (T := TX8) (N := 9) rfl inL_X8 3 (by decide) (show 3 < 9 by decide) hl (fun _ h => h) hf hdg kk
theorem gg_X8_5   (X : CallFix p m c cc nL s args sg_tbl own) (hK : va_K D vwCl tys s) (hG : sgG (KT P) D vwCl A tys ad ks H) (ha : isK ad ks 8 a) (hl : Cond.fieldLink own index "LawnAhead$Sight" "letters" "[I" ∈ sg_tbl) {v : Value} (hf : fld D H 8 a 5 v) (hdg : decode cc pc = .ok (.getfield index, 3)) (kk : W p l e R s m args below meth c H locs cells slots Q (F0 m (pc + 3) ls (v :: rest))) : W p l e R s m args below meth c H locs cells slots Q (F0 m pc ls (.ref a :: rest)) :=
  sg_getf X hK hG ha (k := 8) (ci := 8) rfl (C := RX8) (T := TX8) (N := 9) rfl inL_X8 5 (by decide) (show 5 < 9 by decide) hl (fun _ h => h) hf hdg kk
theorem gg_X8_8   (X : CallFix p m c cc nL s args sg_tbl own) (hK : va_K D vwCl tys s) (hG : sgG (KT P) D vwCl A tys ad ks H) (ha : isK ad ks 8 a) (hl : Cond.fieldLink own index "LawnAhead$Sight" "listed" "I" ∈ sg_tbl) {v : Value} (hf : fld D H 8 a 8 v) (hdg : decode cc pc = .ok (.getfield index, 3)) (kk : W p l e R s m args below meth c H locs cells slots Q (F0 m (pc + 3) ls (v :: rest))) : W p l e R s m args below meth c H locs cells slots Q (F0 m pc ls (.ref a :: rest)) :=
  sg_getf X hK hG ha (k := 8) (ci := 8) rfl (C := RX8) (T := TX8) (N := 9) rfl inL_X8 8 (by decide) (show 8 < 9 by decide) hl (fun _ h => h) hf hdg kk
theorem pf_X5_10  {x : Int32}  (X : CallFix p m c cc nL s args sg_tbl own) (hK : va_K D vwCl tys s) (hG : sgG (KT P) D vwCl A tys ad ks H) (hS : va_S A H0 H locs) (ha : isK ad ks 5 a) (hl : Cond.fieldLink own index "LawnAhead$History" "imageNextDeed" "I" ∈ sg_tbl) (hv : okV ad ks (.inl (0, 99)) (.int x)) (hdg : decode cc pc = .ok (.putfield index, 3)) (kk : ∀ (H1 : Heap) (locs1 : List Loc), sgG (KT P) D vwCl A tys ad ks H1 → va_S A H0 H1 locs1 → fld D H1 5 a 10 (.int x) → sgFr (KT P) D vwCl ad ks H H1 (fun a' j' => a' = a ∧ j' = 10) → W p l e R s m args below meth c H1 locs1 cells slots Q (F0 m (pc + 3) ls rest)) : W p l e R s m args below meth c H locs cells slots Q (F0 m pc ls (.int x :: .ref a :: rest)) :=
  sg_put X hK hG hS ha (k := 5) (ci := 5) rfl (C := RX5) (T := TX5) (N := 11) rfl inL_X5 tyX5 tyX5_ok nmX5 10 (by decide) rfl hl (fun _ h => h) rfl (ty := .int) rfl rfl rfl hv hdg kk
theorem pf_X5_9  {x : Int32}  (X : CallFix p m c cc nL s args sg_tbl own) (hK : va_K D vwCl tys s) (hG : sgG (KT P) D vwCl A tys ad ks H) (hS : va_S A H0 H locs) (ha : isK ad ks 5 a) (hl : Cond.fieldLink own index "LawnAhead$History" "imageKept" "I" ∈ sg_tbl) (hv : okV ad ks (.inl ((-2147483648), 2147483647)) (.int x)) (hdg : decode cc pc = .ok (.putfield index, 3)) (kk : ∀ (H1 : Heap) (locs1 : List Loc), sgG (KT P) D vwCl A tys ad ks H1 → va_S A H0 H1 locs1 → fld D H1 5 a 9 (.int x) → sgFr (KT P) D vwCl ad ks H H1 (fun a' j' => a' = a ∧ j' = 9) → W p l e R s m args below meth c H1 locs1 cells slots Q (F0 m (pc + 3) ls rest)) : W p l e R s m args below meth c H locs cells slots Q (F0 m pc ls (.int x :: .ref a :: rest)) :=
  sg_put X hK hG hS ha (k := 5) (ci := 5) rfl (C := RX5) (T := TX5) (N := 11) rfl inL_X5 tyX5 tyX5_ok nmX5 9 (by decide) rfl hl (fun _ h => h) rfl (ty := .int) rfl rfl rfl hv hdg kk
theorem pf_X8_8  {x : Int32}  (X : CallFix p m c cc nL s args sg_tbl own) (hK : va_K D vwCl tys s) (hG : sgG (KT P) D vwCl A tys ad ks H) (hS : va_S A H0 H locs) (ha : isK ad ks 8 a) (hl : Cond.fieldLink own index "LawnAhead$Sight" "listed" "I" ∈ sg_tbl) (hv : okV ad ks (.inl (0, 270)) (.int x)) (hdg : decode cc pc = .ok (.putfield index, 3)) (kk : ∀ (H1 : Heap) (locs1 : List Loc), sgG (KT P) D vwCl A tys ad ks H1 → va_S A H0 H1 locs1 → fld D H1 8 a 8 (.int x) → sgFr (KT P) D vwCl ad ks H H1 (fun a' j' => a' = a ∧ j' = 8) → W p l e R s m args below meth c H1 locs1 cells slots Q (F0 m (pc + 3) ls rest)) : W p l e R s m args below meth c H locs cells slots Q (F0 m pc ls (.int x :: .ref a :: rest)) :=
  sg_put X hK hG hS ha (k := 8) (ci := 8) rfl (C := RX8) (T := TX8) (N := 9) rfl inL_X8 tyX8 tyX8_ok nmX8 8 (by decide) rfl hl (fun _ h => h) rfl (ty := .int) rfl rfl rfl hv hdg kk
theorem al_27  {i : Int32}  (X : CallFix p m c cc nL s args sg_tbl own) (hK : va_K D vwCl tys s) (hG : sgG (KT P) D vwCl A tys ad ks H) (ha : isK ad ks 27 a) (hin : vp_in i 100) (hdg : decode cc pc = .ok (.iaload, 1)) (kk : ∀ x : Int32, iv (-2147483648) 2147483647 x → W p l e R s m args below meth c H locs cells slots Q (F0 m (pc + 1) ls (.int x :: rest))) : W p l e R s m args below meth c H locs cells slots Q (F0 m pc ls (.int i :: .ref a :: rest)) :=
  sg_iald X hK hG ha (k := 27) rfl hin hdg (fun x hx => by obtain ⟨y, h1, h2⟩ := hx; cases h1; exact kk _ h2)
theorem al_36  {i : Int32}  (X : CallFix p m c cc nL s args sg_tbl own) (hK : va_K D vwCl tys s) (hG : sgG (KT P) D vwCl A tys ad ks H) (ha : isK ad ks 36 a) (hin : vp_in i 4) (hdg : decode cc pc = .ok (.iaload, 1)) (kk : ∀ x : Int32, iv (-2147483648) 2147483647 x → W p l e R s m args below meth c H locs cells slots Q (F0 m (pc + 1) ls (.int x :: rest))) : W p l e R s m args below meth c H locs cells slots Q (F0 m pc ls (.int i :: .ref a :: rest)) :=
  sg_iald X hK hG ha (k := 36) rfl hin hdg (fun x hx => by obtain ⟨y, h1, h2⟩ := hx; cases h1; exact kk _ h2)
theorem al_37  {i : Int32}  (X : CallFix p m c cc nL s args sg_tbl own) (hK : va_K D vwCl tys s) (hG : sgG (KT P) D vwCl A tys ad ks H) (ha : isK ad ks 37 a) (hin : vp_in i 1116) (hdg : decode cc pc = .ok (.iaload, 1)) (kk : ∀ x : Int32, iv (-2147483648) 2147483647 x → W p l e R s m args below meth c H locs cells slots Q (F0 m (pc + 1) ls (.int x :: rest))) : W p l e R s m args below meth c H locs cells slots Q (F0 m pc ls (.int i :: .ref a :: rest)) :=
  sg_iald X hK hG ha (k := 37) rfl hin hdg (fun x hx => by obtain ⟨y, h1, h2⟩ := hx; cases h1; exact kk _ h2)
theorem al_38  {i : Int32}  (X : CallFix p m c cc nL s args sg_tbl own) (hK : va_K D vwCl tys s) (hG : sgG (KT P) D vwCl A tys ad ks H) (ha : isK ad ks 38 a) (hin : vp_in i 1116) (hdg : decode cc pc = .ok (.iaload, 1)) (kk : ∀ x : Int32, iv (-2147483648) 2147483647 x → W p l e R s m args below meth c H locs cells slots Q (F0 m (pc + 1) ls (.int x :: rest))) : W p l e R s m args below meth c H locs cells slots Q (F0 m pc ls (.int i :: .ref a :: rest)) :=
  sg_iald X hK hG ha (k := 38) rfl hin hdg (fun x hx => by obtain ⟨y, h1, h2⟩ := hx; cases h1; exact kk _ h2)
theorem as_39  {i : Int32} {x : Int32}  (X : CallFix p m c cc nL s args sg_tbl own) (hK : va_K D vwCl tys s) (hG : sgG (KT P) D vwCl A tys ad ks H) (hS : va_S A H0 H locs) (ha : isK ad ks 39 a) (hin : vp_in i 6) (hv : okV ad ks (.inl ((-2147483648), 2147483647)) (.int x)) (hdg : decode cc pc = .ok (.iastore, 1)) (kk : ∀ (H1 : Heap) (locs1 : List Loc), sgG (KT P) D vwCl A tys ad ks H1 → va_S A H0 H1 locs1 → sgFr (KT P) D vwCl ad ks H H1 (fun _ _ => False) → W p l e R s m args below meth c H1 locs1 cells slots Q (F0 m (pc + 1) ls rest)) : W p l e R s m args below meth c H locs cells slots Q (F0 m pc ls (.int x :: .int i :: .ref a :: rest)) :=
  sg_iast X hK hG hS ha (k := 39) rfl hin hv hdg kk
theorem as_40  {i : Int32} {x : Int32}  (X : CallFix p m c cc nL s args sg_tbl own) (hK : va_K D vwCl tys s) (hG : sgG (KT P) D vwCl A tys ad ks H) (hS : va_S A H0 H locs) (ha : isK ad ks 40 a) (hin : vp_in i 270) (hv : okV ad ks (.inl ((-2147483648), 2147483647)) (.int x)) (hdg : decode cc pc = .ok (.iastore, 1)) (kk : ∀ (H1 : Heap) (locs1 : List Loc), sgG (KT P) D vwCl A tys ad ks H1 → va_S A H0 H1 locs1 → sgFr (KT P) D vwCl ad ks H H1 (fun _ _ => False) → W p l e R s m args below meth c H1 locs1 cells slots Q (F0 m (pc + 1) ls rest)) : W p l e R s m args below meth c H locs cells slots Q (F0 m pc ls (.int x :: .int i :: .ref a :: rest)) :=
  sg_iast X hK hG hS ha (k := 40) rfl hin hv hdg kk
theorem as_41  {i : Int32} {x : Int32}  (X : CallFix p m c cc nL s args sg_tbl own) (hK : va_K D vwCl tys s) (hG : sgG (KT P) D vwCl A tys ad ks H) (hS : va_S A H0 H locs) (ha : isK ad ks 41 a) (hin : vp_in i 270) (hv : okV ad ks (.inl ((-2147483648), 2147483647)) (.int x)) (hdg : decode cc pc = .ok (.iastore, 1)) (kk : ∀ (H1 : Heap) (locs1 : List Loc), sgG (KT P) D vwCl A tys ad ks H1 → va_S A H0 H1 locs1 → sgFr (KT P) D vwCl ad ks H H1 (fun _ _ => False) → W p l e R s m args below meth c H1 locs1 cells slots Q (F0 m (pc + 1) ls rest)) : W p l e R s m args below meth c H locs cells slots Q (F0 m pc ls (.int x :: .int i :: .ref a :: rest)) :=
  sg_iast X hK hG hS ha (k := 41) rfl hin hv hdg kk
set_option maxHeartbeats 8000000 in
set_option maxRecDepth 100000 in
theorem m_X5_deed (l : Launch) {D : va_G} {base : Nat} {tys : List (ClassId × FieldType)} {ad ks : List Nat} {P : sgPm} {Hx : Heap} (a0 : Nat) (h0 : isK ad ks 5 a0) (x1 : Int32) : sgPi l (KT P) D vwCl base tys ad ks Hx yX5_deed cX5_deed 2 (some .int) ({ frames := 0, cells := 0, slots := 0, locals := 0 }) [.ref a0, .int x1] (fun r : Int32 => True) := by
  refine sg_ofP (Pq := fun Hx => va_Qi (fun r (_ : Unit) => (fun r : Int32 => True) r) (fun _ t => t.heap = Hx) (fun _ : Nat => False)) (by decide +kernel) (Nat.le_of_ble_eq_true rfl) (fun p e s m below meth c X hr hlk hb hK hC hG ls hl => ?_)
  have hS : va_S (fun _ : Nat => False) s.heap s.heap [] := va_S.rf
  have hl : lv_has ls 2 [(0, .ref a0), (1, .int x1)] := hl
  refine lv_iload_n X.1 X.2.1 dX5_deed_0 rfl (lv_at hl 1 rfl) ?_
  have B2_10 : ∀ (locs : List Loc) (ls : Array Slot), va_S (fun _ : Nat => False) s.heap s.heap locs → lv_has ls 2 [] → W p l e (headSpec (Cond.code yX5_deed cX5_deed 2 (some .int) :: sg_tbl) ({ frames := 0, cells := 0, slots := 0, locals := 0 })).room s m #[.ref a0, .int x1] below meth c s.heap locs 0 0 (MQ below (va_Qi (fun r (_ : Unit) => (fun r : Int32 => True) r) (fun _ t => t.heap = s.heap) (fun _ : Nat => False)) #[.ref a0, .int x1] s 0 0 (fun _ : Nat => False)) (F0 m 10 ls []) := by
    intro locs ls hS hl
    refine lv_iconst (v := 0) X.1 X.2.1 dX5_deed_10 (by decide +kernel) ?_
    refine lv_goto (tgt := 33) X.1 X.2.1 dX5_deed_11 (by decide) ?_
    exact sg_iretP X hr hlk hS trivial dX5_deed_33
  refine lv_if_lt (tgt := 10) X.1 X.2.1 dX5_deed_1 (by decide) (fun c1 => ?_) (fun c1 => ?_)
  · exact B2_10 _ _ hS (lv_sub hl [] rfl)
  · refine lv_iload_n X.1 X.2.1 dX5_deed_4 rfl (lv_at hl 1 rfl) ?_
    refine lv_bipush (v := 100) X.1 X.2.1 dX5_deed_5 (by decide +kernel) ?_
    refine lv_icmp_lt (tgt := 14) X.1 X.2.1 dX5_deed_7 (by decide) (fun c3 => ?_) (fun c3 => ?_)
    · refine lv_aload_n X.1 X.2.1 dX5_deed_14 rfl (lv_at hl 0 rfl) ?_
      refine gf_X5_1 X hK hG h0 wl_1_169 dX5_deed_15 (fun q4 hq4 kq4 => ?_)
      refine lv_aload_n X.1 X.2.1 dX5_deed_18 rfl (lv_at hl 0 rfl) ?_
      refine gf_X5_7 X hK hG h0 wl_1_176 dX5_deed_19 (fun f5 hf5 kf5 => ?_)
      refine lv_bipush (v := 100) X.1 X.2.1 dX5_deed_22 (by decide +kernel) ?_
      refine lv_iadd X.1 X.2.1 dX5_deed_24 ?_
      refine lv_topi (fun f6 ef6 => ?_)
      refine lv_iconst (v := 1) X.1 X.2.1 dX5_deed_25 (by decide +kernel) ?_
      refine lv_isub X.1 X.2.1 dX5_deed_26 ?_
      refine lv_topi (fun f7 ef7 => ?_)
      refine lv_iload_n X.1 X.2.1 dX5_deed_27 rfl (lv_at hl 1 rfl) ?_
      refine lv_isub X.1 X.2.1 dX5_deed_28 ?_
      refine lv_topi (fun f8 ef8 => ?_)
      refine lv_bipush (v := 100) X.1 X.2.1 dX5_deed_29 (by decide +kernel) ?_
      refine lv_irem X.1 X.2.1 dX5_deed_31 (iv_ne0 (iv_c 100 (a := 100) (b := 100) (by decide +kernel)) (by decide +kernel)) ?_
      refine lv_topi (fun f9 ef9 => ?_)
      refine al_27 X hK hG hq4 (iv_vpin (iv_rem (a' := 0) (b' := 99) ef9 (iv_sub (a' := 0) (b' := 198) ef8 (iv_sub (a' := 99) (b' := 198) ef7 (iv_add (a' := 100) (b' := 199) ef6 hf5 (iv_c 100 (a := 100) (b := 100) (by decide +kernel)) (by decide +kernel)) (iv_c 1 (a := 1) (b := 1) (by decide +kernel)) (by decide +kernel)) (iv_lt (b' := 99) c3 (iv_ler (c' := 0) (iv_ge_of c1) (iv_c 0 (a := 0) (b := 0) (by decide +kernel)) (iv_top x1) (by decide +kernel)) (iv_c 100 (a := 100) (b := 100) (by decide +kernel)) (by decide +kernel)) (by decide +kernel)) (iv_c 100 (a := 100) (b := 100) (by decide +kernel)) (by decide +kernel)) (by decide +kernel)) dX5_deed_32 (fun f10 hf10 => ?_)
      exact sg_iretP X hr hlk hS trivial dX5_deed_33
    · exact B2_10 _ _ hS (lv_sub hl [] rfl)

theorem ca_X5_deed   (X : CallFix p m c cc nL s args sg_tbl own) (hK : va_K D vwCl tys s) (hG : sgG (KT P) D vwCl (fun q : Nat => base ≤ q) tys ad ks H) (hC : sgC base s) (hA : ∀ q : Nat, A q → base ≤ q) (hS : va_S A s.heap H locs) (hb : base ≤ s.heap.size) (a0 : Nat) (h0 : isK ad ks 5 a0) (x1 : Int32) (hl : Cond.methodLink own index yX5_deed ∈ sg_tbl) (hsize : ls.size = nL) (hst : st0 = [.int x1].reverse ++ .ref a0 :: rest) (hW : (rest.map fun v => v.category).sum ≤ 8) (hR : 1 ≤ R.frames ∧ 21 ≤ R.locals) (hf : cells ≤ R.cells ∧ slots ≤ R.slots) (hdg : decode cc pc = .ok (.invokevirtual index, 3)) (kk : ∀ (r : Int32) (locs1 : List Loc), (fun r : Int32 => True) r → va_S A s.heap H locs1 → W p l e R s m args below meth c H locs1 cells slots Q (F0 m (pc + 3) ls (.int r :: rest))) : W p l e R s m args below meth c H locs cells slots Q (F0 m pc ls st0) :=
  sg_callPVi X hK hG hC hA hS hb (m_X5_deed l a0 h0 x1) h0 (k := 5) (ci := 5) rfl (C := RX5) (T := TX5) (N := 11) rfl wl_5_13 wl_1_6 wl_5_11 wl_5_12 (n := 1) (by decide +kernel) rfl rfl rfl hl hsize hst hW hR hf hdg kk

set_option maxHeartbeats 8000000 in
set_option maxRecDepth 100000 in
theorem m_X5_takeImage (l : Launch) {D : va_G} {base : Nat} {tys : List (ClassId × FieldType)} {ad ks : List Nat} {P : sgPm} (a0 : Nat) (h0 : isK ad ks 5 a0) (a1 : Nat) (h1 : isK ad ks 9 a1) : sgMv l (KT P) D vwCl base tys ad ks yX5_takeImage cX5_takeImage 2 none ({ frames := 1, cells := 0, slots := 0, locals := 60 }) [.ref a0, .ref a1] := by
  refine sg_ofW (by decide +kernel) (Nat.le_of_ble_eq_true rfl) (fun p e s m below meth c X hr hlk hb hK hC hG ls hl => ?_)
  have hS : va_S (fun q : Nat => base ≤ q) s.heap s.heap [] := va_S.rf
  have hl : lv_has ls 2 [(0, .ref a0), (1, .ref a1)] := hl
  refine lv_aload_n X.1 X.2.1 dX5_takeImage_0 rfl (lv_at hl 0 rfl) ?_
  refine gf_X5_2 X hK hG h0 wl_1_170 dX5_takeImage_1 (fun q1 hq1 kq1 => ?_)
  refine lv_aload_n X.1 X.2.1 dX5_takeImage_4 rfl (lv_at hl 1 rfl) ?_
  refine ca_X9_takeFrom X hK hG hC hS hb q1 hq1 a1 h1 wl_4_164 hl.1 (rest := []) rfl (Nat.le_of_ble_eq_true rfl) ⟨Nat.le_of_ble_eq_true rfl, Nat.le_of_ble_eq_true rfl⟩ ⟨Nat.le_of_ble_eq_true rfl, Nat.le_of_ble_eq_true rfl⟩ dX5_takeImage_5 (fun H locs hG hS => ?_)
  refine lv_aload_n X.1 X.2.1 dX5_takeImage_8 rfl (lv_at hl 0 rfl) ?_
  refine gf_X5_1 X hK hG h0 wl_1_169 dX5_takeImage_9 (fun q3 hq3 kq3 => ?_)
  refine lv_iconst (v := 0) X.1 X.2.1 dX5_takeImage_12 (by decide +kernel) ?_
  refine lv_aload_n X.1 X.2.1 dX5_takeImage_13 rfl (lv_at hl 0 rfl) ?_
  refine gf_X5_3 X hK hG h0 wl_1_171 dX5_takeImage_14 (fun q4 hq4 kq4 => ?_)
  refine lv_iconst (v := 0) X.1 X.2.1 dX5_takeImage_17 (by decide +kernel) ?_
  refine lv_bipush (v := 100) X.1 X.2.1 dX5_takeImage_18 (by decide +kernel) ?_
  refine sg_copyi X hl.1 hK hG hS hq3 (k0 := 27) rfl hq4 (k := 28) rfl (by decide +kernel) (by decide +kernel) (by decide +kernel) (by decide +kernel) (by decide +kernel) wl_6_87 wl_3_42 wl_3_41 wl_1_14 (Nat.le_of_ble_eq_true rfl) (Nat.le_of_ble_eq_true rfl) dX5_takeImage_20 (fun H locs hG hS ru5 => ?_)
  refine lv_aload_n X.1 X.2.1 dX5_takeImage_23 rfl (lv_at hl 0 rfl) ?_
  refine lv_aload_n X.1 X.2.1 dX5_takeImage_24 rfl (lv_at hl 0 rfl) ?_
  refine gf_X5_6 X hK hG h0 wl_1_175 dX5_takeImage_25 (fun f6 hf6 kf6 => ?_)
  refine pf_X5_9 X hK hG hS h0 wl_1_178 ⟨_, rfl, (iv_top _)⟩ dX5_takeImage_28 (fun H locs hG hS ku7 ru7 => ?_)
  refine lv_aload_n X.1 X.2.1 dX5_takeImage_31 rfl (lv_at hl 0 rfl) ?_
  refine lv_aload_n X.1 X.2.1 dX5_takeImage_32 rfl (lv_at hl 0 rfl) ?_
  refine gf_X5_7 X hK hG h0 wl_1_176 dX5_takeImage_33 (fun f8 hf8 kf8 => ?_)
  refine pf_X5_10 X hK hG hS h0 wl_1_179 ⟨_, rfl, hf8⟩ dX5_takeImage_36 (fun H locs hG hS ku9 ru9 => ?_)
  refine lv_aload_n X.1 X.2.1 dX5_takeImage_39 rfl (lv_at hl 0 rfl) ?_
  refine lv_iconst (v := 1) X.1 X.2.1 dX5_takeImage_40 (by decide +kernel) ?_
  refine pf_X5_8 X hK hG hS h0 wl_1_177 ⟨_, rfl, (iv_of (iv_c 1 (a := 1) (b := 1) (by decide +kernel)) (a' := 0) (b' := 1) (by decide +kernel))⟩ dX5_takeImage_41 (fun H locs hG hS ku10 ru10 => ?_)
  exact sg_vret X hr hlk hb hK hC hG hS dX5_takeImage_44

theorem ca_X5_takeImage   (X : CallFix p m c cc nL s args sg_tbl own) (hK : va_K D vwCl tys s) (hG : sgG (KT P) D vwCl (fun q : Nat => base ≤ q) tys ad ks H) (hC : sgC base s) (hS : va_S (fun q : Nat => base ≤ q) s.heap H locs) (hb : base ≤ s.heap.size) (a0 : Nat) (h0 : isK ad ks 5 a0) (a1 : Nat) (h1 : isK ad ks 9 a1) (hl : Cond.methodLink own index yX5_takeImage ∈ sg_tbl) (hsize : ls.size = nL) (hst : st0 = [.ref a1].reverse ++ .ref a0 :: rest) (hW : (rest.map fun v => v.category).sum ≤ 8) (hR : 2 ≤ R.frames ∧ 81 ≤ R.locals) (hf : cells ≤ R.cells ∧ slots ≤ R.slots) (hdg : decode cc pc = .ok (.invokevirtual index, 3)) (kk : ∀ (H1 : Heap) (locs1 : List Loc), sgG (KT P) D vwCl (fun q : Nat => base ≤ q) tys ad ks H1 → va_S (fun q : Nat => base ≤ q) s.heap H1 locs1 → W p l e R s m args below meth c H1 locs1 cells slots Q (F0 m (pc + 3) ls rest)) : W p l e R s m args below meth c H locs cells slots Q (F0 m pc ls st0) :=
  sg_callVv X hK hG hC hS hb (m_X5_takeImage l a0 h0 a1 h1) h0 (k := 5) (ci := 5) rfl (C := RX5) (T := TX5) (N := 11) rfl wl_6_86 wl_1_6 wl_6_84 wl_6_85 (n := 1) (by decide +kernel) rfl rfl rfl hl hsize hst hW hR hf hdg kk

set_option maxHeartbeats 8000000 in
set_option maxRecDepth 100000 in
theorem m_X5_bringBack (l : Launch) {D : va_G} {base : Nat} {tys : List (ClassId × FieldType)} {ad ks : List Nat} {P : sgPm} (a0 : Nat) (h0 : isK ad ks 5 a0) (a1 : Nat) (h1 : isK ad ks 9 a1) : sgMi l (KT P) D vwCl base tys ad ks yX5_bringBack cX5_bringBack 2 (some .boolean) ({ frames := 1, cells := 0, slots := 0, locals := 60 }) [.ref a0, .ref a1] (fun r : Int32 => iv 0 1 r) := by
  refine sg_ofW (by decide +kernel) (Nat.le_of_ble_eq_true rfl) (fun p e s m below meth c X hr hlk hb hK hC hG ls hl => ?_)
  have hS : va_S (fun q : Nat => base ≤ q) s.heap s.heap [] := va_S.rf
  have hl : lv_has ls 2 [(0, .ref a0), (1, .ref a1)] := hl
  refine lv_aload_n X.1 X.2.1 dX5_bringBack_0 rfl (lv_at hl 0 rfl) ?_
  refine gf_X5_8 X hK hG h0 wl_1_177 dX5_bringBack_1 (fun f1 hf1 kf1 => ?_)
  refine lv_if_ne (tgt := 9) X.1 X.2.1 dX5_bringBack_4 (by decide) (fun c2 => ?_) (fun c2 => ?_)
  · refine lv_aload_n X.1 X.2.1 dX5_bringBack_9 rfl (lv_at hl 1 rfl) ?_
    refine lv_aload_n X.1 X.2.1 dX5_bringBack_10 rfl (lv_at hl 0 rfl) ?_
    refine gf_X5_2 X hK hG h0 wl_1_170 dX5_bringBack_11 (fun q3 hq3 kq3 => ?_)
    refine ca_X9_takeFrom X hK hG hC hS hb a1 h1 q3 hq3 wl_4_164 hl.1 (rest := []) rfl (Nat.le_of_ble_eq_true rfl) ⟨Nat.le_of_ble_eq_true rfl, Nat.le_of_ble_eq_true rfl⟩ ⟨Nat.le_of_ble_eq_true rfl, Nat.le_of_ble_eq_true rfl⟩ dX5_bringBack_14 (fun H locs hG hS => ?_)
    refine lv_aload_n X.1 X.2.1 dX5_bringBack_17 rfl (lv_at hl 0 rfl) ?_
    refine gf_X5_3 X hK hG h0 wl_1_171 dX5_bringBack_18 (fun q5 hq5 kq5 => ?_)
    refine lv_iconst (v := 0) X.1 X.2.1 dX5_bringBack_21 (by decide +kernel) ?_
    refine lv_aload_n X.1 X.2.1 dX5_bringBack_22 rfl (lv_at hl 0 rfl) ?_
    refine gf_X5_1 X hK hG h0 wl_1_169 dX5_bringBack_23 (fun q6 hq6 kq6 => ?_)
    refine lv_iconst (v := 0) X.1 X.2.1 dX5_bringBack_26 (by decide +kernel) ?_
    refine lv_bipush (v := 100) X.1 X.2.1 dX5_bringBack_27 (by decide +kernel) ?_
    refine sg_copyi X hl.1 hK hG hS hq5 (k0 := 28) rfl hq6 (k := 27) rfl (by decide +kernel) (by decide +kernel) (by decide +kernel) (by decide +kernel) (by decide +kernel) wl_6_87 wl_3_42 wl_3_41 wl_1_14 (Nat.le_of_ble_eq_true rfl) (Nat.le_of_ble_eq_true rfl) dX5_bringBack_29 (fun H locs hG hS ru7 => ?_)
    refine lv_aload_n X.1 X.2.1 dX5_bringBack_32 rfl (lv_at hl 0 rfl) ?_
    refine lv_aload_n X.1 X.2.1 dX5_bringBack_33 rfl (lv_at hl 0 rfl) ?_
    refine gf_X5_9 X hK hG h0 wl_1_178 dX5_bringBack_34 (fun f8 hf8 kf8 => ?_)
    refine pf_X5_6 X hK hG hS h0 wl_1_175 ⟨_, rfl, (iv_top _)⟩ dX5_bringBack_37 (fun H locs hG hS ku9 ru9 => ?_)
    refine lv_aload_n X.1 X.2.1 dX5_bringBack_40 rfl (lv_at hl 0 rfl) ?_
    refine lv_aload_n X.1 X.2.1 dX5_bringBack_41 rfl (lv_at hl 0 rfl) ?_
    refine gf_X5_10 X hK hG h0 wl_1_179 dX5_bringBack_42 (fun f10 hf10 kf10 => ?_)
    refine pf_X5_7 X hK hG hS h0 wl_1_176 ⟨_, rfl, hf10⟩ dX5_bringBack_45 (fun H locs hG hS ku11 ru11 => ?_)
    refine lv_aload_n X.1 X.2.1 dX5_bringBack_48 rfl (lv_at hl 0 rfl) ?_
    refine lv_iconst (v := 0) X.1 X.2.1 dX5_bringBack_49 (by decide +kernel) ?_
    refine pf_X5_4 X hK hG hS h0 wl_1_172 ⟨_, rfl, (iv_top _)⟩ dX5_bringBack_50 (fun H locs hG hS ku12 ru12 => ?_)
    refine lv_iconst (v := 1) X.1 X.2.1 dX5_bringBack_53 (by decide +kernel) ?_
    exact sg_zret X hr (sg_zn (iv_of (iv_c 1 (a := 1) (b := 1) (by decide +kernel)) (a' := 0) (b' := 1) (by decide +kernel))) hlk hb hK hC hG hS (iv_of (iv_c 1 (a := 1) (b := 1) (by decide +kernel)) (a' := 0) (b' := 1) (by decide +kernel)) dX5_bringBack_54
  · refine lv_iconst (v := 0) X.1 X.2.1 dX5_bringBack_7 (by decide +kernel) ?_
    exact sg_zret X hr (sg_zn (iv_of (iv_c 0 (a := 0) (b := 0) (by decide +kernel)) (a' := 0) (b' := 1) (by decide +kernel))) hlk hb hK hC hG hS (iv_of (iv_c 0 (a := 0) (b := 0) (by decide +kernel)) (a' := 0) (b' := 1) (by decide +kernel)) dX5_bringBack_8

theorem ca_X5_bringBack   (X : CallFix p m c cc nL s args sg_tbl own) (hK : va_K D vwCl tys s) (hG : sgG (KT P) D vwCl (fun q : Nat => base ≤ q) tys ad ks H) (hC : sgC base s) (hS : va_S (fun q : Nat => base ≤ q) s.heap H locs) (hb : base ≤ s.heap.size) (a0 : Nat) (h0 : isK ad ks 5 a0) (a1 : Nat) (h1 : isK ad ks 9 a1) (hl : Cond.methodLink own index yX5_bringBack ∈ sg_tbl) (hsize : ls.size = nL) (hst : st0 = [.ref a1].reverse ++ .ref a0 :: rest) (hW : (rest.map fun v => v.category).sum ≤ 8) (hR : 2 ≤ R.frames ∧ 81 ≤ R.locals) (hf : cells ≤ R.cells ∧ slots ≤ R.slots) (hdg : decode cc pc = .ok (.invokevirtual index, 3)) (kk : ∀ (r : Int32) (H1 : Heap) (locs1 : List Loc), (fun r : Int32 => iv 0 1 r) r → sgG (KT P) D vwCl (fun q : Nat => base ≤ q) tys ad ks H1 → va_S (fun q : Nat => base ≤ q) s.heap H1 locs1 → W p l e R s m args below meth c H1 locs1 cells slots Q (F0 m (pc + 3) ls (.int r :: rest))) : W p l e R s m args below meth c H locs cells slots Q (F0 m pc ls st0) :=
  sg_callVi X hK hG hC hS hb (m_X5_bringBack l a0 h0 a1 h1) h0 (k := 5) (ci := 5) rfl (C := RX5) (T := TX5) (N := 11) rfl wl_6_95 wl_1_6 wl_6_93 wl_6_94 (n := 1) (by decide +kernel) rfl rfl rfl hl hsize hst hW hR hf hdg kk

set_option maxHeartbeats 8000000 in
set_option maxRecDepth 100000 in
theorem m_X8_turnTo (l : Launch) {D : va_G} {base : Nat} {tys : List (ClassId × FieldType)} {ad ks : List Nat} {P : sgPm} (a0 : Nat) (h0 : isK ad ks 8 a0) (x1 : Int32) (h1 : iv 0 3 x1) (x2 : Int32) : sgMv l (KT P) D vwCl base tys ad ks yX8_turnTo cX8_turnTo 5 none ({ frames := 0, cells := 0, slots := 0, locals := 0 }) [.ref a0, .int x1, .int x2] := by
  refine sg_ofW (by decide +kernel) (Nat.le_of_ble_eq_true rfl) (fun p e s m below meth c X hr hlk hb hK hC hG ls hl => ?_)
  have hS : va_S (fun q : Nat => base ≤ q) s.heap s.heap [] := va_S.rf
  have hl : lv_has ls 5 [(0, .ref a0), (1, .int x1), (2, .int x2)] := hl
  refine lv_aload_n X.1 X.2.1 dX8_turnTo_0 rfl (lv_at hl 0 rfl) ?_
  refine gf_X8_2 X hK hG h0 wl_2_40 dX8_turnTo_1 (fun q1 hq1 kq1 => ?_)
  refine lv_iload_n X.1 X.2.1 dX8_turnTo_4 rfl (lv_at hl 1 rfl) ?_
  refine lv_iload_n X.1 X.2.1 dX8_turnTo_5 rfl (lv_at hl 2 rfl) ?_
  refine as_36 X hK hG hS hq1 (iv_vpin h1 (by decide +kernel)) ⟨_, rfl, (iv_top _)⟩ dX8_turnTo_6 (fun H locs hG hS ru2 => ?_)
  refine lv_iload_n X.1 X.2.1 dX8_turnTo_7 rfl (lv_at hl 1 rfl) ?_
  refine lv_iconst (v := 1) X.1 X.2.1 dX8_turnTo_8 (by decide +kernel) ?_
  refine lv_iadd X.1 X.2.1 dX8_turnTo_9 ?_
  refine lv_topi (fun f3 ef3 => ?_)
  refine lv_sipush (v := 279) X.1 X.2.1 dX8_turnTo_10 (by decide +kernel) ?_
  refine lv_imul X.1 X.2.1 dX8_turnTo_13 ?_
  refine lv_topi (fun f4 ef4 => ?_)
  refine lv_istore_n (lv' := [(3, .int f4), (0, .ref a0), (1, .int x1), (2, .int x2)]) X.1 X.2.1 dX8_turnTo_14 rfl hl (by decide) rfl (fun ls hl => ?_)
  refine lv_iload_n X.1 X.2.1 dX8_turnTo_15 rfl (lv_at hl 2 rfl) ?_
  refine lv_sipush (v := 279) X.1 X.2.1 dX8_turnTo_16 (by decide +kernel) ?_
  refine lv_imul X.1 X.2.1 dX8_turnTo_19 ?_
  refine lv_topi (fun f5 ef5 => ?_)
  refine lv_istore (lv' := [(4, .int f5), (3, .int f4), (0, .ref a0), (1, .int x1), (2, .int x2)]) X.1 X.2.1 dX8_turnTo_20 hl (by decide) rfl (fun ls hl => ?_)
  have B6_22 : ∀ (N : Nat) (H : Heap) (locs : List Loc) (ls : Array Slot) (z6_4 : Int32), sgG (KT P) D vwCl (fun q : Nat => base ≤ q) tys ad ks H → va_S (fun q : Nat => base ≤ q) s.heap H locs → lv_has ls 5 [(0, .ref a0), (3, .int f4), (4, .int z6_4)] → iv 0 1116 z6_4 → (1117 - z6_4.toInt).toNat ≤ N → W p l e (headSpec (Cond.code yX8_turnTo cX8_turnTo 5 none :: sg_tbl) ({ frames := 0, cells := 0, slots := 0, locals := 0 })).room s m #[.ref a0, .int x1, .int x2] below meth c H locs 0 0 (MQ below (va_Qv (fun (_ : Unit) => True) (fun _ => sgB (KT P) D vwCl base tys ad ks) (fun q : Nat => base ≤ q)) #[.ref a0, .int x1, .int x2] s 0 0 (fun q : Nat => base ≤ q)) (F0 m 22 ls []) := by
    intro N; induction N with
    | zero =>
      intro H locs ls z6_4 hG hS hl hz6_4 hN
      exact absurd hN (by have := iv_up hz6_4; omega)
    | succ N ih6 =>
      intro H locs ls z6_4 hG hS hl hz6_4 hN6
      refine lv_iload X.1 X.2.1 dX8_turnTo_22 (lv_at hl 2 rfl) ?_
      refine lv_iload_n X.1 X.2.1 dX8_turnTo_24 rfl (lv_at hl 1 rfl) ?_
      refine lv_icmp_ge (tgt := 50) X.1 X.2.1 dX8_turnTo_25 (by decide) (fun c7 => ?_) (fun c7 => ?_)
      · exact sg_vret X hr hlk hb hK hC hG hS dX8_turnTo_50
      · refine lv_aload_n X.1 X.2.1 dX8_turnTo_28 rfl (lv_at hl 0 rfl) ?_
        refine gf_X8_3 X hK hG h0 wl_2_41 dX8_turnTo_29 (fun q8 hq8 kq8 => ?_)
        refine lv_iload X.1 X.2.1 dX8_turnTo_32 (lv_at hl 2 rfl) ?_
        refine lv_iconst (v := 0) X.1 X.2.1 dX8_turnTo_34 (by decide +kernel) ?_
        refine as_37 X hK hG hS hq8 (iv_vpin (iv_lt (b' := 1115) (iv_gt_of c7) hz6_4 (iv_mul (a' := 279) (b' := 1116) ef4 (iv_add (a' := 1) (b' := 4) ef3 h1 (iv_c 1 (a := 1) (b := 1) (by decide +kernel)) (by decide +kernel)) (iv_c 279 (a := 279) (b := 279) (by decide +kernel)) (by decide +kernel)) (by decide +kernel)) (by decide +kernel)) ⟨_, rfl, (iv_top _)⟩ dX8_turnTo_35 (fun H locs hG hS ru9 => ?_)
        refine lv_aload_n X.1 X.2.1 dX8_turnTo_36 rfl (lv_at hl 0 rfl) ?_
        refine gf_X8_4 X hK hG h0 wl_2_42 dX8_turnTo_37 (fun q10 hq10 kq10 => ?_)
        refine lv_iload X.1 X.2.1 dX8_turnTo_40 (lv_at hl 2 rfl) ?_
        refine lv_iconst (v := 0) X.1 X.2.1 dX8_turnTo_42 (by decide +kernel) ?_
        refine as_38 X hK hG hS hq10 (iv_vpin (iv_lt (b' := 1115) (iv_gt_of c7) hz6_4 (iv_mul (a' := 279) (b' := 1116) ef4 (iv_add (a' := 1) (b' := 4) ef3 h1 (iv_c 1 (a := 1) (b := 1) (by decide +kernel)) (by decide +kernel)) (iv_c 279 (a := 279) (b := 279) (by decide +kernel)) (by decide +kernel)) (by decide +kernel)) (by decide +kernel)) ⟨_, rfl, (iv_top _)⟩ dX8_turnTo_43 (fun H locs hG hS ru11 => ?_)
        obtain ⟨y12, ey12⟩ : ∃ y : Int32, y = z6_4 + Int32.ofInt 1 := ⟨_, rfl⟩
        refine lv_iinc (v := y12) (lv' := [(4, .int y12), (0, .ref a0), (3, .int f4)]) X.1 X.2.1 dX8_turnTo_44 hl (k := 2) rfl ey12.symm (by decide) rfl (fun ls hl => ?_)
        refine lv_goto (tgt := 22) X.1 X.2.1 dX8_turnTo_47 (by decide) ?_
        exact ih6 H _ _ y12 hG hS (lv_sub hl [1, 2, 0] rfl) (iv_of (iv_add (a' := 1) (b' := 1116) ey12 (iv_lt (b' := 1115) (iv_gt_of c7) hz6_4 (iv_mul (a' := 279) (b' := 1116) ef4 (iv_add (a' := 1) (b' := 4) ef3 h1 (iv_c 1 (a := 1) (b := 1) (by decide +kernel)) (by decide +kernel)) (iv_c 279 (a := 279) (b := 279) (by decide +kernel)) (by decide +kernel)) (by decide +kernel)) (iv_c _ (a := 1) (b := 1) (by decide +kernel)) (by decide +kernel)) (a' := 0) (b' := 1116) (by decide +kernel)) (iv_stepU ey12 (iv_lt (b' := 1115) (iv_gt_of c7) hz6_4 (iv_mul (a' := 279) (b' := 1116) ef4 (iv_add (a' := 1) (b' := 4) ef3 h1 (iv_c 1 (a := 1) (b := 1) (by decide +kernel)) (by decide +kernel)) (iv_c 279 (a := 279) (b := 279) (by decide +kernel)) (by decide +kernel)) (by decide +kernel)) (by decide +kernel) hN6)
  exact B6_22 _ H _ _ f5 hG hS (lv_sub hl [2, 1, 0] rfl) (iv_of (iv_mul (a' := 0) (b' := 837) ef5 h1 (iv_c 279 (a := 279) (b := 279) (by decide +kernel)) (by decide +kernel)) (a' := 0) (b' := 1116) (by decide +kernel)) (Nat.le_refl _)

theorem ca_X8_turnTo   (X : CallFix p m c cc nL s args sg_tbl own) (hK : va_K D vwCl tys s) (hG : sgG (KT P) D vwCl (fun q : Nat => base ≤ q) tys ad ks H) (hC : sgC base s) (hS : va_S (fun q : Nat => base ≤ q) s.heap H locs) (hb : base ≤ s.heap.size) (a0 : Nat) (h0 : isK ad ks 8 a0) (x1 : Int32) (h1 : iv 0 3 x1) (x2 : Int32) (hl : Cond.methodLink own index yX8_turnTo ∈ sg_tbl) (hsize : ls.size = nL) (hst : st0 = [.int x1, .int x2].reverse ++ .ref a0 :: rest) (hW : (rest.map fun v => v.category).sum ≤ 8) (hR : 1 ≤ R.frames ∧ 24 ≤ R.locals) (hf : cells ≤ R.cells ∧ slots ≤ R.slots) (hdg : decode cc pc = .ok (.invokevirtual index, 3)) (kk : ∀ (H1 : Heap) (locs1 : List Loc), sgG (KT P) D vwCl (fun q : Nat => base ≤ q) tys ad ks H1 → va_S (fun q : Nat => base ≤ q) s.heap H1 locs1 → W p l e R s m args below meth c H1 locs1 cells slots Q (F0 m (pc + 3) ls rest)) : W p l e R s m args below meth c H locs cells slots Q (F0 m pc ls st0) :=
  sg_callVv X hK hG hC hS hb (m_X8_turnTo l a0 h0 x1 h1 x2) h0 (k := 8) (ci := 8) rfl (C := RX8) (T := TX8) (N := 9) rfl wl_4_111 wl_1_8 wl_4_110 wl_0_22 (n := 2) (by decide +kernel) rfl rfl rfl hl hsize hst hW hR hf hdg kk

set_option maxHeartbeats 8000000 in
set_option maxRecDepth 100000 in
theorem m_X8_setLetters (l : Launch) {D : va_G} {base : Nat} {tys : List (ClassId × FieldType)} {ad ks : List Nat} {P : sgPm} (a0 : Nat) (h0 : isK ad ks 8 a0) (x1 : Int32) (x2 : Int32) (x3 : Int32) (x4 : Int32) : sgMv l (KT P) D vwCl base tys ad ks yX8_setLetters cX8_setLetters 5 none ({ frames := 2, cells := 0, slots := 0, locals := 42 }) [.ref a0, .int x1, .int x2, .int x3, .int x4] := by
  refine sg_ofW (by decide +kernel) (Nat.le_of_ble_eq_true rfl) (fun p e s m below meth c X hr hlk hb hK hC hG ls hl => ?_)
  have hS : va_S (fun q : Nat => base ≤ q) s.heap s.heap [] := va_S.rf
  have hl : lv_has ls 5 [(0, .ref a0), (1, .int x1), (2, .int x2), (3, .int x3), (4, .int x4)] := hl
  refine lv_aload_n X.1 X.2.1 dX8_setLetters_0 rfl (lv_at hl 0 rfl) ?_
  refine gf_X8_5 X hK hG h0 wl_2_43 dX8_setLetters_1 (fun q1 hq1 kq1 => ?_)
  refine lv_iconst (v := 0) X.1 X.2.1 dX8_setLetters_4 (by decide +kernel) ?_
  refine lv_iload_n X.1 X.2.1 dX8_setLetters_5 rfl (lv_at hl 2 rfl) ?_
  refine as_39 X hK hG hS hq1 (iv_vpin (iv_c 0 (a := 0) (b := 0) (by decide +kernel)) (by decide +kernel)) ⟨_, rfl, (iv_top _)⟩ dX8_setLetters_6 (fun H locs hG hS ru2 => ?_)
  refine lv_aload_n X.1 X.2.1 dX8_setLetters_7 rfl (lv_at hl 0 rfl) ?_
  refine gg_X8_5 X hK hG h0 wl_2_43 (ru2 _ _ _ _ _ _ _ h0 rfl rfl (by decide) (fun z => z.elim) kq1) dX8_setLetters_8 ?_
  refine lv_iconst (v := 1) X.1 X.2.1 dX8_setLetters_11 (by decide +kernel) ?_
  refine lv_aload_n X.1 X.2.1 dX8_setLetters_12 rfl (lv_at hl 0 rfl) ?_
  refine gf_X8_0 X hK hG h0 wl_2_35 dX8_setLetters_13 (fun q3 hq3 kq3 => ?_)
  refine lv_iload_n X.1 X.2.1 dX8_setLetters_16 rfl (lv_at hl 1 rfl) ?_
  refine ca_X4_row X hK hG hC (fun _ h => h) hS hb q3 hq3 x1 wl_4_116 hl.1 (rest := [.int 1, .ref q1]) rfl (Nat.le_of_ble_eq_true rfl) ⟨Nat.le_of_ble_eq_true rfl, Nat.le_of_ble_eq_true rfl⟩ ⟨Nat.le_of_ble_eq_true rfl, Nat.le_of_ble_eq_true rfl⟩ dX8_setLetters_17 (fun f4 locs hf4 hS => ?_)
  refine as_39 X hK hG hS hq1 (iv_vpin (iv_c 1 (a := 1) (b := 1) (by decide +kernel)) (by decide +kernel)) ⟨_, rfl, (iv_top _)⟩ dX8_setLetters_20 (fun H locs hG hS ru5 => ?_)
  refine lv_aload_n X.1 X.2.1 dX8_setLetters_21 rfl (lv_at hl 0 rfl) ?_
  refine gg_X8_5 X hK hG h0 wl_2_43 (ru5 _ _ _ _ _ _ _ h0 rfl rfl (by decide) (fun z => z.elim) (ru2 _ _ _ _ _ _ _ h0 rfl rfl (by decide) (fun z => z.elim) kq1)) dX8_setLetters_22 ?_
  refine lv_iconst (v := 2) X.1 X.2.1 dX8_setLetters_25 (by decide +kernel) ?_
  refine lv_aload_n X.1 X.2.1 dX8_setLetters_26 rfl (lv_at hl 0 rfl) ?_
  refine gg_X8_0 X hK hG h0 wl_2_35 (ru5 _ _ _ _ _ _ _ h0 rfl rfl (by decide) (fun z => z.elim) kq3) dX8_setLetters_27 ?_
  refine lv_iload_n X.1 X.2.1 dX8_setLetters_30 rfl (lv_at hl 1 rfl) ?_
  refine ca_X4_column X hK hG hC (fun _ h => h) hS hb q3 hq3 x1 wl_4_120 hl.1 (rest := [.int 2, .ref q1]) rfl (Nat.le_of_ble_eq_true rfl) ⟨Nat.le_of_ble_eq_true rfl, Nat.le_of_ble_eq_true rfl⟩ ⟨Nat.le_of_ble_eq_true rfl, Nat.le_of_ble_eq_true rfl⟩ dX8_setLetters_31 (fun f6 locs hf6 hS => ?_)
  refine as_39 X hK hG hS hq1 (iv_vpin (iv_c 2 (a := 2) (b := 2) (by decide +kernel)) (by decide +kernel)) ⟨_, rfl, (iv_top _)⟩ dX8_setLetters_34 (fun H locs hG hS ru7 => ?_)
  refine lv_aload_n X.1 X.2.1 dX8_setLetters_35 rfl (lv_at hl 0 rfl) ?_
  refine gg_X8_5 X hK hG h0 wl_2_43 (ru7 _ _ _ _ _ _ _ h0 rfl rfl (by decide) (fun z => z.elim) (ru5 _ _ _ _ _ _ _ h0 rfl rfl (by decide) (fun z => z.elim) (ru2 _ _ _ _ _ _ _ h0 rfl rfl (by decide) (fun z => z.elim) kq1))) dX8_setLetters_36 ?_
  refine lv_iconst (v := 3) X.1 X.2.1 dX8_setLetters_39 (by decide +kernel) ?_
  refine lv_aload_n X.1 X.2.1 dX8_setLetters_40 rfl (lv_at hl 0 rfl) ?_
  refine gg_X8_0 X hK hG h0 wl_2_35 (ru7 _ _ _ _ _ _ _ h0 rfl rfl (by decide) (fun z => z.elim) (ru5 _ _ _ _ _ _ _ h0 rfl rfl (by decide) (fun z => z.elim) kq3)) dX8_setLetters_41 ?_
  refine lv_iload_n X.1 X.2.1 dX8_setLetters_44 rfl (lv_at hl 1 rfl) ?_
  refine lv_aload_n X.1 X.2.1 dX8_setLetters_45 rfl (lv_at hl 0 rfl) ?_
  refine gg_X8_0 X hK hG h0 wl_2_35 (ru7 _ _ _ _ _ _ _ h0 rfl rfl (by decide) (fun z => z.elim) (ru5 _ _ _ _ _ _ _ h0 rfl rfl (by decide) (fun z => z.elim) kq3)) dX8_setLetters_46 ?_
  refine gf_X4_10 X hK hG hq3 wl_1_231 dX8_setLetters_49 (fun f8 hf8 kf8 => ?_)
  refine ca_X4_around X hK hG hC (fun _ h => h) hS hb q3 hq3 x1 f8 wl_4_121 hl.1 (rest := [.int 3, .ref q1]) rfl (Nat.le_of_ble_eq_true rfl) ⟨Nat.le_of_ble_eq_true rfl, Nat.le_of_ble_eq_true rfl⟩ ⟨Nat.le_of_ble_eq_true rfl, Nat.le_of_ble_eq_true rfl⟩ dX8_setLetters_52 (fun f9 locs hf9 hS => ?_)
  refine as_39 X hK hG hS hq1 (iv_vpin (iv_c 3 (a := 3) (b := 3) (by decide +kernel)) (by decide +kernel)) ⟨_, rfl, (iv_top _)⟩ dX8_setLetters_55 (fun H locs hG hS ru10 => ?_)
  refine lv_aload_n X.1 X.2.1 dX8_setLetters_56 rfl (lv_at hl 0 rfl) ?_
  refine gg_X8_5 X hK hG h0 wl_2_43 (ru10 _ _ _ _ _ _ _ h0 rfl rfl (by decide) (fun z => z.elim) (ru7 _ _ _ _ _ _ _ h0 rfl rfl (by decide) (fun z => z.elim) (ru5 _ _ _ _ _ _ _ h0 rfl rfl (by decide) (fun z => z.elim) (ru2 _ _ _ _ _ _ _ h0 rfl rfl (by decide) (fun z => z.elim) kq1)))) dX8_setLetters_57 ?_
  refine lv_iconst (v := 4) X.1 X.2.1 dX8_setLetters_60 (by decide +kernel) ?_
  refine lv_iload_n X.1 X.2.1 dX8_setLetters_61 rfl (lv_at hl 3 rfl) ?_
  refine as_39 X hK hG hS hq1 (iv_vpin (iv_c 4 (a := 4) (b := 4) (by decide +kernel)) (by decide +kernel)) ⟨_, rfl, (iv_top _)⟩ dX8_setLetters_62 (fun H locs hG hS ru11 => ?_)
  refine lv_aload_n X.1 X.2.1 dX8_setLetters_63 rfl (lv_at hl 0 rfl) ?_
  refine gg_X8_5 X hK hG h0 wl_2_43 (ru11 _ _ _ _ _ _ _ h0 rfl rfl (by decide) (fun z => z.elim) (ru10 _ _ _ _ _ _ _ h0 rfl rfl (by decide) (fun z => z.elim) (ru7 _ _ _ _ _ _ _ h0 rfl rfl (by decide) (fun z => z.elim) (ru5 _ _ _ _ _ _ _ h0 rfl rfl (by decide) (fun z => z.elim) (ru2 _ _ _ _ _ _ _ h0 rfl rfl (by decide) (fun z => z.elim) kq1))))) dX8_setLetters_64 ?_
  refine lv_iconst (v := 5) X.1 X.2.1 dX8_setLetters_67 (by decide +kernel) ?_
  refine lv_iload X.1 X.2.1 dX8_setLetters_68 (lv_at hl 4 rfl) ?_
  refine as_39 X hK hG hS hq1 (iv_vpin (iv_c 5 (a := 5) (b := 5) (by decide +kernel)) (by decide +kernel)) ⟨_, rfl, (iv_top _)⟩ dX8_setLetters_70 (fun H locs hG hS ru12 => ?_)
  exact sg_vret X hr hlk hb hK hC hG hS dX8_setLetters_71

theorem ca_X8_setLetters   (X : CallFix p m c cc nL s args sg_tbl own) (hK : va_K D vwCl tys s) (hG : sgG (KT P) D vwCl (fun q : Nat => base ≤ q) tys ad ks H) (hC : sgC base s) (hS : va_S (fun q : Nat => base ≤ q) s.heap H locs) (hb : base ≤ s.heap.size) (a0 : Nat) (h0 : isK ad ks 8 a0) (x1 : Int32) (x2 : Int32) (x3 : Int32) (x4 : Int32) (hl : Cond.methodLink own index yX8_setLetters ∈ sg_tbl) (hsize : ls.size = nL) (hst : st0 = [.int x1, .int x2, .int x3, .int x4].reverse ++ .ref a0 :: rest) (hW : (rest.map fun v => v.category).sum ≤ 8) (hR : 3 ≤ R.frames ∧ 66 ≤ R.locals) (hf : cells ≤ R.cells ∧ slots ≤ R.slots) (hdg : decode cc pc = .ok (.invokevirtual index, 3)) (kk : ∀ (H1 : Heap) (locs1 : List Loc), sgG (KT P) D vwCl (fun q : Nat => base ≤ q) tys ad ks H1 → va_S (fun q : Nat => base ≤ q) s.heap H1 locs1 → W p l e R s m args below meth c H1 locs1 cells slots Q (F0 m (pc + 3) ls rest)) : W p l e R s m args below meth c H locs cells slots Q (F0 m pc ls st0) :=
  sg_callVv X hK hG hC hS hb (m_X8_setLetters l a0 h0 x1 x2 x3 x4) h0 (k := 8) (ci := 8) rfl (C := RX8) (T := TX8) (N := 9) rfl wl_4_115 wl_1_8 wl_4_114 wl_0_23 (n := 4) (by decide +kernel) rfl rfl rfl hl hsize hst hW hR hf hdg kk

set_option maxHeartbeats 8000000 in
set_option maxRecDepth 100000 in
theorem m_X8_grows_n (l : Launch) {D : va_G} {base : Nat} {tys : List (ClassId × FieldType)} {ad ks : List Nat} {P : sgPm} (hp0 : P.1 = false) (a0 : Nat) (h0 : isK ad ks 8 a0) (x1 : Int32) (x2 : Int32) (x3 : Int32) (x4 : Int32) : sgMi l (KT P) D vwCl base tys ad ks yX8_grows cX8_grows 10 (some .boolean) ({ frames := 3, cells := 0, slots := 0, locals := 75 }) [.ref a0, .int x1, .int x2, .int x3, .int x4] (fun r : Int32 => iv 0 1 r ∧ (¬ r = 0 → iv 0 29 x1)) := by
  refine sg_ofW (by decide +kernel) (Nat.le_of_ble_eq_true rfl) (fun p e s m below meth c X hr hlk hb hK hC hG ls hl => ?_)
  have hS : va_S (fun q : Nat => base ≤ q) s.heap s.heap [] := va_S.rf
  have hl : lv_has ls 10 [(0, .ref a0), (1, .int x1), (2, .int x2), (3, .int x3), (4, .int x4)] := hl
  refine lv_iload_n X.1 X.2.1 dX8_grows_0 rfl (lv_at hl 1 rfl) ?_
  refine lv_if_lt (tgt := 33) X.1 X.2.1 dX8_grows_1 (by decide) (fun c1 => ?_) (fun c1 => ?_)
  · refine lv_iconst (v := 0) X.1 X.2.1 dX8_grows_33 (by decide +kernel) ?_
    exact sg_zret X hr (sg_zn (iv_of (iv_c 0 (a := 0) (b := 0) (by decide +kernel)) (a' := 0) (b' := 1) (by decide +kernel))) hlk hb hK hC hG hS ⟨(iv_of (iv_c 0 (a := 0) (b := 0) (by decide +kernel)) (a' := 0) (b' := 1) (by decide +kernel)), fun h => absurd rfl h⟩ dX8_grows_34
  · refine lv_iload_n X.1 X.2.1 dX8_grows_4 rfl (lv_at hl 1 rfl) ?_
    refine lv_aload_n X.1 X.2.1 dX8_grows_5 rfl (lv_at hl 0 rfl) ?_
    refine gf_X8_0 X hK hG h0 wl_2_35 dX8_grows_6 (fun q2 hq2 kq2 => ?_)
    refine gf_X4_5 X hK hG hq2 wl_1_218 dX8_grows_9 (fun f3 hf3 kf3 => ?_)
    refine lv_icmp_ge (tgt := 33) X.1 X.2.1 dX8_grows_12 (by decide) (fun c4 => ?_) (fun c4 => ?_)
    · refine lv_iconst (v := 0) X.1 X.2.1 dX8_grows_33 (by decide +kernel) ?_
      exact sg_zret X hr (sg_zn (iv_of (iv_c 0 (a := 0) (b := 0) (by decide +kernel)) (a' := 0) (b' := 1) (by decide +kernel))) hlk hb hK hC hG hS ⟨(iv_of (iv_c 0 (a := 0) (b := 0) (by decide +kernel)) (a' := 0) (b' := 1) (by decide +kernel)), fun h => absurd rfl h⟩ dX8_grows_34
    · refine lv_iload_n X.1 X.2.1 dX8_grows_15 rfl (lv_at hl 2 rfl) ?_
      refine lv_iload_n X.1 X.2.1 dX8_grows_16 rfl (lv_at hl 3 rfl) ?_
      refine lv_ior X.1 X.2.1 dX8_grows_17 ?_
      refine lv_topi (fun f5 ef5 => ?_)
      refine lv_aload_n X.1 X.2.1 dX8_grows_18 rfl (lv_at hl 0 rfl) ?_
      refine gg_X8_0 X hK hG h0 wl_2_35 kq2 dX8_grows_19 ?_
      refine gf_X4_10 X hK hG hq2 wl_1_231 dX8_grows_22 (fun f6 hf6 kf6 => ?_)
      refine lv_ior X.1 X.2.1 dX8_grows_25 ?_
      refine lv_topi (fun f7 ef7 => ?_)
      refine lv_iload_n X.1 X.2.1 dX8_grows_26 rfl (lv_at hl 1 rfl) ?_
      refine lv_ishr X.1 X.2.1 dX8_grows_27 ?_
      refine lv_topi (fun f8 ef8 => ?_)
      refine lv_iconst (v := 1) X.1 X.2.1 dX8_grows_28 (by decide +kernel) ?_
      refine lv_iand X.1 X.2.1 dX8_grows_29 ?_
      refine lv_topi (fun f9 ef9 => ?_)
      refine lv_if_eq (tgt := 35) X.1 X.2.1 dX8_grows_30 (by decide) (fun c10 => ?_) (fun c10 => ?_)
      · refine lv_aload_n X.1 X.2.1 dX8_grows_35 rfl (lv_at hl 0 rfl) ?_
        refine gg_X8_0 X hK hG h0 wl_2_35 kq2 dX8_grows_36 ?_
        refine gf_X4_1 X hK hG hq2 wl_1_213 dX8_grows_39 (fun q11 hq11 kq11 => ?_)
        refine lv_iload_n X.1 X.2.1 dX8_grows_42 rfl (lv_at hl 1 rfl) ?_
        refine al_22 X hK hG hq11 (iv_vpin (iv_lt (b' := 29) (iv_gt_of c4) (iv_ler (c' := 0) (iv_ge_of c1) (iv_c 0 (a := 0) (b := 0) (by decide +kernel)) (iv_top x1) (by decide +kernel)) hf3 (by decide +kernel)) (by decide +kernel)) dX8_grows_43 (fun f12 hf12 => ?_)
        refine lv_iload_n X.1 X.2.1 dX8_grows_44 rfl (lv_at hl 2 rfl) ?_
        refine lv_iand X.1 X.2.1 dX8_grows_45 ?_
        refine lv_topi (fun f13 ef13 => ?_)
        refine ca_J6_bitCount_0f7a4 X hK hG hC (fun _ h => h) hS hb f13 wl_4_102 hl.1 (rest := []) rfl (Nat.le_of_ble_eq_true rfl) ⟨Nat.le_of_ble_eq_true rfl, Nat.le_of_ble_eq_true rfl⟩ ⟨Nat.le_of_ble_eq_true rfl, Nat.le_of_ble_eq_true rfl⟩ dX8_grows_46 (fun f14 locs hf14 hS => ?_)
        refine lv_istore (lv' := [(5, .int f14), (0, .ref a0), (1, .int x1), (2, .int x2), (3, .int x3), (4, .int x4)]) X.1 X.2.1 dX8_grows_49 hl (by decide) rfl (fun ls hl => ?_)
        refine lv_aload_n X.1 X.2.1 dX8_grows_51 rfl (lv_at hl 1 rfl) ?_
        refine gf_X8_1n X hK hG h0 hp0 wl_2_39 dX8_grows_52 (fun ku15 => ?_)
        refine lv_ifnonnullN X.1 X.2.1 dX8_grows_55 ?_
        refine lv_iload X.1 X.2.1 dX8_grows_58 (lv_at hl 0 rfl) ?_
        refine lv_aload_n X.1 X.2.1 dX8_grows_60 rfl (lv_at hl 1 rfl) ?_
        refine gg_X8_0 X hK hG h0 wl_2_35 kq2 dX8_grows_61 ?_
        refine gf_X4_0 X hK hG hq2 wl_1_210 dX8_grows_64 (fun q16 hq16 kq16 => ?_)
        refine lv_iconst (v := 4) X.1 X.2.1 dX8_grows_67 (by decide +kernel) ?_
        refine al_21 X hK hG hq16 (iv_vpin (iv_c 4 (a := 4) (b := 4) (by decide +kernel)) (by decide +kernel)) dX8_grows_68 (fun f17 hf17 => ?_)
        have of17 := hf17
        have hf17 : iv 0 8 f17 := sg_sp_rules hf17 (iv_c 4 (a := 4) (b := 4) (by decide +kernel)) (by decide +kernel) rfl
        have B19_90 : ∀ (locs : List Loc) (ls : Array Slot), va_S (fun q : Nat => base ≤ q) s.heap s.heap locs → lv_has ls 10 [(1, .int x1)] → W p l e (headSpec (Cond.code yX8_grows cX8_grows 10 (some .boolean) :: sg_tbl) ({ frames := 3, cells := 0, slots := 0, locals := 75 })).room s m #[.ref a0, .int x1, .int x2, .int x3, .int x4] below meth c s.heap locs 0 0 (MQ below (va_Qi (fun r (_ : Unit) => (fun r : Int32 => iv 0 1 r ∧ (¬ r = 0 → iv 0 29 x1)) r) (fun _ => sgB (KT P) D vwCl base tys ad ks) (fun q : Nat => base ≤ q)) #[.ref a0, .int x1, .int x2, .int x3, .int x4] s 0 0 (fun q : Nat => base ≤ q)) (F0 m 90 ls []) := by
          intro locs ls hS hl
          refine lv_iconst (v := 0) X.1 X.2.1 dX8_grows_90 (by decide +kernel) ?_
          exact sg_zret X hr (sg_zn (iv_of (iv_c 0 (a := 0) (b := 0) (by decide +kernel)) (a' := 0) (b' := 1) (by decide +kernel))) hlk hb hK hC hG hS ⟨(iv_of (iv_c 0 (a := 0) (b := 0) (by decide +kernel)) (a' := 0) (b' := 1) (by decide +kernel)), fun h => absurd rfl h⟩ dX8_grows_91
        refine lv_icmp_lt (tgt := 90) X.1 X.2.1 dX8_grows_69 (by decide) (fun c18 => ?_) (fun c18 => ?_)
        · exact B19_90 _ _ hS (lv_sub hl [2] rfl)
        · refine lv_iload X.1 X.2.1 dX8_grows_72 (lv_at hl 0 rfl) ?_
          refine lv_aload_n X.1 X.2.1 dX8_grows_74 rfl (lv_at hl 1 rfl) ?_
          refine gg_X8_0 X hK hG h0 wl_2_35 kq2 dX8_grows_75 ?_
          refine gg_X4_0 X hK hG hq2 wl_1_210 kq16 dX8_grows_78 ?_
          refine lv_iconst (v := 5) X.1 X.2.1 dX8_grows_81 (by decide +kernel) ?_
          refine al_21 X hK hG hq16 (iv_vpin (iv_c 5 (a := 5) (b := 5) (by decide +kernel)) (by decide +kernel)) dX8_grows_82 (fun f20 hf20 => ?_)
          have of20 := hf20
          have hf20 : iv 0 8 f20 := sg_sp_rules hf20 (iv_c 5 (a := 5) (b := 5) (by decide +kernel)) (by decide +kernel) rfl
          refine lv_icmp_gt (tgt := 90) X.1 X.2.1 dX8_grows_83 (by decide) (fun c21 => ?_) (fun c21 => ?_)
          · exact B19_90 _ _ hS (lv_sub hl [2] rfl)
          · refine lv_iconst (v := 1) X.1 X.2.1 dX8_grows_86 (by decide +kernel) ?_
            refine lv_goto (tgt := 91) X.1 X.2.1 dX8_grows_87 (by decide) ?_
            exact sg_zret X hr (sg_zn (iv_of (iv_c 1 (a := 1) (b := 1) (by decide +kernel)) (a' := 0) (b' := 1) (by decide +kernel))) hlk hb hK hC hG hS ⟨(iv_of (iv_c 1 (a := 1) (b := 1) (by decide +kernel)) (a' := 0) (b' := 1) (by decide +kernel)), fun h => (iv_lt (b' := 29) (iv_gt_of c4) (iv_ler (c' := 0) (iv_ge_of c1) (iv_c 0 (a := 0) (b := 0) (by decide +kernel)) (iv_top x1) (by decide +kernel)) hf3 (by decide +kernel))⟩ dX8_grows_91
      · refine lv_iconst (v := 0) X.1 X.2.1 dX8_grows_33 (by decide +kernel) ?_
        exact sg_zret X hr (sg_zn (iv_of (iv_c 0 (a := 0) (b := 0) (by decide +kernel)) (a' := 0) (b' := 1) (by decide +kernel))) hlk hb hK hC hG hS ⟨(iv_of (iv_c 0 (a := 0) (b := 0) (by decide +kernel)) (a' := 0) (b' := 1) (by decide +kernel)), fun h => absurd rfl h⟩ dX8_grows_34

theorem ca_X8_grows_n   (X : CallFix p m c cc nL s args sg_tbl own) (hK : va_K D vwCl tys s) (hG : sgG (KT P) D vwCl (fun q : Nat => base ≤ q) tys ad ks H) (hC : sgC base s) (hS : va_S (fun q : Nat => base ≤ q) s.heap H locs) (hb : base ≤ s.heap.size) (hp0 : P.1 = false) (a0 : Nat) (h0 : isK ad ks 8 a0) (x1 : Int32) (x2 : Int32) (x3 : Int32) (x4 : Int32) (hl : Cond.methodLink own index yX8_grows ∈ sg_tbl) (hsize : ls.size = nL) (hst : st0 = [.int x1, .int x2, .int x3, .int x4].reverse ++ .ref a0 :: rest) (hW : (rest.map fun v => v.category).sum ≤ 8) (hR : 4 ≤ R.frames ∧ 104 ≤ R.locals) (hf : cells ≤ R.cells ∧ slots ≤ R.slots) (hdg : decode cc pc = .ok (.invokevirtual index, 3)) (kk : ∀ (r : Int32) (H1 : Heap) (locs1 : List Loc), (fun r : Int32 => iv 0 1 r ∧ (¬ r = 0 → iv 0 29 x1)) r → sgG (KT P) D vwCl (fun q : Nat => base ≤ q) tys ad ks H1 → va_S (fun q : Nat => base ≤ q) s.heap H1 locs1 → W p l e R s m args below meth c H1 locs1 cells slots Q (F0 m (pc + 3) ls (.int r :: rest))) : W p l e R s m args below meth c H locs cells slots Q (F0 m pc ls st0) :=
  sg_callVi X hK hG hC hS hb (m_X8_grows_n l hp0 a0 h0 x1 x2 x3 x4) h0 (k := 8) (ci := 8) rfl (C := RX8) (T := TX8) (N := 9) rfl wl_4_101 wl_1_8 wl_4_99 wl_4_100 (n := 4) (by decide +kernel) rfl rfl rfl hl hsize hst hW hR hf hdg kk

set_option maxHeartbeats 8000000 in
set_option maxRecDepth 100000 in
theorem m_X8_grows_l (l : Launch) {D : va_G} {base : Nat} {tys : List (ClassId × FieldType)} {ad ks : List Nat} {P : sgPm} (hp0 : P.1 = true) (a0 : Nat) (h0 : isK ad ks 8 a0) (x1 : Int32) (x2 : Int32) (x3 : Int32) (x4 : Int32) : sgMi l (KT P) D vwCl base tys ad ks yX8_grows cX8_grows 10 (some .boolean) ({ frames := 3, cells := 0, slots := 0, locals := 75 }) [.ref a0, .int x1, .int x2, .int x3, .int x4] (fun r : Int32 => iv 0 1 r ∧ (¬ r = 0 → iv 0 29 x1)) := by
  refine sg_ofW (by decide +kernel) (Nat.le_of_ble_eq_true rfl) (fun p e s m below meth c X hr hlk hb hK hC hG ls hl => ?_)
  have hS : va_S (fun q : Nat => base ≤ q) s.heap s.heap [] := va_S.rf
  have hl : lv_has ls 10 [(0, .ref a0), (1, .int x1), (2, .int x2), (3, .int x3), (4, .int x4)] := hl
  refine lv_iload_n X.1 X.2.1 dX8_grows_0 rfl (lv_at hl 1 rfl) ?_
  refine lv_if_lt (tgt := 33) X.1 X.2.1 dX8_grows_1 (by decide) (fun c1 => ?_) (fun c1 => ?_)
  · refine lv_iconst (v := 0) X.1 X.2.1 dX8_grows_33 (by decide +kernel) ?_
    exact sg_zret X hr (sg_zn (iv_of (iv_c 0 (a := 0) (b := 0) (by decide +kernel)) (a' := 0) (b' := 1) (by decide +kernel))) hlk hb hK hC hG hS ⟨(iv_of (iv_c 0 (a := 0) (b := 0) (by decide +kernel)) (a' := 0) (b' := 1) (by decide +kernel)), fun h => absurd rfl h⟩ dX8_grows_34
  · refine lv_iload_n X.1 X.2.1 dX8_grows_4 rfl (lv_at hl 1 rfl) ?_
    refine lv_aload_n X.1 X.2.1 dX8_grows_5 rfl (lv_at hl 0 rfl) ?_
    refine gf_X8_0 X hK hG h0 wl_2_35 dX8_grows_6 (fun q2 hq2 kq2 => ?_)
    refine gf_X4_5 X hK hG hq2 wl_1_218 dX8_grows_9 (fun f3 hf3 kf3 => ?_)
    refine lv_icmp_ge (tgt := 33) X.1 X.2.1 dX8_grows_12 (by decide) (fun c4 => ?_) (fun c4 => ?_)
    · refine lv_iconst (v := 0) X.1 X.2.1 dX8_grows_33 (by decide +kernel) ?_
      exact sg_zret X hr (sg_zn (iv_of (iv_c 0 (a := 0) (b := 0) (by decide +kernel)) (a' := 0) (b' := 1) (by decide +kernel))) hlk hb hK hC hG hS ⟨(iv_of (iv_c 0 (a := 0) (b := 0) (by decide +kernel)) (a' := 0) (b' := 1) (by decide +kernel)), fun h => absurd rfl h⟩ dX8_grows_34
    · refine lv_iload_n X.1 X.2.1 dX8_grows_15 rfl (lv_at hl 2 rfl) ?_
      refine lv_iload_n X.1 X.2.1 dX8_grows_16 rfl (lv_at hl 3 rfl) ?_
      refine lv_ior X.1 X.2.1 dX8_grows_17 ?_
      refine lv_topi (fun f5 ef5 => ?_)
      refine lv_aload_n X.1 X.2.1 dX8_grows_18 rfl (lv_at hl 0 rfl) ?_
      refine gg_X8_0 X hK hG h0 wl_2_35 kq2 dX8_grows_19 ?_
      refine gf_X4_10 X hK hG hq2 wl_1_231 dX8_grows_22 (fun f6 hf6 kf6 => ?_)
      refine lv_ior X.1 X.2.1 dX8_grows_25 ?_
      refine lv_topi (fun f7 ef7 => ?_)
      refine lv_iload_n X.1 X.2.1 dX8_grows_26 rfl (lv_at hl 1 rfl) ?_
      refine lv_ishr X.1 X.2.1 dX8_grows_27 ?_
      refine lv_topi (fun f8 ef8 => ?_)
      refine lv_iconst (v := 1) X.1 X.2.1 dX8_grows_28 (by decide +kernel) ?_
      refine lv_iand X.1 X.2.1 dX8_grows_29 ?_
      refine lv_topi (fun f9 ef9 => ?_)
      refine lv_if_eq (tgt := 35) X.1 X.2.1 dX8_grows_30 (by decide) (fun c10 => ?_) (fun c10 => ?_)
      · refine lv_aload_n X.1 X.2.1 dX8_grows_35 rfl (lv_at hl 0 rfl) ?_
        refine gg_X8_0 X hK hG h0 wl_2_35 kq2 dX8_grows_36 ?_
        refine gf_X4_1 X hK hG hq2 wl_1_213 dX8_grows_39 (fun q11 hq11 kq11 => ?_)
        refine lv_iload_n X.1 X.2.1 dX8_grows_42 rfl (lv_at hl 1 rfl) ?_
        refine al_22 X hK hG hq11 (iv_vpin (iv_lt (b' := 29) (iv_gt_of c4) (iv_ler (c' := 0) (iv_ge_of c1) (iv_c 0 (a := 0) (b := 0) (by decide +kernel)) (iv_top x1) (by decide +kernel)) hf3 (by decide +kernel)) (by decide +kernel)) dX8_grows_43 (fun f12 hf12 => ?_)
        refine lv_iload_n X.1 X.2.1 dX8_grows_44 rfl (lv_at hl 2 rfl) ?_
        refine lv_iand X.1 X.2.1 dX8_grows_45 ?_
        refine lv_topi (fun f13 ef13 => ?_)
        refine ca_J6_bitCount_0f7a4 X hK hG hC (fun _ h => h) hS hb f13 wl_4_102 hl.1 (rest := []) rfl (Nat.le_of_ble_eq_true rfl) ⟨Nat.le_of_ble_eq_true rfl, Nat.le_of_ble_eq_true rfl⟩ ⟨Nat.le_of_ble_eq_true rfl, Nat.le_of_ble_eq_true rfl⟩ dX8_grows_46 (fun f14 locs hf14 hS => ?_)
        refine lv_istore (lv' := [(5, .int f14), (0, .ref a0), (1, .int x1), (2, .int x2), (3, .int x3), (4, .int x4)]) X.1 X.2.1 dX8_grows_49 hl (by decide) rfl (fun ls hl => ?_)
        refine lv_aload_n X.1 X.2.1 dX8_grows_51 rfl (lv_at hl 1 rfl) ?_
        refine gf_X8_1s X hK hG h0 hp0 wl_2_39 dX8_grows_52 (fun q15 hq15 kq15 => ?_)
        refine lv_ifnonnull (tgt := 92) X.1 X.2.1 dX8_grows_55 (by decide) ?_
        refine lv_aload_n X.1 X.2.1 dX8_grows_92 rfl (lv_at hl 1 rfl) ?_
        refine gg_X8_1 X hK hG h0 wl_2_39 kq15 dX8_grows_93 ?_
        refine gf_X6_6 X hK hG hq15 wl_1_73 dX8_grows_96 (fun f16 hf16 kf16 => ?_)
        have B18_110 : ∀ (locs : List Loc) (ls : Array Slot) (w18_0 : Int32), va_S (fun q : Nat => base ≤ q) s.heap s.heap locs → lv_has ls 10 [(0, .ref a0), (1, .int x1), (2, .int x2), (4, .int x4), (5, .int f14)] → iv 0 3 w18_0 → W p l e (headSpec (Cond.code yX8_grows cX8_grows 10 (some .boolean) :: sg_tbl) ({ frames := 3, cells := 0, slots := 0, locals := 75 })).room s m #[.ref a0, .int x1, .int x2, .int x3, .int x4] below meth c s.heap locs 0 0 (MQ below (va_Qi (fun r (_ : Unit) => (fun r : Int32 => iv 0 1 r ∧ (¬ r = 0 → iv 0 29 x1)) r) (fun _ => sgB (KT P) D vwCl base tys ad ks) (fun q : Nat => base ≤ q)) #[.ref a0, .int x1, .int x2, .int x3, .int x4] s 0 0 (fun q : Nat => base ≤ q)) (F0 m 110 ls [.int w18_0]) := by
          intro locs ls w18_0 hS hl hw18_0
          refine lv_istore (lv' := [(6, .int w18_0), (0, .ref a0), (1, .int x1), (2, .int x2), (4, .int x4), (5, .int f14)]) X.1 X.2.1 dX8_grows_110 hl (by decide) rfl (fun ls hl => ?_)
          refine lv_aload_n X.1 X.2.1 dX8_grows_112 rfl (lv_at hl 1 rfl) ?_
          refine gg_X8_1 X hK hG h0 wl_2_39 kq15 dX8_grows_113 ?_
          refine gg_X6_6 X hK hG hq15 wl_1_73 kf16 dX8_grows_116 ?_
          have B20_142 : ∀ (H : Heap) (locs : List Loc) (ls : Array Slot), sgG (KT P) D vwCl (fun q : Nat => base ≤ q) tys ad ks H → va_S (fun q : Nat => base ≤ q) s.heap H locs → lv_has ls 10 [(0, .ref a0), (1, .int x1), (2, .int x2), (4, .int x4), (5, .int f14), (6, .int w18_0)] → W p l e (headSpec (Cond.code yX8_grows cX8_grows 10 (some .boolean) :: sg_tbl) ({ frames := 3, cells := 0, slots := 0, locals := 75 })).room s m #[.ref a0, .int x1, .int x2, .int x3, .int x4] below meth c H locs 0 0 (MQ below (va_Qi (fun r (_ : Unit) => (fun r : Int32 => iv 0 1 r ∧ (¬ r = 0 → iv 0 29 x1)) r) (fun _ => sgB (KT P) D vwCl base tys ad ks) (fun q : Nat => base ≤ q)) #[.ref a0, .int x1, .int x2, .int x3, .int x4] s 0 0 (fun q : Nat => base ≤ q)) (F0 m 142 ls []) := by
            intro H locs ls hG hS hl
            refine lv_iload_n X.1 X.2.1 dX8_grows_142 rfl (lv_at hl 2 rfl) ?_
            refine ca_J6_bitCount_0f7a4 X hK hG hC (fun _ h => h) hS hb x2 wl_4_102 hl.1 (rest := []) rfl (Nat.le_of_ble_eq_true rfl) ⟨Nat.le_of_ble_eq_true rfl, Nat.le_of_ble_eq_true rfl⟩ ⟨Nat.le_of_ble_eq_true rfl, Nat.le_of_ble_eq_true rfl⟩ dX8_grows_143 (fun f21 locs hf21 hS => ?_)
            refine lv_istore (lv' := [(7, .int f21), (0, .ref a0), (1, .int x1), (2, .int x2), (4, .int x4), (5, .int f14), (6, .int w18_0)]) X.1 X.2.1 dX8_grows_146 hl (by decide) rfl (fun ls hl => ?_)
            refine lv_iload X.1 X.2.1 dX8_grows_148 (lv_at hl 6 rfl) ?_
            refine lv_sipush (v := 279) X.1 X.2.1 dX8_grows_150 (by decide +kernel) ?_
            refine lv_imul X.1 X.2.1 dX8_grows_153 ?_
            refine lv_topi (fun f22 ef22 => ?_)
            refine lv_iload X.1 X.2.1 dX8_grows_154 (lv_at hl 5 rfl) ?_
            refine lv_bipush (v := 31) X.1 X.2.1 dX8_grows_156 (by decide +kernel) ?_
            refine lv_imul X.1 X.2.1 dX8_grows_158 ?_
            refine lv_topi (fun f23 ef23 => ?_)
            refine lv_iadd X.1 X.2.1 dX8_grows_159 ?_
            refine lv_topi (fun f24 ef24 => ?_)
            refine lv_iload X.1 X.2.1 dX8_grows_160 (lv_at hl 0 rfl) ?_
            refine lv_iadd X.1 X.2.1 dX8_grows_162 ?_
            refine lv_topi (fun f25 ef25 => ?_)
            refine lv_istore (lv' := [(8, .int f25), (7, .int f21), (0, .ref a0), (1, .int x1), (2, .int x2), (4, .int x4), (5, .int f14), (6, .int w18_0)]) X.1 X.2.1 dX8_grows_163 hl (by decide) rfl (fun ls hl => ?_)
            refine lv_iload X.1 X.2.1 dX8_grows_165 (lv_at hl 0 rfl) ?_
            refine lv_aload_n X.1 X.2.1 dX8_grows_167 rfl (lv_at hl 2 rfl) ?_
            refine gf_X8_3 X hK hG h0 wl_2_41 dX8_grows_168 (fun q26 hq26 kq26 => ?_)
            refine sg_alen X hK hG hq26 (k := 37) rfl (v := 1116) rfl dX8_grows_171 ?_
            refine lv_icmp_lt (tgt := 177) X.1 X.2.1 dX8_grows_172 (by decide) (fun c27 => ?_) (fun c27 => ?_)
            · refine lv_iconst (v := 1) X.1 X.2.1 dX8_grows_177 (by decide +kernel) ?_
              refine lv_iload_n X.1 X.2.1 dX8_grows_178 rfl (lv_at hl 3 rfl) ?_
              refine lv_ishl X.1 X.2.1 dX8_grows_179 ?_
              refine lv_topi (fun f28 ef28 => ?_)
              refine lv_istore (lv' := [(9, .int f28), (8, .int f25), (7, .int f21), (0, .ref a0), (1, .int x1), (2, .int x2), (4, .int x4), (5, .int f14), (6, .int w18_0)]) X.1 X.2.1 dX8_grows_180 hl (by decide) rfl (fun ls hl => ?_)
              refine lv_aload_n X.1 X.2.1 dX8_grows_182 rfl (lv_at hl 3 rfl) ?_
              refine gg_X8_3 X hK hG h0 wl_2_41 kq26 dX8_grows_183 ?_
              refine lv_iload X.1 X.2.1 dX8_grows_186 (lv_at hl 1 rfl) ?_
              refine al_37 X hK hG hq26 (iv_vpin (iv_lt (b' := 1115) c27 (iv_add (a' := 0) (b' := 2853) ef25 (iv_add (a' := 0) (b' := 2790) ef24 (iv_mul (a' := 0) (b' := 837) ef22 hw18_0 (iv_c 279 (a := 279) (b := 279) (by decide +kernel)) (by decide +kernel)) (iv_mul (a' := 0) (b' := 1953) ef23 hf14 (iv_c 31 (a := 31) (b := 31) (by decide +kernel)) (by decide +kernel)) (by decide +kernel)) hf21 (by decide +kernel)) (iv_c 1116 (a := 1116) (b := 1116) (by decide +kernel)) (by decide +kernel)) (by decide +kernel)) dX8_grows_188 (fun f29 hf29 => ?_)
              refine lv_iload X.1 X.2.1 dX8_grows_189 (lv_at hl 0 rfl) ?_
              refine lv_iand X.1 X.2.1 dX8_grows_191 ?_
              refine lv_topi (fun f30 ef30 => ?_)
              have B32_244 : ∀ (H : Heap) (locs : List Loc) (ls : Array Slot), sgG (KT P) D vwCl (fun q : Nat => base ≤ q) tys ad ks H → va_S (fun q : Nat => base ≤ q) s.heap H locs → lv_has ls 10 [(0, .ref a0), (1, .int x1), (8, .int f25), (9, .int f28)] → W p l e (headSpec (Cond.code yX8_grows cX8_grows 10 (some .boolean) :: sg_tbl) ({ frames := 3, cells := 0, slots := 0, locals := 75 })).room s m #[.ref a0, .int x1, .int x2, .int x3, .int x4] below meth c H locs 0 0 (MQ below (va_Qi (fun r (_ : Unit) => (fun r : Int32 => iv 0 1 r ∧ (¬ r = 0 → iv 0 29 x1)) r) (fun _ => sgB (KT P) D vwCl base tys ad ks) (fun q : Nat => base ≤ q)) #[.ref a0, .int x1, .int x2, .int x3, .int x4] s 0 0 (fun q : Nat => base ≤ q)) (F0 m 244 ls []) := by
                intro H locs ls hG hS hl
                refine lv_aload_n X.1 X.2.1 dX8_grows_244 rfl (lv_at hl 0 rfl) ?_
                refine gf_X8_4 X hK hG h0 wl_2_42 dX8_grows_245 (fun q33 hq33 kq33 => ?_)
                refine lv_iload X.1 X.2.1 dX8_grows_248 (lv_at hl 2 rfl) ?_
                refine al_38 X hK hG hq33 (iv_vpin (iv_lt (b' := 1115) c27 (iv_add (a' := 0) (b' := 2853) ef25 (iv_add (a' := 0) (b' := 2790) ef24 (iv_mul (a' := 0) (b' := 837) ef22 hw18_0 (iv_c 279 (a := 279) (b := 279) (by decide +kernel)) (by decide +kernel)) (iv_mul (a' := 0) (b' := 1953) ef23 hf14 (iv_c 31 (a := 31) (b := 31) (by decide +kernel)) (by decide +kernel)) (by decide +kernel)) hf21 (by decide +kernel)) (iv_c 1116 (a := 1116) (b := 1116) (by decide +kernel)) (by decide +kernel)) (by decide +kernel)) dX8_grows_250 (fun f34 hf34 => ?_)
                refine lv_iload X.1 X.2.1 dX8_grows_251 (lv_at hl 3 rfl) ?_
                refine lv_iand X.1 X.2.1 dX8_grows_253 ?_
                refine lv_topi (fun f35 ef35 => ?_)
                refine lv_if_eq (tgt := 261) X.1 X.2.1 dX8_grows_254 (by decide) (fun c36 => ?_) (fun c36 => ?_)
                · refine lv_iconst (v := 0) X.1 X.2.1 dX8_grows_261 (by decide +kernel) ?_
                  exact sg_zret X hr (sg_zn (iv_of (iv_c 0 (a := 0) (b := 0) (by decide +kernel)) (a' := 0) (b' := 1) (by decide +kernel))) hlk hb hK hC hG hS ⟨(iv_of (iv_c 0 (a := 0) (b := 0) (by decide +kernel)) (a' := 0) (b' := 1) (by decide +kernel)), fun h => absurd rfl h⟩ dX8_grows_262
                · refine lv_iconst (v := 1) X.1 X.2.1 dX8_grows_257 (by decide +kernel) ?_
                  refine lv_goto (tgt := 262) X.1 X.2.1 dX8_grows_258 (by decide) ?_
                  exact sg_zret X hr (sg_zn (iv_of (iv_c 1 (a := 1) (b := 1) (by decide +kernel)) (a' := 0) (b' := 1) (by decide +kernel))) hlk hb hK hC hG hS ⟨(iv_of (iv_c 1 (a := 1) (b := 1) (by decide +kernel)) (a' := 0) (b' := 1) (by decide +kernel)), fun h => (iv_lt (b' := 29) (iv_gt_of c4) (iv_ler (c' := 0) (iv_ge_of c1) (iv_c 0 (a := 0) (b := 0) (by decide +kernel)) (iv_top x1) (by decide +kernel)) hf3 (by decide +kernel))⟩ dX8_grows_262
              refine lv_if_ne (tgt := 244) X.1 X.2.1 dX8_grows_192 (by decide) (fun c31 => ?_) (fun c31 => ?_)
              · exact B32_244 H _ _ hG hS (lv_sub hl [3, 4, 1, 0] rfl)
              · refine lv_aload_n X.1 X.2.1 dX8_grows_195 rfl (lv_at hl 3 rfl) ?_
                refine gg_X8_3 X hK hG h0 wl_2_41 kq26 dX8_grows_196 ?_
                refine lv_iload X.1 X.2.1 dX8_grows_199 (lv_at hl 1 rfl) ?_
                refine lv_dup2_11 X.1 X.2.1 dX8_grows_201 rfl rfl ?_
                refine al_37 X hK hG hq26 (iv_vpin (iv_lt (b' := 1115) c27 (iv_add (a' := 0) (b' := 2853) ef25 (iv_add (a' := 0) (b' := 2790) ef24 (iv_mul (a' := 0) (b' := 837) ef22 hw18_0 (iv_c 279 (a := 279) (b := 279) (by decide +kernel)) (by decide +kernel)) (iv_mul (a' := 0) (b' := 1953) ef23 hf14 (iv_c 31 (a := 31) (b := 31) (by decide +kernel)) (by decide +kernel)) (by decide +kernel)) hf21 (by decide +kernel)) (iv_c 1116 (a := 1116) (b := 1116) (by decide +kernel)) (by decide +kernel)) (by decide +kernel)) dX8_grows_202 (fun f37 hf37 => ?_)
                refine lv_iload X.1 X.2.1 dX8_grows_203 (lv_at hl 0 rfl) ?_
                refine lv_ior X.1 X.2.1 dX8_grows_205 ?_
                refine lv_topi (fun f38 ef38 => ?_)
                refine as_37 X hK hG hS hq26 (iv_vpin (iv_lt (b' := 1115) c27 (iv_add (a' := 0) (b' := 2853) ef25 (iv_add (a' := 0) (b' := 2790) ef24 (iv_mul (a' := 0) (b' := 837) ef22 hw18_0 (iv_c 279 (a := 279) (b := 279) (by decide +kernel)) (by decide +kernel)) (iv_mul (a' := 0) (b' := 1953) ef23 hf14 (iv_c 31 (a := 31) (b := 31) (by decide +kernel)) (by decide +kernel)) (by decide +kernel)) hf21 (by decide +kernel)) (iv_c 1116 (a := 1116) (b := 1116) (by decide +kernel)) (by decide +kernel)) (by decide +kernel)) ⟨_, rfl, (iv_top _)⟩ dX8_grows_206 (fun H locs hG hS ru39 => ?_)
                refine lv_aload_n X.1 X.2.1 dX8_grows_207 rfl (lv_at hl 3 rfl) ?_
                refine lv_iload_n X.1 X.2.1 dX8_grows_208 rfl (lv_at hl 4 rfl) ?_
                refine lv_iload X.1 X.2.1 dX8_grows_209 (lv_at hl 7 rfl) ?_
                refine lv_iload X.1 X.2.1 dX8_grows_211 (lv_at hl 6 rfl) ?_
                refine lv_iload X.1 X.2.1 dX8_grows_213 (lv_at hl 2 rfl) ?_
                refine ca_X8_setLetters X hK hG hC hS hb a0 h0 x1 f14 x4 f21 wl_4_112 hl.1 (rest := []) rfl (Nat.le_of_ble_eq_true rfl) ⟨Nat.le_of_ble_eq_true rfl, Nat.le_of_ble_eq_true rfl⟩ ⟨Nat.le_of_ble_eq_true rfl, Nat.le_of_ble_eq_true rfl⟩ dX8_grows_215 (fun H locs hG hS => ?_)
                refine lv_aload_n X.1 X.2.1 dX8_grows_218 rfl (lv_at hl 3 rfl) ?_
                refine gf_X8_1s X hK hG h0 hp0 wl_2_39 dX8_grows_219 (fun q41 hq41 kq41 => ?_)
                refine lv_aload_n X.1 X.2.1 dX8_grows_222 rfl (lv_at hl 3 rfl) ?_
                refine gf_X8_5 X hK hG h0 wl_2_43 dX8_grows_223 (fun q42 hq42 kq42 => ?_)
                refine ca_X6_worth X hK hG hC hS hb q41 hq41 q42 hq42 wl_4_126 hl.1 (rest := []) rfl (Nat.le_of_ble_eq_true rfl) ⟨Nat.le_of_ble_eq_true rfl, Nat.le_of_ble_eq_true rfl⟩ ⟨Nat.le_of_ble_eq_true rfl, Nat.le_of_ble_eq_true rfl⟩ dX8_grows_226 (fun f43 H locs hf43 hG hS => ?_)
                refine lv_if_le (tgt := 244) X.1 X.2.1 dX8_grows_229 (by decide) (fun c44 => ?_) (fun c44 => ?_)
                · exact B32_244 H _ _ hG hS (lv_sub hl [3, 4, 1, 0] rfl)
                · refine lv_aload_n X.1 X.2.1 dX8_grows_232 rfl (lv_at hl 3 rfl) ?_
                  refine gf_X8_4 X hK hG h0 wl_2_42 dX8_grows_233 (fun q45 hq45 kq45 => ?_)
                  refine lv_iload X.1 X.2.1 dX8_grows_236 (lv_at hl 1 rfl) ?_
                  refine lv_dup2_11 X.1 X.2.1 dX8_grows_238 rfl rfl ?_
                  refine al_38 X hK hG hq45 (iv_vpin (iv_lt (b' := 1115) c27 (iv_add (a' := 0) (b' := 2853) ef25 (iv_add (a' := 0) (b' := 2790) ef24 (iv_mul (a' := 0) (b' := 837) ef22 hw18_0 (iv_c 279 (a := 279) (b := 279) (by decide +kernel)) (by decide +kernel)) (iv_mul (a' := 0) (b' := 1953) ef23 hf14 (iv_c 31 (a := 31) (b := 31) (by decide +kernel)) (by decide +kernel)) (by decide +kernel)) hf21 (by decide +kernel)) (iv_c 1116 (a := 1116) (b := 1116) (by decide +kernel)) (by decide +kernel)) (by decide +kernel)) dX8_grows_239 (fun f46 hf46 => ?_)
                  refine lv_iload X.1 X.2.1 dX8_grows_240 (lv_at hl 0 rfl) ?_
                  refine lv_ior X.1 X.2.1 dX8_grows_242 ?_
                  refine lv_topi (fun f47 ef47 => ?_)
                  refine as_38 X hK hG hS hq45 (iv_vpin (iv_lt (b' := 1115) c27 (iv_add (a' := 0) (b' := 2853) ef25 (iv_add (a' := 0) (b' := 2790) ef24 (iv_mul (a' := 0) (b' := 837) ef22 hw18_0 (iv_c 279 (a := 279) (b := 279) (by decide +kernel)) (by decide +kernel)) (iv_mul (a' := 0) (b' := 1953) ef23 hf14 (iv_c 31 (a := 31) (b := 31) (by decide +kernel)) (by decide +kernel)) (by decide +kernel)) hf21 (by decide +kernel)) (iv_c 1116 (a := 1116) (b := 1116) (by decide +kernel)) (by decide +kernel)) (by decide +kernel)) ⟨_, rfl, (iv_top _)⟩ dX8_grows_243 (fun H locs hG hS ru48 => ?_)
                  exact B32_244 H _ _ hG hS (lv_sub hl [3, 4, 1, 0] rfl)
            · refine lv_iconst (v := 0) X.1 X.2.1 dX8_grows_175 (by decide +kernel) ?_
              exact sg_zret X hr (sg_zn (iv_of (iv_c 0 (a := 0) (b := 0) (by decide +kernel)) (a' := 0) (b' := 1) (by decide +kernel))) hlk hb hK hC hG hS ⟨(iv_of (iv_c 0 (a := 0) (b := 0) (by decide +kernel)) (a' := 0) (b' := 1) (by decide +kernel)), fun h => absurd rfl h⟩ dX8_grows_176
          refine lv_if_eq (tgt := 142) X.1 X.2.1 dX8_grows_119 (by decide) (fun c19 => ?_) (fun c19 => ?_)
          · exact B20_142 s.heap _ _ hG hS (lv_sub hl [1, 2, 3, 4, 5, 0] rfl)
          · refine lv_iload X.1 X.2.1 dX8_grows_122 (lv_at hl 4 rfl) ?_
            refine lv_aload_n X.1 X.2.1 dX8_grows_124 rfl (lv_at hl 1 rfl) ?_
            refine gf_X8_2 X hK hG h0 wl_2_40 dX8_grows_125 (fun q49 hq49 kq49 => ?_)
            refine lv_iload X.1 X.2.1 dX8_grows_128 (lv_at hl 0 rfl) ?_
            refine al_36 X hK hG hq49 (iv_vpin hw18_0 (by decide +kernel)) dX8_grows_130 (fun f50 hf50 => ?_)
            refine lv_icmp_eq (tgt := 142) X.1 X.2.1 dX8_grows_131 (by decide) (fun c51 => ?_) (fun c51 => ?_)
            · exact B20_142 s.heap _ _ hG hS (lv_sub hl [1, 2, 3, 4, 5, 0] rfl)
            · refine lv_aload_n X.1 X.2.1 dX8_grows_134 rfl (lv_at hl 1 rfl) ?_
              refine lv_iload X.1 X.2.1 dX8_grows_135 (lv_at hl 0 rfl) ?_
              refine lv_iload X.1 X.2.1 dX8_grows_137 (lv_at hl 4 rfl) ?_
              refine ca_X8_turnTo X hK hG hC hS hb a0 h0 w18_0 hw18_0 x4 wl_4_108 hl.1 (rest := []) rfl (Nat.le_of_ble_eq_true rfl) ⟨Nat.le_of_ble_eq_true rfl, Nat.le_of_ble_eq_true rfl⟩ ⟨Nat.le_of_ble_eq_true rfl, Nat.le_of_ble_eq_true rfl⟩ dX8_grows_139 (fun H locs hG hS => ?_)
              exact B20_142 H _ _ hG hS (lv_sub hl [1, 2, 3, 4, 5, 0] rfl)
        refine lv_if_eq (tgt := 109) X.1 X.2.1 dX8_grows_99 (by decide) (fun c17 => ?_) (fun c17 => ?_)
        · refine lv_iconst (v := 0) X.1 X.2.1 dX8_grows_109 (by decide +kernel) ?_
          exact B18_110 _ _ 0 hS (lv_sub hl [1, 2, 3, 5, 0] rfl) (iv_of (iv_c 0 (a := 0) (b := 0) (by decide +kernel)) (a' := 0) (b' := 3) (by decide +kernel))
        · refine lv_iload X.1 X.2.1 dX8_grows_102 (lv_at hl 5 rfl) ?_
          refine lv_iconst (v := 3) X.1 X.2.1 dX8_grows_104 (by decide +kernel) ?_
          refine lv_iand X.1 X.2.1 dX8_grows_105 ?_
          refine lv_topi (fun f53 ef53 => ?_)
          refine lv_goto (tgt := 110) X.1 X.2.1 dX8_grows_106 (by decide) ?_
          exact B18_110 _ _ f53 hS (lv_sub hl [1, 2, 3, 5, 0] rfl) (iv_and (b' := 3) ef53 (iv_c 3 (a := 3) (b := 3) (by decide +kernel)) (by decide +kernel))
      · refine lv_iconst (v := 0) X.1 X.2.1 dX8_grows_33 (by decide +kernel) ?_
        exact sg_zret X hr (sg_zn (iv_of (iv_c 0 (a := 0) (b := 0) (by decide +kernel)) (a' := 0) (b' := 1) (by decide +kernel))) hlk hb hK hC hG hS ⟨(iv_of (iv_c 0 (a := 0) (b := 0) (by decide +kernel)) (a' := 0) (b' := 1) (by decide +kernel)), fun h => absurd rfl h⟩ dX8_grows_34

theorem ca_X8_grows_l   (X : CallFix p m c cc nL s args sg_tbl own) (hK : va_K D vwCl tys s) (hG : sgG (KT P) D vwCl (fun q : Nat => base ≤ q) tys ad ks H) (hC : sgC base s) (hS : va_S (fun q : Nat => base ≤ q) s.heap H locs) (hb : base ≤ s.heap.size) (hp0 : P.1 = true) (a0 : Nat) (h0 : isK ad ks 8 a0) (x1 : Int32) (x2 : Int32) (x3 : Int32) (x4 : Int32) (hl : Cond.methodLink own index yX8_grows ∈ sg_tbl) (hsize : ls.size = nL) (hst : st0 = [.int x1, .int x2, .int x3, .int x4].reverse ++ .ref a0 :: rest) (hW : (rest.map fun v => v.category).sum ≤ 8) (hR : 4 ≤ R.frames ∧ 104 ≤ R.locals) (hf : cells ≤ R.cells ∧ slots ≤ R.slots) (hdg : decode cc pc = .ok (.invokevirtual index, 3)) (kk : ∀ (r : Int32) (H1 : Heap) (locs1 : List Loc), (fun r : Int32 => iv 0 1 r ∧ (¬ r = 0 → iv 0 29 x1)) r → sgG (KT P) D vwCl (fun q : Nat => base ≤ q) tys ad ks H1 → va_S (fun q : Nat => base ≤ q) s.heap H1 locs1 → W p l e R s m args below meth c H1 locs1 cells slots Q (F0 m (pc + 3) ls (.int r :: rest))) : W p l e R s m args below meth c H locs cells slots Q (F0 m pc ls st0) :=
  sg_callVi X hK hG hC hS hb (m_X8_grows_l l hp0 a0 h0 x1 x2 x3 x4) h0 (k := 8) (ci := 8) rfl (C := RX8) (T := TX8) (N := 9) rfl wl_4_101 wl_1_8 wl_4_99 wl_4_100 (n := 4) (by decide +kernel) rfl rfl rfl hl hsize hst hW hR hf hdg kk

theorem m_X8_grows (l : Launch) {D : va_G} {base : Nat} {tys : List (ClassId × FieldType)} {ad ks : List Nat} {P : sgPm} (a0 : Nat) (h0 : isK ad ks 8 a0) (x1 : Int32) (x2 : Int32) (x3 : Int32) (x4 : Int32) : sgMi l (KT P) D vwCl base tys ad ks yX8_grows cX8_grows 10 (some .boolean) ({ frames := 3, cells := 0, slots := 0, locals := 75 }) [.ref a0, .int x1, .int x2, .int x3, .int x4] (fun r : Int32 => iv 0 1 r ∧ (¬ r = 0 → iv 0 29 x1)) := by
  cases hp : P.1 with
  | false => exact m_X8_grows_n l hp a0 h0 x1 x2 x3 x4
  | true => exact m_X8_grows_l l hp a0 h0 x1 x2 x3 x4

theorem ca_X8_grows   (X : CallFix p m c cc nL s args sg_tbl own) (hK : va_K D vwCl tys s) (hG : sgG (KT P) D vwCl (fun q : Nat => base ≤ q) tys ad ks H) (hC : sgC base s) (hS : va_S (fun q : Nat => base ≤ q) s.heap H locs) (hb : base ≤ s.heap.size) (a0 : Nat) (h0 : isK ad ks 8 a0) (x1 : Int32) (x2 : Int32) (x3 : Int32) (x4 : Int32) (hl : Cond.methodLink own index yX8_grows ∈ sg_tbl) (hsize : ls.size = nL) (hst : st0 = [.int x1, .int x2, .int x3, .int x4].reverse ++ .ref a0 :: rest) (hW : (rest.map fun v => v.category).sum ≤ 8) (hR : 4 ≤ R.frames ∧ 104 ≤ R.locals) (hf : cells ≤ R.cells ∧ slots ≤ R.slots) (hdg : decode cc pc = .ok (.invokevirtual index, 3)) (kk : ∀ (r : Int32) (H1 : Heap) (locs1 : List Loc), (fun r : Int32 => iv 0 1 r ∧ (¬ r = 0 → iv 0 29 x1)) r → sgG (KT P) D vwCl (fun q : Nat => base ≤ q) tys ad ks H1 → va_S (fun q : Nat => base ≤ q) s.heap H1 locs1 → W p l e R s m args below meth c H1 locs1 cells slots Q (F0 m (pc + 3) ls (.int r :: rest))) : W p l e R s m args below meth c H locs cells slots Q (F0 m pc ls st0) :=
  sg_callVi X hK hG hC hS hb (m_X8_grows l a0 h0 x1 x2 x3 x4) h0 (k := 8) (ci := 8) rfl (C := RX8) (T := TX8) (N := 9) rfl wl_4_101 wl_1_8 wl_4_99 wl_4_100 (n := 4) (by decide +kernel) rfl rfl rfl hl hsize hst hW hR hf hdg kk

set_option maxHeartbeats 8000000 in
set_option maxRecDepth 100000 in
theorem m_X8_growing (l : Launch) {D : va_G} {base : Nat} {tys : List (ClassId × FieldType)} {ad ks : List Nat} {P : sgPm} (a0 : Nat) (h0 : isK ad ks 8 a0) (x1 : Int32) (x2 : Int32) (x3 : Int32) : sgMi l (KT P) D vwCl base tys ad ks yX8_growing cX8_growing 6 (some .int) ({ frames := 4, cells := 0, slots := 0, locals := 104 }) [.ref a0, .int x1, .int x2, .int x3] (fun r : Int32 => True) := by
  refine sg_ofW (by decide +kernel) (Nat.le_of_ble_eq_true rfl) (fun p e s m below meth c X hr hlk hb hK hC hG ls hl => ?_)
  have hS : va_S (fun q : Nat => base ≤ q) s.heap s.heap [] := va_S.rf
  have hl : lv_has ls 6 [(0, .ref a0), (1, .int x1), (2, .int x2), (3, .int x3)] := hl
  refine lv_iconst (v := 0) X.1 X.2.1 dX8_growing_0 (by decide +kernel) ?_
  refine lv_istore (lv' := [(4, .int 0), (0, .ref a0), (1, .int x1), (2, .int x2), (3, .int x3)]) X.1 X.2.1 dX8_growing_1 hl (by decide) rfl (fun ls hl => ?_)
  refine lv_iconst (v := 0) X.1 X.2.1 dX8_growing_3 (by decide +kernel) ?_
  refine lv_istore (lv' := [(5, .int 0), (4, .int 0), (0, .ref a0), (1, .int x1), (2, .int x2), (3, .int x3)]) X.1 X.2.1 dX8_growing_4 hl (by decide) rfl (fun ls hl => ?_)
  have B1_6 : ∀ (N : Nat) (H : Heap) (locs : List Loc) (ls : Array Slot) (z1_4 : Int32) (z1_5 : Int32), sgG (KT P) D vwCl (fun q : Nat => base ≤ q) tys ad ks H → va_S (fun q : Nat => base ≤ q) s.heap H locs → lv_has ls 6 [(0, .ref a0), (1, .int x1), (2, .int x2), (3, .int x3), (4, .int z1_4), (5, .int z1_5)] → iv 0 1073741823 z1_4 → iv 0 30 z1_5 → (31 - z1_5.toInt).toNat ≤ N → W p l e (headSpec (Cond.code yX8_growing cX8_growing 6 (some .int) :: sg_tbl) ({ frames := 4, cells := 0, slots := 0, locals := 104 })).room s m #[.ref a0, .int x1, .int x2, .int x3] below meth c H locs 0 0 (MQ below (va_Qi (fun r (_ : Unit) => (fun r : Int32 => True) r) (fun _ => sgB (KT P) D vwCl base tys ad ks) (fun q : Nat => base ≤ q)) #[.ref a0, .int x1, .int x2, .int x3] s 0 0 (fun q : Nat => base ≤ q)) (F0 m 6 ls []) := by
    intro N; induction N with
    | zero =>
      intro H locs ls z1_4 z1_5 hG hS hl hz1_4 hz1_5 hN
      exact absurd hN (by have := iv_up hz1_5; omega)
    | succ N ih1 =>
      intro H locs ls z1_4 z1_5 hG hS hl hz1_4 hz1_5 hN1
      refine lv_iload X.1 X.2.1 dX8_growing_6 (lv_at hl 5 rfl) ?_
      refine lv_aload_n X.1 X.2.1 dX8_growing_8 rfl (lv_at hl 0 rfl) ?_
      refine gf_X8_0 X hK hG h0 wl_2_35 dX8_growing_9 (fun q2 hq2 kq2 => ?_)
      refine gf_X4_5 X hK hG hq2 wl_1_218 dX8_growing_12 (fun f3 hf3 kf3 => ?_)
      refine lv_icmp_ge (tgt := 45) X.1 X.2.1 dX8_growing_15 (by decide) (fun c4 => ?_) (fun c4 => ?_)
      · refine lv_iload X.1 X.2.1 dX8_growing_45 (lv_at hl 4 rfl) ?_
        exact sg_iret X hr hlk hb hK hC hG hS trivial dX8_growing_47
      · refine lv_aload_n X.1 X.2.1 dX8_growing_18 rfl (lv_at hl 0 rfl) ?_
        refine lv_iload X.1 X.2.1 dX8_growing_19 (lv_at hl 5 rfl) ?_
        refine lv_iload_n X.1 X.2.1 dX8_growing_21 rfl (lv_at hl 1 rfl) ?_
        refine lv_iload_n X.1 X.2.1 dX8_growing_22 rfl (lv_at hl 2 rfl) ?_
        refine lv_iload_n X.1 X.2.1 dX8_growing_23 rfl (lv_at hl 3 rfl) ?_
        refine ca_X8_grows X hK hG hC hS hb a0 h0 z1_5 x1 x2 x3 wl_4_158 hl.1 (rest := []) rfl (Nat.le_of_ble_eq_true rfl) ⟨Nat.le_of_ble_eq_true rfl, Nat.le_of_ble_eq_true rfl⟩ ⟨Nat.le_of_ble_eq_true rfl, Nat.le_of_ble_eq_true rfl⟩ dX8_growing_24 (fun f5 H locs hf5 hG hS => ?_)
        have B7_39 : ∀ (locs : List Loc) (ls : Array Slot) (z7_4 : Int32), va_S (fun q : Nat => base ≤ q) s.heap H locs → lv_has ls 6 [(0, .ref a0), (1, .int x1), (2, .int x2), (3, .int x3), (4, .int z7_4), (5, .int z1_5)] → iv 0 1073741823 z7_4 → W p l e (headSpec (Cond.code yX8_growing cX8_growing 6 (some .int) :: sg_tbl) ({ frames := 4, cells := 0, slots := 0, locals := 104 })).room s m #[.ref a0, .int x1, .int x2, .int x3] below meth c H locs 0 0 (MQ below (va_Qi (fun r (_ : Unit) => (fun r : Int32 => True) r) (fun _ => sgB (KT P) D vwCl base tys ad ks) (fun q : Nat => base ≤ q)) #[.ref a0, .int x1, .int x2, .int x3] s 0 0 (fun q : Nat => base ≤ q)) (F0 m 39 ls []) := by
          intro locs ls z7_4 hS hl hz7_4
          obtain ⟨y8, ey8⟩ : ∃ y : Int32, y = z1_5 + Int32.ofInt 1 := ⟨_, rfl⟩
          refine lv_iinc (v := y8) (lv' := [(5, .int y8), (0, .ref a0), (1, .int x1), (2, .int x2), (3, .int x3), (4, .int z7_4)]) X.1 X.2.1 dX8_growing_39 hl (k := 5) rfl ey8.symm (by decide) rfl (fun ls hl => ?_)
          refine lv_goto (tgt := 6) X.1 X.2.1 dX8_growing_42 (by decide) ?_
          exact ih1 H _ _ z7_4 y8 hG hS (lv_sub hl [1, 2, 3, 4, 5, 0] rfl) hz7_4 (iv_of (iv_add (a' := 1) (b' := 30) ey8 (iv_lt (b' := 29) (iv_gt_of c4) hz1_5 hf3 (by decide +kernel)) (iv_c _ (a := 1) (b := 1) (by decide +kernel)) (by decide +kernel)) (a' := 0) (b' := 30) (by decide +kernel)) (iv_stepU ey8 (iv_lt (b' := 29) (iv_gt_of c4) hz1_5 hf3 (by decide +kernel)) (by decide +kernel) hN1)
        refine lv_if_eq (tgt := 39) X.1 X.2.1 dX8_growing_27 (by decide) (fun c6 => ?_) (fun c6 => ?_)
        · exact B7_39 _ _ z1_4 hS (lv_sub hl [0, 1, 2, 3, 4, 5] rfl) hz1_4
        · refine lv_iload X.1 X.2.1 dX8_growing_30 (lv_at hl 4 rfl) ?_
          refine lv_iconst (v := 1) X.1 X.2.1 dX8_growing_32 (by decide +kernel) ?_
          refine lv_iload X.1 X.2.1 dX8_growing_33 (lv_at hl 5 rfl) ?_
          refine lv_ishl X.1 X.2.1 dX8_growing_35 ?_
          refine lv_topi (fun f9 ef9 => ?_)
          refine lv_ior X.1 X.2.1 dX8_growing_36 ?_
          refine lv_topi (fun f10 ef10 => ?_)
          refine lv_istore (lv' := [(4, .int f10), (0, .ref a0), (1, .int x1), (2, .int x2), (3, .int x3), (5, .int z1_5)]) X.1 X.2.1 dX8_growing_37 hl (by decide) rfl (fun ls hl => ?_)
          exact B7_39 _ _ f10 hS (lv_sub hl [1, 2, 3, 4, 0, 5] rfl) (iv_of (iv_or 30 ef10 hz1_4 (sg_shl1 ef9 (hf5.2 c6) (by decide +kernel)) (by decide +kernel)) (a' := 0) (b' := 1073741823) (by decide +kernel))
  exact B1_6 _ s.heap _ _ 0 0 hG hS (lv_sub hl [2, 3, 4, 5, 1, 0] rfl) (iv_of (iv_c 0 (a := 0) (b := 0) (by decide +kernel)) (a' := 0) (b' := 1073741823) (by decide +kernel)) (iv_of (iv_c 0 (a := 0) (b := 0) (by decide +kernel)) (a' := 0) (b' := 30) (by decide +kernel)) (Nat.le_refl _)

theorem ca_X8_growing   (X : CallFix p m c cc nL s args sg_tbl own) (hK : va_K D vwCl tys s) (hG : sgG (KT P) D vwCl (fun q : Nat => base ≤ q) tys ad ks H) (hC : sgC base s) (hS : va_S (fun q : Nat => base ≤ q) s.heap H locs) (hb : base ≤ s.heap.size) (a0 : Nat) (h0 : isK ad ks 8 a0) (x1 : Int32) (x2 : Int32) (x3 : Int32) (hl : Cond.methodLink own index yX8_growing ∈ sg_tbl) (hsize : ls.size = nL) (hst : st0 = [.int x1, .int x2, .int x3].reverse ++ .ref a0 :: rest) (hW : (rest.map fun v => v.category).sum ≤ 8) (hR : 5 ≤ R.frames ∧ 129 ≤ R.locals) (hf : cells ≤ R.cells ∧ slots ≤ R.slots) (hdg : decode cc pc = .ok (.invokevirtual index, 3)) (kk : ∀ (r : Int32) (H1 : Heap) (locs1 : List Loc), (fun r : Int32 => True) r → sgG (KT P) D vwCl (fun q : Nat => base ≤ q) tys ad ks H1 → va_S (fun q : Nat => base ≤ q) s.heap H1 locs1 → W p l e R s m args below meth c H1 locs1 cells slots Q (F0 m (pc + 3) ls (.int r :: rest))) : W p l e R s m args below meth c H locs cells slots Q (F0 m pc ls st0) :=
  sg_callVi X hK hG hC hS hb (m_X8_growing l a0 h0 x1 x2 x3) h0 (k := 8) (ci := 8) rfl (C := RX8) (T := TX8) (N := 9) rfl wl_4_211 wl_1_8 wl_4_209 wl_4_210 (n := 3) (by decide +kernel) rfl rfl rfl hl hsize hst hW hR hf hdg kk

set_option maxHeartbeats 8000000 in
set_option maxRecDepth 100000 in
theorem m_X8_lowest (l : Launch) {D : va_G} {base : Nat} {tys : List (ClassId × FieldType)} {ad ks : List Nat} {P : sgPm} (a0 : Nat) (h0 : isK ad ks 8 a0) (x1 : Int32) (x2 : Int32) (x3 : Int32) : sgMi l (KT P) D vwCl base tys ad ks yX8_lowest cX8_lowest 5 (some .int) ({ frames := 4, cells := 0, slots := 0, locals := 104 }) [.ref a0, .int x1, .int x2, .int x3] (fun r : Int32 => True) := by
  refine sg_ofW (by decide +kernel) (Nat.le_of_ble_eq_true rfl) (fun p e s m below meth c X hr hlk hb hK hC hG ls hl => ?_)
  have hS : va_S (fun q : Nat => base ≤ q) s.heap s.heap [] := va_S.rf
  have hl : lv_has ls 5 [(0, .ref a0), (1, .int x1), (2, .int x2), (3, .int x3)] := hl
  refine lv_iconst (v := 0) X.1 X.2.1 dX8_lowest_0 (by decide +kernel) ?_
  refine lv_istore (lv' := [(4, .int 0), (0, .ref a0), (1, .int x1), (2, .int x2), (3, .int x3)]) X.1 X.2.1 dX8_lowest_1 hl (by decide) rfl (fun ls hl => ?_)
  have B1_3 : ∀ (N : Nat) (H : Heap) (locs : List Loc) (ls : Array Slot) (z1_4 : Int32), sgG (KT P) D vwCl (fun q : Nat => base ≤ q) tys ad ks H → va_S (fun q : Nat => base ≤ q) s.heap H locs → lv_has ls 5 [(0, .ref a0), (1, .int x1), (2, .int x2), (3, .int x3), (4, .int z1_4)] → iv 0 30 z1_4 → (31 - z1_4.toInt).toNat ≤ N → W p l e (headSpec (Cond.code yX8_lowest cX8_lowest 5 (some .int) :: sg_tbl) ({ frames := 4, cells := 0, slots := 0, locals := 104 })).room s m #[.ref a0, .int x1, .int x2, .int x3] below meth c H locs 0 0 (MQ below (va_Qi (fun r (_ : Unit) => (fun r : Int32 => True) r) (fun _ => sgB (KT P) D vwCl base tys ad ks) (fun q : Nat => base ≤ q)) #[.ref a0, .int x1, .int x2, .int x3] s 0 0 (fun q : Nat => base ≤ q)) (F0 m 3 ls []) := by
    intro N; induction N with
    | zero =>
      intro H locs ls z1_4 hG hS hl hz1_4 hN
      exact absurd hN (by have := iv_up hz1_4; omega)
    | succ N ih1 =>
      intro H locs ls z1_4 hG hS hl hz1_4 hN1
      refine lv_iload X.1 X.2.1 dX8_lowest_3 (lv_at hl 4 rfl) ?_
      refine lv_aload_n X.1 X.2.1 dX8_lowest_5 rfl (lv_at hl 0 rfl) ?_
      refine gf_X8_0 X hK hG h0 wl_2_35 dX8_lowest_6 (fun q2 hq2 kq2 => ?_)
      refine gf_X4_5 X hK hG hq2 wl_1_218 dX8_lowest_9 (fun f3 hf3 kf3 => ?_)
      refine lv_icmp_ge (tgt := 36) X.1 X.2.1 dX8_lowest_12 (by decide) (fun c4 => ?_) (fun c4 => ?_)
      · refine lv_iconst (v := (-1)) X.1 X.2.1 dX8_lowest_36 (by decide +kernel) ?_
        exact sg_iret X hr hlk hb hK hC hG hS trivial dX8_lowest_37
      · refine lv_aload_n X.1 X.2.1 dX8_lowest_15 rfl (lv_at hl 0 rfl) ?_
        refine lv_iload X.1 X.2.1 dX8_lowest_16 (lv_at hl 4 rfl) ?_
        refine lv_iload_n X.1 X.2.1 dX8_lowest_18 rfl (lv_at hl 1 rfl) ?_
        refine lv_iload_n X.1 X.2.1 dX8_lowest_19 rfl (lv_at hl 2 rfl) ?_
        refine lv_iload_n X.1 X.2.1 dX8_lowest_20 rfl (lv_at hl 3 rfl) ?_
        refine ca_X8_grows X hK hG hC hS hb a0 h0 z1_4 x1 x2 x3 wl_4_158 hl.1 (rest := []) rfl (Nat.le_of_ble_eq_true rfl) ⟨Nat.le_of_ble_eq_true rfl, Nat.le_of_ble_eq_true rfl⟩ ⟨Nat.le_of_ble_eq_true rfl, Nat.le_of_ble_eq_true rfl⟩ dX8_lowest_21 (fun f5 H locs hf5 hG hS => ?_)
        refine lv_if_eq (tgt := 30) X.1 X.2.1 dX8_lowest_24 (by decide) (fun c6 => ?_) (fun c6 => ?_)
        · obtain ⟨y7, ey7⟩ : ∃ y : Int32, y = z1_4 + Int32.ofInt 1 := ⟨_, rfl⟩
          refine lv_iinc (v := y7) (lv' := [(4, .int y7), (0, .ref a0), (1, .int x1), (2, .int x2), (3, .int x3)]) X.1 X.2.1 dX8_lowest_30 hl (k := 4) rfl ey7.symm (by decide) rfl (fun ls hl => ?_)
          refine lv_goto (tgt := 3) X.1 X.2.1 dX8_lowest_33 (by decide) ?_
          exact ih1 H _ _ y7 hG hS (lv_sub hl [1, 2, 3, 4, 0] rfl) (iv_of (iv_add (a' := 1) (b' := 30) ey7 (iv_lt (b' := 29) (iv_gt_of c4) hz1_4 hf3 (by decide +kernel)) (iv_c _ (a := 1) (b := 1) (by decide +kernel)) (by decide +kernel)) (a' := 0) (b' := 30) (by decide +kernel)) (iv_stepU ey7 (iv_lt (b' := 29) (iv_gt_of c4) hz1_4 hf3 (by decide +kernel)) (by decide +kernel) hN1)
        · refine lv_iload X.1 X.2.1 dX8_lowest_27 (lv_at hl 4 rfl) ?_
          exact sg_iret X hr hlk hb hK hC hG hS trivial dX8_lowest_29
  exact B1_3 _ s.heap _ _ 0 hG hS (lv_sub hl [1, 2, 3, 4, 0] rfl) (iv_of (iv_c 0 (a := 0) (b := 0) (by decide +kernel)) (a' := 0) (b' := 30) (by decide +kernel)) (Nat.le_refl _)

theorem ca_X8_lowest   (X : CallFix p m c cc nL s args sg_tbl own) (hK : va_K D vwCl tys s) (hG : sgG (KT P) D vwCl (fun q : Nat => base ≤ q) tys ad ks H) (hC : sgC base s) (hS : va_S (fun q : Nat => base ≤ q) s.heap H locs) (hb : base ≤ s.heap.size) (a0 : Nat) (h0 : isK ad ks 8 a0) (x1 : Int32) (x2 : Int32) (x3 : Int32) (hl : Cond.methodLink own index yX8_lowest ∈ sg_tbl) (hsize : ls.size = nL) (hst : st0 = [.int x1, .int x2, .int x3].reverse ++ .ref a0 :: rest) (hW : (rest.map fun v => v.category).sum ≤ 8) (hR : 5 ≤ R.frames ∧ 128 ≤ R.locals) (hf : cells ≤ R.cells ∧ slots ≤ R.slots) (hdg : decode cc pc = .ok (.invokevirtual index, 3)) (kk : ∀ (r : Int32) (H1 : Heap) (locs1 : List Loc), (fun r : Int32 => True) r → sgG (KT P) D vwCl (fun q : Nat => base ≤ q) tys ad ks H1 → va_S (fun q : Nat => base ≤ q) s.heap H1 locs1 → W p l e R s m args below meth c H1 locs1 cells slots Q (F0 m (pc + 3) ls (.int r :: rest))) : W p l e R s m args below meth c H locs cells slots Q (F0 m pc ls st0) :=
  sg_callVi X hK hG hC hS hb (m_X8_lowest l a0 h0 x1 x2 x3) h0 (k := 8) (ci := 8) rfl (C := RX8) (T := TX8) (N := 9) rfl wl_5_45 wl_1_8 wl_5_43 wl_5_44 (n := 3) (by decide +kernel) rfl rfl rfl hl hsize hst hW hR hf hdg kk

set_option maxHeartbeats 8000000 in
set_option maxRecDepth 100000 in
theorem m_X8_threatBits (l : Launch) {D : va_G} {base : Nat} {tys : List (ClassId × FieldType)} {ad ks : List Nat} {P : sgPm} (a0 : Nat) (h0 : isK ad ks 8 a0) (x1 : Int32) (x2 : Int32) (x3 : Int32) : sgMi l (KT P) D vwCl base tys ad ks yX8_threatBits cX8_threatBits 7 (some .int) ({ frames := 4, cells := 0, slots := 0, locals := 104 }) [.ref a0, .int x1, .int x2, .int x3] (fun r : Int32 => True) := by
  refine sg_ofW (by decide +kernel) (Nat.le_of_ble_eq_true rfl) (fun p e s m below meth c X hr hlk hb hK hC hG ls hl => ?_)
  have hS : va_S (fun q : Nat => base ≤ q) s.heap s.heap [] := va_S.rf
  have hl : lv_has ls 7 [(0, .ref a0), (1, .int x1), (2, .int x2), (3, .int x3)] := hl
  refine lv_iconst (v := 0) X.1 X.2.1 dX8_threatBits_0 (by decide +kernel) ?_
  refine lv_istore (lv' := [(4, .int 0), (0, .ref a0), (1, .int x1), (2, .int x2), (3, .int x3)]) X.1 X.2.1 dX8_threatBits_1 hl (by decide) rfl (fun ls hl => ?_)
  refine lv_aload_n X.1 X.2.1 dX8_threatBits_3 rfl (lv_at hl 1 rfl) ?_
  refine gf_X8_0 X hK hG h0 wl_2_35 dX8_threatBits_4 (fun q1 hq1 kq1 => ?_)
  refine lv_iload_n X.1 X.2.1 dX8_threatBits_7 rfl (lv_at hl 2 rfl) ?_
  refine ca_X4_winners X hK hG hC (fun _ h => h) hS hb q1 hq1 x1 wl_4_154 hl.1 (rest := []) rfl (Nat.le_of_ble_eq_true rfl) ⟨Nat.le_of_ble_eq_true rfl, Nat.le_of_ble_eq_true rfl⟩ ⟨Nat.le_of_ble_eq_true rfl, Nat.le_of_ble_eq_true rfl⟩ dX8_threatBits_8 (fun f2 locs hf2 hS => ?_)
  refine lv_istore (lv' := [(5, .int f2), (4, .int 0), (0, .ref a0), (1, .int x1), (2, .int x2), (3, .int x3)]) X.1 X.2.1 dX8_threatBits_11 hl (by decide) rfl (fun ls hl => ?_)
  refine lv_iconst (v := 0) X.1 X.2.1 dX8_threatBits_13 (by decide +kernel) ?_
  refine lv_istore (lv' := [(6, .int 0), (5, .int f2), (4, .int 0), (0, .ref a0), (1, .int x1), (2, .int x2), (3, .int x3)]) X.1 X.2.1 dX8_threatBits_14 hl (by decide) rfl (fun ls hl => ?_)
  have B3_16 : ∀ (N : Nat) (H : Heap) (locs : List Loc) (ls : Array Slot) (z3_4 : Int32) (z3_6 : Int32), sgG (KT P) D vwCl (fun q : Nat => base ≤ q) tys ad ks H → va_S (fun q : Nat => base ≤ q) s.heap H locs → lv_has ls 7 [(0, .ref a0), (1, .int x1), (2, .int x2), (3, .int x3), (4, .int z3_4), (5, .int f2), (6, .int z3_6)] → iv 0 1073741823 z3_4 → iv 0 30 z3_6 → (31 - z3_6.toInt).toNat ≤ N → W p l e (headSpec (Cond.code yX8_threatBits cX8_threatBits 7 (some .int) :: sg_tbl) ({ frames := 4, cells := 0, slots := 0, locals := 104 })).room s m #[.ref a0, .int x1, .int x2, .int x3] below meth c H locs 0 0 (MQ below (va_Qi (fun r (_ : Unit) => (fun r : Int32 => True) r) (fun _ => sgB (KT P) D vwCl base tys ad ks) (fun q : Nat => base ≤ q)) #[.ref a0, .int x1, .int x2, .int x3] s 0 0 (fun q : Nat => base ≤ q)) (F0 m 16 ls []) := by
    intro N; induction N with
    | zero =>
      intro H locs ls z3_4 z3_6 hG hS hl hz3_4 hz3_6 hN
      exact absurd hN (by have := iv_up hz3_6; omega)
    | succ N ih3 =>
      intro H locs ls z3_4 z3_6 hG hS hl hz3_4 hz3_6 hN3
      refine lv_iload X.1 X.2.1 dX8_threatBits_16 (lv_at hl 6 rfl) ?_
      refine lv_aload_n X.1 X.2.1 dX8_threatBits_18 rfl (lv_at hl 0 rfl) ?_
      refine gf_X8_0 X hK hG h0 wl_2_35 dX8_threatBits_19 (fun q4 hq4 kq4 => ?_)
      refine gf_X4_5 X hK hG hq4 wl_1_218 dX8_threatBits_22 (fun f5 hf5 kf5 => ?_)
      refine lv_icmp_ge (tgt := 65) X.1 X.2.1 dX8_threatBits_25 (by decide) (fun c6 => ?_) (fun c6 => ?_)
      · refine lv_iload X.1 X.2.1 dX8_threatBits_65 (lv_at hl 4 rfl) ?_
        exact sg_iret X hr hlk hb hK hC hG hS trivial dX8_threatBits_67
      · refine lv_iload X.1 X.2.1 dX8_threatBits_28 (lv_at hl 5 rfl) ?_
        refine lv_iload X.1 X.2.1 dX8_threatBits_30 (lv_at hl 6 rfl) ?_
        refine lv_ishr X.1 X.2.1 dX8_threatBits_32 ?_
        refine lv_topi (fun f7 ef7 => ?_)
        refine lv_iconst (v := 1) X.1 X.2.1 dX8_threatBits_33 (by decide +kernel) ?_
        refine lv_iand X.1 X.2.1 dX8_threatBits_34 ?_
        refine lv_topi (fun f8 ef8 => ?_)
        have B10_59 : ∀ (H : Heap) (locs : List Loc) (ls : Array Slot) (z10_4 : Int32), sgG (KT P) D vwCl (fun q : Nat => base ≤ q) tys ad ks H → va_S (fun q : Nat => base ≤ q) s.heap H locs → lv_has ls 7 [(0, .ref a0), (1, .int x1), (2, .int x2), (3, .int x3), (4, .int z10_4), (5, .int f2), (6, .int z3_6)] → iv 0 1073741823 z10_4 → W p l e (headSpec (Cond.code yX8_threatBits cX8_threatBits 7 (some .int) :: sg_tbl) ({ frames := 4, cells := 0, slots := 0, locals := 104 })).room s m #[.ref a0, .int x1, .int x2, .int x3] below meth c H locs 0 0 (MQ below (va_Qi (fun r (_ : Unit) => (fun r : Int32 => True) r) (fun _ => sgB (KT P) D vwCl base tys ad ks) (fun q : Nat => base ≤ q)) #[.ref a0, .int x1, .int x2, .int x3] s 0 0 (fun q : Nat => base ≤ q)) (F0 m 59 ls []) := by
          intro H locs ls z10_4 hG hS hl hz10_4
          obtain ⟨y11, ey11⟩ : ∃ y : Int32, y = z3_6 + Int32.ofInt 1 := ⟨_, rfl⟩
          refine lv_iinc (v := y11) (lv' := [(6, .int y11), (0, .ref a0), (1, .int x1), (2, .int x2), (3, .int x3), (4, .int z10_4), (5, .int f2)]) X.1 X.2.1 dX8_threatBits_59 hl (k := 6) rfl ey11.symm (by decide) rfl (fun ls hl => ?_)
          refine lv_goto (tgt := 16) X.1 X.2.1 dX8_threatBits_62 (by decide) ?_
          exact ih3 H _ _ z10_4 y11 hG hS (lv_sub hl [1, 2, 3, 4, 5, 6, 0] rfl) hz10_4 (iv_of (iv_add (a' := 1) (b' := 30) ey11 (iv_lt (b' := 29) (iv_gt_of c6) hz3_6 hf5 (by decide +kernel)) (iv_c _ (a := 1) (b := 1) (by decide +kernel)) (by decide +kernel)) (a' := 0) (b' := 30) (by decide +kernel)) (iv_stepU ey11 (iv_lt (b' := 29) (iv_gt_of c6) hz3_6 hf5 (by decide +kernel)) (by decide +kernel) hN3)
        refine lv_if_eq (tgt := 59) X.1 X.2.1 dX8_threatBits_35 (by decide) (fun c9 => ?_) (fun c9 => ?_)
        · exact B10_59 H _ _ z3_4 hG hS (lv_sub hl [0, 1, 2, 3, 4, 5, 6] rfl) hz3_4
        · refine lv_aload_n X.1 X.2.1 dX8_threatBits_38 rfl (lv_at hl 0 rfl) ?_
          refine lv_iload X.1 X.2.1 dX8_threatBits_39 (lv_at hl 6 rfl) ?_
          refine lv_iload_n X.1 X.2.1 dX8_threatBits_41 rfl (lv_at hl 1 rfl) ?_
          refine lv_iload_n X.1 X.2.1 dX8_threatBits_42 rfl (lv_at hl 2 rfl) ?_
          refine lv_iload_n X.1 X.2.1 dX8_threatBits_43 rfl (lv_at hl 3 rfl) ?_
          refine ca_X8_grows X hK hG hC hS hb a0 h0 z3_6 x1 x2 x3 wl_4_158 hl.1 (rest := []) rfl (Nat.le_of_ble_eq_true rfl) ⟨Nat.le_of_ble_eq_true rfl, Nat.le_of_ble_eq_true rfl⟩ ⟨Nat.le_of_ble_eq_true rfl, Nat.le_of_ble_eq_true rfl⟩ dX8_threatBits_44 (fun f12 H locs hf12 hG hS => ?_)
          refine lv_if_eq (tgt := 59) X.1 X.2.1 dX8_threatBits_47 (by decide) (fun c13 => ?_) (fun c13 => ?_)
          · exact B10_59 H _ _ z3_4 hG hS (lv_sub hl [0, 1, 2, 3, 4, 5, 6] rfl) hz3_4
          · refine lv_iload X.1 X.2.1 dX8_threatBits_50 (lv_at hl 4 rfl) ?_
            refine lv_iconst (v := 1) X.1 X.2.1 dX8_threatBits_52 (by decide +kernel) ?_
            refine lv_iload X.1 X.2.1 dX8_threatBits_53 (lv_at hl 6 rfl) ?_
            refine lv_ishl X.1 X.2.1 dX8_threatBits_55 ?_
            refine lv_topi (fun f14 ef14 => ?_)
            refine lv_ior X.1 X.2.1 dX8_threatBits_56 ?_
            refine lv_topi (fun f15 ef15 => ?_)
            refine lv_istore (lv' := [(4, .int f15), (0, .ref a0), (1, .int x1), (2, .int x2), (3, .int x3), (5, .int f2), (6, .int z3_6)]) X.1 X.2.1 dX8_threatBits_57 hl (by decide) rfl (fun ls hl => ?_)
            exact B10_59 H _ _ f15 hG hS (lv_sub hl [1, 2, 3, 4, 0, 5, 6] rfl) (iv_of (iv_or 30 ef15 hz3_4 (sg_shl1 ef14 (hf12.2 c13) (by decide +kernel)) (by decide +kernel)) (a' := 0) (b' := 1073741823) (by decide +kernel))
  exact B3_16 _ s.heap _ _ 0 0 hG hS (lv_sub hl [3, 4, 5, 6, 2, 1, 0] rfl) (iv_of (iv_c 0 (a := 0) (b := 0) (by decide +kernel)) (a' := 0) (b' := 1073741823) (by decide +kernel)) (iv_of (iv_c 0 (a := 0) (b := 0) (by decide +kernel)) (a' := 0) (b' := 30) (by decide +kernel)) (Nat.le_refl _)

theorem ca_X8_threatBits   (X : CallFix p m c cc nL s args sg_tbl own) (hK : va_K D vwCl tys s) (hG : sgG (KT P) D vwCl (fun q : Nat => base ≤ q) tys ad ks H) (hC : sgC base s) (hS : va_S (fun q : Nat => base ≤ q) s.heap H locs) (hb : base ≤ s.heap.size) (a0 : Nat) (h0 : isK ad ks 8 a0) (x1 : Int32) (x2 : Int32) (x3 : Int32) (hl : Cond.methodLink own index yX8_threatBits ∈ sg_tbl) (hsize : ls.size = nL) (hst : st0 = [.int x1, .int x2, .int x3].reverse ++ .ref a0 :: rest) (hW : (rest.map fun v => v.category).sum ≤ 8) (hR : 5 ≤ R.frames ∧ 130 ≤ R.locals) (hf : cells ≤ R.cells ∧ slots ≤ R.slots) (hdg : decode cc pc = .ok (.invokevirtual index, 3)) (kk : ∀ (r : Int32) (H1 : Heap) (locs1 : List Loc), (fun r : Int32 => True) r → sgG (KT P) D vwCl (fun q : Nat => base ≤ q) tys ad ks H1 → va_S (fun q : Nat => base ≤ q) s.heap H1 locs1 → W p l e R s m args below meth c H1 locs1 cells slots Q (F0 m (pc + 3) ls (.int r :: rest))) : W p l e R s m args below meth c H locs cells slots Q (F0 m pc ls st0) :=
  sg_callVi X hK hG hC hS hb (m_X8_threatBits l a0 h0 x1 x2 x3) h0 (k := 8) (ci := 8) rfl (C := RX8) (T := TX8) (N := 9) rfl wl_4_231 wl_1_8 wl_4_229 wl_4_230 (n := 3) (by decide +kernel) rfl rfl rfl hl hsize hst hW hR hf hdg kk

set_option maxHeartbeats 8000000 in
set_option maxRecDepth 100000 in
theorem m_X8_threatened (l : Launch) {D : va_G} {base : Nat} {tys : List (ClassId × FieldType)} {ad ks : List Nat} {P : sgPm} (a0 : Nat) (h0 : isK ad ks 8 a0) (x1 : Int32) (x2 : Int32) (x3 : Int32) : sgMi l (KT P) D vwCl base tys ad ks yX8_threatened cX8_threatened 6 (some .boolean) ({ frames := 4, cells := 0, slots := 0, locals := 104 }) [.ref a0, .int x1, .int x2, .int x3] (fun r : Int32 => iv 0 1 r) := by
  refine sg_ofW (by decide +kernel) (Nat.le_of_ble_eq_true rfl) (fun p e s m below meth c X hr hlk hb hK hC hG ls hl => ?_)
  have hS : va_S (fun q : Nat => base ≤ q) s.heap s.heap [] := va_S.rf
  have hl : lv_has ls 6 [(0, .ref a0), (1, .int x1), (2, .int x2), (3, .int x3)] := hl
  refine lv_aload_n X.1 X.2.1 dX8_threatened_0 rfl (lv_at hl 0 rfl) ?_
  refine gf_X8_0 X hK hG h0 wl_2_35 dX8_threatened_1 (fun q1 hq1 kq1 => ?_)
  refine lv_iload_n X.1 X.2.1 dX8_threatened_4 rfl (lv_at hl 1 rfl) ?_
  refine ca_X4_winners X hK hG hC (fun _ h => h) hS hb q1 hq1 x1 wl_4_154 hl.1 (rest := []) rfl (Nat.le_of_ble_eq_true rfl) ⟨Nat.le_of_ble_eq_true rfl, Nat.le_of_ble_eq_true rfl⟩ ⟨Nat.le_of_ble_eq_true rfl, Nat.le_of_ble_eq_true rfl⟩ dX8_threatened_5 (fun f2 locs hf2 hS => ?_)
  refine lv_istore (lv' := [(4, .int f2), (0, .ref a0), (1, .int x1), (2, .int x2), (3, .int x3)]) X.1 X.2.1 dX8_threatened_8 hl (by decide) rfl (fun ls hl => ?_)
  refine lv_iconst (v := 0) X.1 X.2.1 dX8_threatened_10 (by decide +kernel) ?_
  refine lv_istore (lv' := [(5, .int 0), (4, .int f2), (0, .ref a0), (1, .int x1), (2, .int x2), (3, .int x3)]) X.1 X.2.1 dX8_threatened_11 hl (by decide) rfl (fun ls hl => ?_)
  have B3_13 : ∀ (N : Nat) (H : Heap) (locs : List Loc) (ls : Array Slot) (z3_5 : Int32), sgG (KT P) D vwCl (fun q : Nat => base ≤ q) tys ad ks H → va_S (fun q : Nat => base ≤ q) s.heap H locs → lv_has ls 6 [(0, .ref a0), (1, .int x1), (2, .int x2), (3, .int x3), (4, .int f2), (5, .int z3_5)] → iv 0 30 z3_5 → (31 - z3_5.toInt).toNat ≤ N → W p l e (headSpec (Cond.code yX8_threatened cX8_threatened 6 (some .boolean) :: sg_tbl) ({ frames := 4, cells := 0, slots := 0, locals := 104 })).room s m #[.ref a0, .int x1, .int x2, .int x3] below meth c H locs 0 0 (MQ below (va_Qi (fun r (_ : Unit) => (fun r : Int32 => iv 0 1 r) r) (fun _ => sgB (KT P) D vwCl base tys ad ks) (fun q : Nat => base ≤ q)) #[.ref a0, .int x1, .int x2, .int x3] s 0 0 (fun q : Nat => base ≤ q)) (F0 m 13 ls []) := by
    intro N; induction N with
    | zero =>
      intro H locs ls z3_5 hG hS hl hz3_5 hN
      exact absurd hN (by have := iv_up hz3_5; omega)
    | succ N ih3 =>
      intro H locs ls z3_5 hG hS hl hz3_5 hN3
      refine lv_iload X.1 X.2.1 dX8_threatened_13 (lv_at hl 5 rfl) ?_
      refine lv_aload_n X.1 X.2.1 dX8_threatened_15 rfl (lv_at hl 0 rfl) ?_
      refine gf_X8_0 X hK hG h0 wl_2_35 dX8_threatened_16 (fun q4 hq4 kq4 => ?_)
      refine gf_X4_5 X hK hG hq4 wl_1_218 dX8_threatened_19 (fun f5 hf5 kf5 => ?_)
      refine lv_icmp_ge (tgt := 63) X.1 X.2.1 dX8_threatened_22 (by decide) (fun c6 => ?_) (fun c6 => ?_)
      · refine lv_iconst (v := 0) X.1 X.2.1 dX8_threatened_63 (by decide +kernel) ?_
        exact sg_zret X hr (sg_zn (iv_of (iv_c 0 (a := 0) (b := 0) (by decide +kernel)) (a' := 0) (b' := 1) (by decide +kernel))) hlk hb hK hC hG hS (iv_of (iv_c 0 (a := 0) (b := 0) (by decide +kernel)) (a' := 0) (b' := 1) (by decide +kernel)) dX8_threatened_64
      · refine lv_iload X.1 X.2.1 dX8_threatened_25 (lv_at hl 4 rfl) ?_
        refine lv_iload X.1 X.2.1 dX8_threatened_27 (lv_at hl 5 rfl) ?_
        refine lv_ishr X.1 X.2.1 dX8_threatened_29 ?_
        refine lv_topi (fun f7 ef7 => ?_)
        refine lv_if_eq (tgt := 63) X.1 X.2.1 dX8_threatened_30 (by decide) (fun c8 => ?_) (fun c8 => ?_)
        · refine lv_iconst (v := 0) X.1 X.2.1 dX8_threatened_63 (by decide +kernel) ?_
          exact sg_zret X hr (sg_zn (iv_of (iv_c 0 (a := 0) (b := 0) (by decide +kernel)) (a' := 0) (b' := 1) (by decide +kernel))) hlk hb hK hC hG hS (iv_of (iv_c 0 (a := 0) (b := 0) (by decide +kernel)) (a' := 0) (b' := 1) (by decide +kernel)) dX8_threatened_64
        · refine lv_iload X.1 X.2.1 dX8_threatened_33 (lv_at hl 4 rfl) ?_
          refine lv_iload X.1 X.2.1 dX8_threatened_35 (lv_at hl 5 rfl) ?_
          refine lv_ishr X.1 X.2.1 dX8_threatened_37 ?_
          refine lv_topi (fun f9 ef9 => ?_)
          refine lv_iconst (v := 1) X.1 X.2.1 dX8_threatened_38 (by decide +kernel) ?_
          refine lv_iand X.1 X.2.1 dX8_threatened_39 ?_
          refine lv_topi (fun f10 ef10 => ?_)
          have B12_57 : ∀ (H : Heap) (locs : List Loc) (ls : Array Slot), sgG (KT P) D vwCl (fun q : Nat => base ≤ q) tys ad ks H → va_S (fun q : Nat => base ≤ q) s.heap H locs → lv_has ls 6 [(0, .ref a0), (1, .int x1), (2, .int x2), (3, .int x3), (4, .int f2), (5, .int z3_5)] → W p l e (headSpec (Cond.code yX8_threatened cX8_threatened 6 (some .boolean) :: sg_tbl) ({ frames := 4, cells := 0, slots := 0, locals := 104 })).room s m #[.ref a0, .int x1, .int x2, .int x3] below meth c H locs 0 0 (MQ below (va_Qi (fun r (_ : Unit) => (fun r : Int32 => iv 0 1 r) r) (fun _ => sgB (KT P) D vwCl base tys ad ks) (fun q : Nat => base ≤ q)) #[.ref a0, .int x1, .int x2, .int x3] s 0 0 (fun q : Nat => base ≤ q)) (F0 m 57 ls []) := by
            intro H locs ls hG hS hl
            obtain ⟨y13, ey13⟩ : ∃ y : Int32, y = z3_5 + Int32.ofInt 1 := ⟨_, rfl⟩
            refine lv_iinc (v := y13) (lv' := [(5, .int y13), (0, .ref a0), (1, .int x1), (2, .int x2), (3, .int x3), (4, .int f2)]) X.1 X.2.1 dX8_threatened_57 hl (k := 5) rfl ey13.symm (by decide) rfl (fun ls hl => ?_)
            refine lv_goto (tgt := 13) X.1 X.2.1 dX8_threatened_60 (by decide) ?_
            exact ih3 H _ _ y13 hG hS (lv_sub hl [1, 2, 3, 4, 5, 0] rfl) (iv_of (iv_add (a' := 1) (b' := 30) ey13 (iv_lt (b' := 29) (iv_gt_of c6) hz3_5 hf5 (by decide +kernel)) (iv_c _ (a := 1) (b := 1) (by decide +kernel)) (by decide +kernel)) (a' := 0) (b' := 30) (by decide +kernel)) (iv_stepU ey13 (iv_lt (b' := 29) (iv_gt_of c6) hz3_5 hf5 (by decide +kernel)) (by decide +kernel) hN3)
          refine lv_if_eq (tgt := 57) X.1 X.2.1 dX8_threatened_40 (by decide) (fun c11 => ?_) (fun c11 => ?_)
          · exact B12_57 H _ _ hG hS (lv_sub hl [0, 1, 2, 3, 4, 5] rfl)
          · refine lv_aload_n X.1 X.2.1 dX8_threatened_43 rfl (lv_at hl 0 rfl) ?_
            refine lv_iload X.1 X.2.1 dX8_threatened_44 (lv_at hl 5 rfl) ?_
            refine lv_iload_n X.1 X.2.1 dX8_threatened_46 rfl (lv_at hl 1 rfl) ?_
            refine lv_iload_n X.1 X.2.1 dX8_threatened_47 rfl (lv_at hl 2 rfl) ?_
            refine lv_iload_n X.1 X.2.1 dX8_threatened_48 rfl (lv_at hl 3 rfl) ?_
            refine ca_X8_grows X hK hG hC hS hb a0 h0 z3_5 x1 x2 x3 wl_4_158 hl.1 (rest := []) rfl (Nat.le_of_ble_eq_true rfl) ⟨Nat.le_of_ble_eq_true rfl, Nat.le_of_ble_eq_true rfl⟩ ⟨Nat.le_of_ble_eq_true rfl, Nat.le_of_ble_eq_true rfl⟩ dX8_threatened_49 (fun f14 H locs hf14 hG hS => ?_)
            refine lv_if_eq (tgt := 57) X.1 X.2.1 dX8_threatened_52 (by decide) (fun c15 => ?_) (fun c15 => ?_)
            · exact B12_57 H _ _ hG hS (lv_sub hl [0, 1, 2, 3, 4, 5] rfl)
            · refine lv_iconst (v := 1) X.1 X.2.1 dX8_threatened_55 (by decide +kernel) ?_
              exact sg_zret X hr (sg_zn (iv_of (iv_c 1 (a := 1) (b := 1) (by decide +kernel)) (a' := 0) (b' := 1) (by decide +kernel))) hlk hb hK hC hG hS (iv_of (iv_c 1 (a := 1) (b := 1) (by decide +kernel)) (a' := 0) (b' := 1) (by decide +kernel)) dX8_threatened_56
  exact B3_13 _ s.heap _ _ 0 hG hS (lv_sub hl [2, 3, 4, 5, 1, 0] rfl) (iv_of (iv_c 0 (a := 0) (b := 0) (by decide +kernel)) (a' := 0) (b' := 30) (by decide +kernel)) (Nat.le_refl _)

theorem ca_X8_threatened   (X : CallFix p m c cc nL s args sg_tbl own) (hK : va_K D vwCl tys s) (hG : sgG (KT P) D vwCl (fun q : Nat => base ≤ q) tys ad ks H) (hC : sgC base s) (hS : va_S (fun q : Nat => base ≤ q) s.heap H locs) (hb : base ≤ s.heap.size) (a0 : Nat) (h0 : isK ad ks 8 a0) (x1 : Int32) (x2 : Int32) (x3 : Int32) (hl : Cond.methodLink own index yX8_threatened ∈ sg_tbl) (hsize : ls.size = nL) (hst : st0 = [.int x1, .int x2, .int x3].reverse ++ .ref a0 :: rest) (hW : (rest.map fun v => v.category).sum ≤ 8) (hR : 5 ≤ R.frames ∧ 129 ≤ R.locals) (hf : cells ≤ R.cells ∧ slots ≤ R.slots) (hdg : decode cc pc = .ok (.invokevirtual index, 3)) (kk : ∀ (r : Int32) (H1 : Heap) (locs1 : List Loc), (fun r : Int32 => iv 0 1 r) r → sgG (KT P) D vwCl (fun q : Nat => base ≤ q) tys ad ks H1 → va_S (fun q : Nat => base ≤ q) s.heap H1 locs1 → W p l e R s m args below meth c H1 locs1 cells slots Q (F0 m (pc + 3) ls (.int r :: rest))) : W p l e R s m args below meth c H locs cells slots Q (F0 m pc ls st0) :=
  sg_callVi X hK hG hC hS hb (m_X8_threatened l a0 h0 x1 x2 x3) h0 (k := 8) (ci := 8) rfl (C := RX8) (T := TX8) (N := 9) rfl wl_4_153 wl_1_8 wl_4_151 wl_4_152 (n := 3) (by decide +kernel) rfl rfl rfl hl hsize hst hW hR hf hdg kk

set_option maxHeartbeats 8000000 in
set_option maxRecDepth 100000 in
theorem m_X8_listWay (l : Launch) {D : va_G} {base : Nat} {tys : List (ClassId × FieldType)} {ad ks : List Nat} {P : sgPm} (a0 : Nat) (h0 : isK ad ks 8 a0) (x1 : Int32) (x2 : Int32) (x3 : Int32) (h3 : iv 1 2 x3) (x4 : Int32) : sgMv l (KT P) D vwCl base tys ad ks yX8_listWay cX8_listWay 7 none ({ frames := 2, cells := 0, slots := 0, locals := 46 }) [.ref a0, .int x1, .int x2, .int x3, .int x4] := by
  refine sg_ofW (by decide +kernel) (Nat.le_of_ble_eq_true rfl) (fun p e s m below meth c X hr hlk hb hK hC hG ls hl => ?_)
  have hS : va_S (fun q : Nat => base ≤ q) s.heap s.heap [] := va_S.rf
  have hl : lv_has ls 7 [(0, .ref a0), (1, .int x1), (2, .int x2), (3, .int x3), (4, .int x4)] := hl
  refine lv_iload_n X.1 X.2.1 dX8_listWay_0 rfl (lv_at hl 3 rfl) ?_
  refine lv_istore (lv' := [(5, .int x3), (0, .ref a0), (1, .int x1), (2, .int x2), (3, .int x3), (4, .int x4)]) X.1 X.2.1 dX8_listWay_1 hl (by decide) rfl (fun ls hl => ?_)
  have B1_3 : ∀ (N : Nat) (H : Heap) (locs : List Loc) (ls : Array Slot) (z1_5 : Int32), sgG (KT P) D vwCl (fun q : Nat => base ≤ q) tys ad ks H → va_S (fun q : Nat => base ≤ q) s.heap H locs → lv_has ls 7 [(0, .ref a0), (1, .int x1), (2, .int x2), (4, .int x4), (5, .int z1_5)] → iv 1 6 z1_5 → (7 - z1_5.toInt).toNat ≤ N → W p l e (headSpec (Cond.code yX8_listWay cX8_listWay 7 none :: sg_tbl) ({ frames := 2, cells := 0, slots := 0, locals := 46 })).room s m #[.ref a0, .int x1, .int x2, .int x3, .int x4] below meth c H locs 0 0 (MQ below (va_Qv (fun (_ : Unit) => True) (fun _ => sgB (KT P) D vwCl base tys ad ks) (fun q : Nat => base ≤ q)) #[.ref a0, .int x1, .int x2, .int x3, .int x4] s 0 0 (fun q : Nat => base ≤ q)) (F0 m 3 ls []) := by
    intro N; induction N with
    | zero =>
      intro H locs ls z1_5 hG hS hl hz1_5 hN
      exact absurd hN (by have := iv_up hz1_5; omega)
    | succ N ih1 =>
      intro H locs ls z1_5 hG hS hl hz1_5 hN1
      refine lv_iload X.1 X.2.1 dX8_listWay_3 (lv_at hl 4 rfl) ?_
      refine lv_aload_n X.1 X.2.1 dX8_listWay_5 rfl (lv_at hl 0 rfl) ?_
      refine gf_X8_0 X hK hG h0 wl_2_35 dX8_listWay_6 (fun q2 hq2 kq2 => ?_)
      refine gf_X4_0 X hK hG hq2 wl_1_210 dX8_listWay_9 (fun q3 hq3 kq3 => ?_)
      refine lv_iconst (v := 3) X.1 X.2.1 dX8_listWay_12 (by decide +kernel) ?_
      refine al_21 X hK hG hq3 (iv_vpin (iv_c 3 (a := 3) (b := 3) (by decide +kernel)) (by decide +kernel)) dX8_listWay_13 (fun f4 hf4 => ?_)
      have of4 := hf4
      have hf4 : iv 0 5 f4 := sg_sp_rules hf4 (iv_c 3 (a := 3) (b := 3) (by decide +kernel)) (by decide +kernel) rfl
      refine lv_icmp_gt (tgt := 104) X.1 X.2.1 dX8_listWay_14 (by decide) (fun c5 => ?_) (fun c5 => ?_)
      · exact sg_vret X hr hlk hb hK hC hG hS dX8_listWay_104
      · refine lv_aload_n X.1 X.2.1 dX8_listWay_17 rfl (lv_at hl 0 rfl) ?_
        refine gg_X8_0 X hK hG h0 wl_2_35 kq2 dX8_listWay_18 ?_
        refine lv_iload_n X.1 X.2.1 dX8_listWay_21 rfl (lv_at hl 1 rfl) ?_
        refine lv_iload_n X.1 X.2.1 dX8_listWay_22 rfl (lv_at hl 2 rfl) ?_
        refine lv_iload X.1 X.2.1 dX8_listWay_23 (lv_at hl 4 rfl) ?_
        refine ca_X4_cutBits X hK hG hC (fun _ h => h) hS hb q2 hq2 x1 x2 z1_5 wl_4_227 hl.1 (rest := []) rfl (Nat.le_of_ble_eq_true rfl) ⟨Nat.le_of_ble_eq_true rfl, Nat.le_of_ble_eq_true rfl⟩ ⟨Nat.le_of_ble_eq_true rfl, Nat.le_of_ble_eq_true rfl⟩ dX8_listWay_25 (fun f6 locs hf6 hS => ?_)
        refine lv_istore (lv' := [(6, .int f6), (0, .ref a0), (1, .int x1), (2, .int x2), (4, .int x4), (5, .int z1_5)]) X.1 X.2.1 dX8_listWay_28 hl (by decide) rfl (fun ls hl => ?_)
        refine lv_iload X.1 X.2.1 dX8_listWay_30 (lv_at hl 0 rfl) ?_
        refine lv_if_eq (tgt := 55) X.1 X.2.1 dX8_listWay_32 (by decide) (fun c7 => ?_) (fun c7 => ?_)
        · exact sg_vret X hr hlk hb hK hC hG hS dX8_listWay_55
        · refine lv_iload X.1 X.2.1 dX8_listWay_35 (lv_at hl 4 rfl) ?_
          refine lv_iload X.1 X.2.1 dX8_listWay_37 (lv_at hl 0 rfl) ?_
          refine lv_iand X.1 X.2.1 dX8_listWay_39 ?_
          refine lv_topi (fun f8 ef8 => ?_)
          refine lv_iload X.1 X.2.1 dX8_listWay_40 (lv_at hl 0 rfl) ?_
          refine lv_icmp_ne (tgt := 55) X.1 X.2.1 dX8_listWay_42 (by decide) (fun c9 => ?_) (fun c9 => ?_)
          · exact sg_vret X hr hlk hb hK hC hG hS dX8_listWay_55
          · refine lv_aload_n X.1 X.2.1 dX8_listWay_45 rfl (lv_at hl 1 rfl) ?_
            refine gf_X8_8 X hK hG h0 wl_2_53 dX8_listWay_46 (fun f10 hf10 kf10 => ?_)
            refine lv_sipush (v := 270) X.1 X.2.1 dX8_listWay_49 (by decide +kernel) ?_
            refine lv_icmp_lt (tgt := 56) X.1 X.2.1 dX8_listWay_52 (by decide) (fun c11 => ?_) (fun c11 => ?_)
            · refine lv_aload_n X.1 X.2.1 dX8_listWay_56 rfl (lv_at hl 1 rfl) ?_
              refine gf_X8_6 X hK hG h0 wl_2_44 dX8_listWay_57 (fun q12 hq12 kq12 => ?_)
              refine lv_aload_n X.1 X.2.1 dX8_listWay_60 rfl (lv_at hl 1 rfl) ?_
              refine gg_X8_8 X hK hG h0 wl_2_53 kf10 dX8_listWay_61 ?_
              refine lv_bipush (v := 100) X.1 X.2.1 dX8_listWay_64 (by decide +kernel) ?_
              refine lv_iload_n X.1 X.2.1 dX8_listWay_66 rfl (lv_at hl 2 rfl) ?_
              refine lv_imul X.1 X.2.1 dX8_listWay_67 ?_
              refine lv_topi (fun f13 ef13 => ?_)
              refine lv_bipush (v := 10) X.1 X.2.1 dX8_listWay_68 (by decide +kernel) ?_
              refine lv_iload_n X.1 X.2.1 dX8_listWay_70 rfl (lv_at hl 3 rfl) ?_
              refine lv_imul X.1 X.2.1 dX8_listWay_71 ?_
              refine lv_topi (fun f14 ef14 => ?_)
              refine lv_iadd X.1 X.2.1 dX8_listWay_72 ?_
              refine lv_topi (fun f15 ef15 => ?_)
              refine lv_iload X.1 X.2.1 dX8_listWay_73 (lv_at hl 5 rfl) ?_
              refine lv_iadd X.1 X.2.1 dX8_listWay_75 ?_
              refine lv_topi (fun f16 ef16 => ?_)
              refine as_40 X hK hG hS hq12 (iv_vpin (iv_lt (b' := 269) c11 hf10 (iv_c 270 (a := 270) (b := 270) (by decide +kernel)) (by decide +kernel)) (by decide +kernel)) ⟨_, rfl, (iv_top _)⟩ dX8_listWay_76 (fun H locs hG hS ru17 => ?_)
              refine lv_aload_n X.1 X.2.1 dX8_listWay_77 rfl (lv_at hl 1 rfl) ?_
              refine gf_X8_7 X hK hG h0 wl_2_48 dX8_listWay_78 (fun q18 hq18 kq18 => ?_)
              refine lv_aload_n X.1 X.2.1 dX8_listWay_81 rfl (lv_at hl 1 rfl) ?_
              refine gg_X8_8 X hK hG h0 wl_2_53 (ru17 _ _ _ _ _ _ _ h0 rfl rfl (by decide) (fun z => z.elim) kf10) dX8_listWay_82 ?_
              refine lv_iload X.1 X.2.1 dX8_listWay_85 (lv_at hl 0 rfl) ?_
              refine as_41 X hK hG hS hq18 (iv_vpin (iv_lt (b' := 269) c11 hf10 (iv_c 270 (a := 270) (b := 270) (by decide +kernel)) (by decide +kernel)) (by decide +kernel)) ⟨_, rfl, (iv_top _)⟩ dX8_listWay_87 (fun H locs hG hS ru19 => ?_)
              refine lv_aload_n X.1 X.2.1 dX8_listWay_88 rfl (lv_at hl 1 rfl) ?_
              refine lv_dup X.1 X.2.1 dX8_listWay_89 rfl ?_
              refine gg_X8_8 X hK hG h0 wl_2_53 (ru19 _ _ _ _ _ _ _ h0 rfl rfl (by decide) (fun z => z.elim) (ru17 _ _ _ _ _ _ _ h0 rfl rfl (by decide) (fun z => z.elim) kf10)) dX8_listWay_90 ?_
              refine lv_iconst (v := 1) X.1 X.2.1 dX8_listWay_93 (by decide +kernel) ?_
              refine lv_iadd X.1 X.2.1 dX8_listWay_94 ?_
              refine lv_topi (fun f20 ef20 => ?_)
              refine pf_X8_8 X hK hG hS h0 wl_2_53 ⟨_, rfl, (iv_of (iv_add (a' := 1) (b' := 270) ef20 (iv_lt (b' := 269) c11 hf10 (iv_c 270 (a := 270) (b := 270) (by decide +kernel)) (by decide +kernel)) (iv_c 1 (a := 1) (b := 1) (by decide +kernel)) (by decide +kernel)) (a' := 0) (b' := 270) (by decide +kernel))⟩ dX8_listWay_95 (fun H locs hG hS ku21 ru21 => ?_)
              obtain ⟨y22, ey22⟩ : ∃ y : Int32, y = z1_5 + Int32.ofInt 1 := ⟨_, rfl⟩
              refine lv_iinc (v := y22) (lv' := [(5, .int y22), (6, .int f6), (0, .ref a0), (1, .int x1), (2, .int x2), (4, .int x4)]) X.1 X.2.1 dX8_listWay_98 hl (k := 5) rfl ey22.symm (by decide) rfl (fun ls hl => ?_)
              refine lv_goto (tgt := 3) X.1 X.2.1 dX8_listWay_101 (by decide) ?_
              exact ih1 H _ _ y22 hG hS (lv_sub hl [2, 3, 4, 5, 0] rfl) (iv_of (iv_add (a' := 2) (b' := 6) ey22 (iv_le (b' := 5) (iv_ge_of c5) hz1_5 hf4 (by decide +kernel)) (iv_c _ (a := 1) (b := 1) (by decide +kernel)) (by decide +kernel)) (a' := 1) (b' := 6) (by decide +kernel)) (iv_stepU ey22 (iv_le (b' := 5) (iv_ge_of c5) hz1_5 hf4 (by decide +kernel)) (by decide +kernel) hN1)
            · exact sg_vret X hr hlk hb hK hC hG hS dX8_listWay_55
  exact B1_3 _ s.heap _ _ x3 hG hS (lv_sub hl [1, 2, 3, 5, 0] rfl) (iv_of h3 (a' := 1) (b' := 6) (by decide +kernel)) (Nat.le_refl _)

theorem ca_X8_listWay   (X : CallFix p m c cc nL s args sg_tbl own) (hK : va_K D vwCl tys s) (hG : sgG (KT P) D vwCl (fun q : Nat => base ≤ q) tys ad ks H) (hC : sgC base s) (hS : va_S (fun q : Nat => base ≤ q) s.heap H locs) (hb : base ≤ s.heap.size) (a0 : Nat) (h0 : isK ad ks 8 a0) (x1 : Int32) (x2 : Int32) (x3 : Int32) (h3 : iv 1 2 x3) (x4 : Int32) (hl : Cond.methodLink own index yX8_listWay ∈ sg_tbl) (hsize : ls.size = nL) (hst : st0 = [.int x1, .int x2, .int x3, .int x4].reverse ++ .ref a0 :: rest) (hW : (rest.map fun v => v.category).sum ≤ 8) (hR : 3 ≤ R.frames ∧ 72 ≤ R.locals) (hf : cells ≤ R.cells ∧ slots ≤ R.slots) (hdg : decode cc pc = .ok (.invokevirtual index, 3)) (kk : ∀ (H1 : Heap) (locs1 : List Loc), sgG (KT P) D vwCl (fun q : Nat => base ≤ q) tys ad ks H1 → va_S (fun q : Nat => base ≤ q) s.heap H1 locs1 → W p l e R s m args below meth c H1 locs1 cells slots Q (F0 m (pc + 3) ls rest)) : W p l e R s m args below meth c H locs cells slots Q (F0 m pc ls st0) :=
  sg_callVv X hK hG hC hS hb (m_X8_listWay l a0 h0 x1 x2 x3 h3 x4) h0 (k := 8) (ci := 8) rfl (C := RX8) (T := TX8) (N := 9) rfl wl_4_226 wl_1_8 wl_4_225 wl_0_27 (n := 4) (by decide +kernel) rfl rfl rfl hl hsize hst hW hR hf hdg kk

set_option maxHeartbeats 8000000 in
set_option maxRecDepth 100000 in
theorem m_X8_listCuts (l : Launch) {D : va_G} {base : Nat} {tys : List (ClassId × FieldType)} {ad ks : List Nat} {P : sgPm} (a0 : Nat) (h0 : isK ad ks 8 a0) (x1 : Int32) : sgMv l (KT P) D vwCl base tys ad ks yX8_listCuts cX8_listCuts 3 none ({ frames := 3, cells := 0, slots := 0, locals := 72 }) [.ref a0, .int x1] := by
  refine sg_ofW (by decide +kernel) (Nat.le_of_ble_eq_true rfl) (fun p e s m below meth c X hr hlk hb hK hC hG ls hl => ?_)
  have hS : va_S (fun q : Nat => base ≤ q) s.heap s.heap [] := va_S.rf
  have hl : lv_has ls 3 [(0, .ref a0), (1, .int x1)] := hl
  refine lv_aload_n X.1 X.2.1 dX8_listCuts_0 rfl (lv_at hl 0 rfl) ?_
  refine lv_iconst (v := 0) X.1 X.2.1 dX8_listCuts_1 (by decide +kernel) ?_
  refine pf_X8_8 X hK hG hS h0 wl_2_53 ⟨_, rfl, (iv_of (iv_c 0 (a := 0) (b := 0) (by decide +kernel)) (a' := 0) (b' := 270) (by decide +kernel))⟩ dX8_listCuts_2 (fun H locs hG hS ku1 ru1 => ?_)
  refine lv_iconst (v := 0) X.1 X.2.1 dX8_listCuts_5 (by decide +kernel) ?_
  refine lv_istore_n (lv' := [(2, .int 0), (0, .ref a0), (1, .int x1)]) X.1 X.2.1 dX8_listCuts_6 rfl hl (by decide) rfl (fun ls hl => ?_)
  have B2_7 : ∀ (N : Nat) (H : Heap) (locs : List Loc) (ls : Array Slot) (z2_2 : Int32), sgG (KT P) D vwCl (fun q : Nat => base ≤ q) tys ad ks H → va_S (fun q : Nat => base ≤ q) s.heap H locs → lv_has ls 3 [(0, .ref a0), (1, .int x1), (2, .int z2_2)] → iv 0 30 z2_2 → (31 - z2_2.toInt).toNat ≤ N → W p l e (headSpec (Cond.code yX8_listCuts cX8_listCuts 3 none :: sg_tbl) ({ frames := 3, cells := 0, slots := 0, locals := 72 })).room s m #[.ref a0, .int x1] below meth c H locs 0 0 (MQ below (va_Qv (fun (_ : Unit) => True) (fun _ => sgB (KT P) D vwCl base tys ad ks) (fun q : Nat => base ≤ q)) #[.ref a0, .int x1] s 0 0 (fun q : Nat => base ≤ q)) (F0 m 7 ls []) := by
    intro N; induction N with
    | zero =>
      intro H locs ls z2_2 hG hS hl hz2_2 hN
      exact absurd hN (by have := iv_up hz2_2; omega)
    | succ N ih2 =>
      intro H locs ls z2_2 hG hS hl hz2_2 hN2
      refine lv_iload_n X.1 X.2.1 dX8_listCuts_7 rfl (lv_at hl 2 rfl) ?_
      refine lv_aload_n X.1 X.2.1 dX8_listCuts_8 rfl (lv_at hl 0 rfl) ?_
      refine gf_X8_0 X hK hG h0 wl_2_35 dX8_listCuts_9 (fun q3 hq3 kq3 => ?_)
      refine gf_X4_5 X hK hG hq3 wl_1_218 dX8_listCuts_12 (fun f4 hf4 kf4 => ?_)
      refine lv_icmp_ge (tgt := 40) X.1 X.2.1 dX8_listCuts_15 (by decide) (fun c5 => ?_) (fun c5 => ?_)
      · exact sg_vret X hr hlk hb hK hC hG hS dX8_listCuts_40
      · refine lv_aload_n X.1 X.2.1 dX8_listCuts_18 rfl (lv_at hl 0 rfl) ?_
        refine lv_iload_n X.1 X.2.1 dX8_listCuts_19 rfl (lv_at hl 2 rfl) ?_
        refine lv_iconst (v := 0) X.1 X.2.1 dX8_listCuts_20 (by decide +kernel) ?_
        refine lv_iconst (v := 1) X.1 X.2.1 dX8_listCuts_21 (by decide +kernel) ?_
        refine lv_iload_n X.1 X.2.1 dX8_listCuts_22 rfl (lv_at hl 1 rfl) ?_
        refine ca_X8_listWay X hK hG hC hS hb a0 h0 z2_2 0 1 (iv_of (iv_c 1 (a := 1) (b := 1) (by decide +kernel)) (a' := 1) (b' := 2) (by decide +kernel)) x1 wl_4_223 hl.1 (rest := []) rfl (Nat.le_of_ble_eq_true rfl) ⟨Nat.le_of_ble_eq_true rfl, Nat.le_of_ble_eq_true rfl⟩ ⟨Nat.le_of_ble_eq_true rfl, Nat.le_of_ble_eq_true rfl⟩ dX8_listCuts_23 (fun H locs hG hS => ?_)
        refine lv_aload_n X.1 X.2.1 dX8_listCuts_26 rfl (lv_at hl 0 rfl) ?_
        refine lv_iload_n X.1 X.2.1 dX8_listCuts_27 rfl (lv_at hl 2 rfl) ?_
        refine lv_iconst (v := 1) X.1 X.2.1 dX8_listCuts_28 (by decide +kernel) ?_
        refine lv_iconst (v := 2) X.1 X.2.1 dX8_listCuts_29 (by decide +kernel) ?_
        refine lv_iload_n X.1 X.2.1 dX8_listCuts_30 rfl (lv_at hl 1 rfl) ?_
        refine ca_X8_listWay X hK hG hC hS hb a0 h0 z2_2 1 2 (iv_of (iv_c 2 (a := 2) (b := 2) (by decide +kernel)) (a' := 1) (b' := 2) (by decide +kernel)) x1 wl_4_223 hl.1 (rest := []) rfl (Nat.le_of_ble_eq_true rfl) ⟨Nat.le_of_ble_eq_true rfl, Nat.le_of_ble_eq_true rfl⟩ ⟨Nat.le_of_ble_eq_true rfl, Nat.le_of_ble_eq_true rfl⟩ dX8_listCuts_31 (fun H locs hG hS => ?_)
        obtain ⟨y8, ey8⟩ : ∃ y : Int32, y = z2_2 + Int32.ofInt 1 := ⟨_, rfl⟩
        refine lv_iinc (v := y8) (lv' := [(2, .int y8), (0, .ref a0), (1, .int x1)]) X.1 X.2.1 dX8_listCuts_34 hl (k := 2) rfl ey8.symm (by decide) rfl (fun ls hl => ?_)
        refine lv_goto (tgt := 7) X.1 X.2.1 dX8_listCuts_37 (by decide) ?_
        exact ih2 H _ _ y8 hG hS (lv_sub hl [1, 2, 0] rfl) (iv_of (iv_add (a' := 1) (b' := 30) ey8 (iv_lt (b' := 29) (iv_gt_of c5) hz2_2 hf4 (by decide +kernel)) (iv_c _ (a := 1) (b := 1) (by decide +kernel)) (by decide +kernel)) (a' := 0) (b' := 30) (by decide +kernel)) (iv_stepU ey8 (iv_lt (b' := 29) (iv_gt_of c5) hz2_2 hf4 (by decide +kernel)) (by decide +kernel) hN2)
  exact B2_7 _ H _ _ 0 hG hS (lv_sub hl [1, 2, 0] rfl) (iv_of (iv_c 0 (a := 0) (b := 0) (by decide +kernel)) (a' := 0) (b' := 30) (by decide +kernel)) (Nat.le_refl _)

theorem ca_X8_listCuts   (X : CallFix p m c cc nL s args sg_tbl own) (hK : va_K D vwCl tys s) (hG : sgG (KT P) D vwCl (fun q : Nat => base ≤ q) tys ad ks H) (hC : sgC base s) (hS : va_S (fun q : Nat => base ≤ q) s.heap H locs) (hb : base ≤ s.heap.size) (a0 : Nat) (h0 : isK ad ks 8 a0) (x1 : Int32) (hl : Cond.methodLink own index yX8_listCuts ∈ sg_tbl) (hsize : ls.size = nL) (hst : st0 = [.int x1].reverse ++ .ref a0 :: rest) (hW : (rest.map fun v => v.category).sum ≤ 8) (hR : 4 ≤ R.frames ∧ 94 ≤ R.locals) (hf : cells ≤ R.cells ∧ slots ≤ R.slots) (hdg : decode cc pc = .ok (.invokevirtual index, 3)) (kk : ∀ (H1 : Heap) (locs1 : List Loc), sgG (KT P) D vwCl (fun q : Nat => base ≤ q) tys ad ks H1 → va_S (fun q : Nat => base ≤ q) s.heap H1 locs1 → W p l e R s m args below meth c H1 locs1 cells slots Q (F0 m (pc + 3) ls rest)) : W p l e R s m args below meth c H locs cells slots Q (F0 m pc ls st0) :=
  sg_callVv X hK hG hC hS hb (m_X8_listCuts l a0 h0 x1) h0 (k := 8) (ci := 8) rfl (C := RX8) (T := TX8) (N := 9) rfl wl_4_222 wl_1_8 wl_4_220 wl_4_221 (n := 1) (by decide +kernel) rfl rfl rfl hl hsize hst hW hR hf hdg kk
end
