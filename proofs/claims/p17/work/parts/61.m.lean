abbrev cJ6_numberOfLeadingZeros_0f7a4 : ByteArray := prog_20_method_47_code
def yJ6_numberOfLeadingZeros_0f7a4 : MethodName := ⟨RJ6, "numberOfLeadingZeros", "(I)I"⟩
abbrev cX12_goOdds : ByteArray := prog_14_method_121_code
def yX12_goOdds : MethodName := ⟨RX12, "goOdds", "(IIIIJ)J"⟩
theorem dJ6_numberOfLeadingZeros_0f7a4_0 : decode cJ6_numberOfLeadingZeros_0f7a4 0 = .ok (.iload_n 0, 1) := by decide +kernel
theorem dJ6_numberOfLeadingZeros_0f7a4_1 : decode cJ6_numberOfLeadingZeros_0f7a4 1 = .ok (.ifCond .gt 14, 3) := by decide +kernel
theorem dJ6_numberOfLeadingZeros_0f7a4_4 : decode cJ6_numberOfLeadingZeros_0f7a4 4 = .ok (.iload_n 0, 1) := by decide +kernel
theorem dJ6_numberOfLeadingZeros_0f7a4_5 : decode cJ6_numberOfLeadingZeros_0f7a4 5 = .ok (.ifCond .ne 8, 3) := by decide +kernel
theorem dJ6_numberOfLeadingZeros_0f7a4_8 : decode cJ6_numberOfLeadingZeros_0f7a4 8 = .ok (.bipush 32, 2) := by decide +kernel
theorem dJ6_numberOfLeadingZeros_0f7a4_10 : decode cJ6_numberOfLeadingZeros_0f7a4 10 = .ok (.goto 4, 3) := by decide +kernel
theorem dJ6_numberOfLeadingZeros_0f7a4_13 : decode cJ6_numberOfLeadingZeros_0f7a4 13 = .ok (.iconst 0, 1) := by decide +kernel
theorem dJ6_numberOfLeadingZeros_0f7a4_14 : decode cJ6_numberOfLeadingZeros_0f7a4 14 = .ok (.ireturn, 1) := by decide +kernel
theorem dJ6_numberOfLeadingZeros_0f7a4_15 : decode cJ6_numberOfLeadingZeros_0f7a4 15 = .ok (.bipush 31, 2) := by decide +kernel
theorem dJ6_numberOfLeadingZeros_0f7a4_17 : decode cJ6_numberOfLeadingZeros_0f7a4 17 = .ok (.istore_n 1, 1) := by decide +kernel
theorem dJ6_numberOfLeadingZeros_0f7a4_18 : decode cJ6_numberOfLeadingZeros_0f7a4 18 = .ok (.iload_n 0, 1) := by decide +kernel
theorem dJ6_numberOfLeadingZeros_0f7a4_19 : decode cJ6_numberOfLeadingZeros_0f7a4 19 = .ok (.ldc_w 264, 3) := by decide +kernel
theorem dJ6_numberOfLeadingZeros_0f7a4_22 : decode cJ6_numberOfLeadingZeros_0f7a4 22 = .ok (.if_icmp .lt 11, 3) := by decide +kernel
theorem dJ6_numberOfLeadingZeros_0f7a4_25 : decode cJ6_numberOfLeadingZeros_0f7a4 25 = .ok (.iinc 1 (-16), 3) := by decide +kernel
theorem dJ6_numberOfLeadingZeros_0f7a4_28 : decode cJ6_numberOfLeadingZeros_0f7a4 28 = .ok (.iload_n 0, 1) := by decide +kernel
theorem dJ6_numberOfLeadingZeros_0f7a4_29 : decode cJ6_numberOfLeadingZeros_0f7a4 29 = .ok (.bipush 16, 2) := by decide +kernel
theorem dJ6_numberOfLeadingZeros_0f7a4_31 : decode cJ6_numberOfLeadingZeros_0f7a4 31 = .ok (.iushr, 1) := by decide +kernel
theorem dJ6_numberOfLeadingZeros_0f7a4_32 : decode cJ6_numberOfLeadingZeros_0f7a4 32 = .ok (.istore_n 0, 1) := by decide +kernel
theorem dJ6_numberOfLeadingZeros_0f7a4_33 : decode cJ6_numberOfLeadingZeros_0f7a4 33 = .ok (.iload_n 0, 1) := by decide +kernel
theorem dJ6_numberOfLeadingZeros_0f7a4_34 : decode cJ6_numberOfLeadingZeros_0f7a4 34 = .ok (.sipush 256, 3) := by decide +kernel
theorem dJ6_numberOfLeadingZeros_0f7a4_37 : decode cJ6_numberOfLeadingZeros_0f7a4 37 = .ok (.if_icmp .lt 11, 3) := by decide +kernel
theorem dJ6_numberOfLeadingZeros_0f7a4_40 : decode cJ6_numberOfLeadingZeros_0f7a4 40 = .ok (.iinc 1 (-8), 3) := by decide +kernel
theorem dJ6_numberOfLeadingZeros_0f7a4_43 : decode cJ6_numberOfLeadingZeros_0f7a4 43 = .ok (.iload_n 0, 1) := by decide +kernel
theorem dJ6_numberOfLeadingZeros_0f7a4_44 : decode cJ6_numberOfLeadingZeros_0f7a4 44 = .ok (.bipush 8, 2) := by decide +kernel
theorem dJ6_numberOfLeadingZeros_0f7a4_46 : decode cJ6_numberOfLeadingZeros_0f7a4 46 = .ok (.iushr, 1) := by decide +kernel
theorem dJ6_numberOfLeadingZeros_0f7a4_47 : decode cJ6_numberOfLeadingZeros_0f7a4 47 = .ok (.istore_n 0, 1) := by decide +kernel
theorem dJ6_numberOfLeadingZeros_0f7a4_48 : decode cJ6_numberOfLeadingZeros_0f7a4 48 = .ok (.iload_n 0, 1) := by decide +kernel
theorem dJ6_numberOfLeadingZeros_0f7a4_49 : decode cJ6_numberOfLeadingZeros_0f7a4 49 = .ok (.bipush 16, 2) := by decide +kernel
theorem dJ6_numberOfLeadingZeros_0f7a4_51 : decode cJ6_numberOfLeadingZeros_0f7a4 51 = .ok (.if_icmp .lt 10, 3) := by decide +kernel
theorem dJ6_numberOfLeadingZeros_0f7a4_54 : decode cJ6_numberOfLeadingZeros_0f7a4 54 = .ok (.iinc 1 (-4), 3) := by decide +kernel
theorem dJ6_numberOfLeadingZeros_0f7a4_57 : decode cJ6_numberOfLeadingZeros_0f7a4 57 = .ok (.iload_n 0, 1) := by decide +kernel
theorem dJ6_numberOfLeadingZeros_0f7a4_58 : decode cJ6_numberOfLeadingZeros_0f7a4 58 = .ok (.iconst 4, 1) := by decide +kernel
theorem dJ6_numberOfLeadingZeros_0f7a4_59 : decode cJ6_numberOfLeadingZeros_0f7a4 59 = .ok (.iushr, 1) := by decide +kernel
theorem dJ6_numberOfLeadingZeros_0f7a4_60 : decode cJ6_numberOfLeadingZeros_0f7a4 60 = .ok (.istore_n 0, 1) := by decide +kernel
theorem dJ6_numberOfLeadingZeros_0f7a4_61 : decode cJ6_numberOfLeadingZeros_0f7a4 61 = .ok (.iload_n 0, 1) := by decide +kernel
theorem dJ6_numberOfLeadingZeros_0f7a4_62 : decode cJ6_numberOfLeadingZeros_0f7a4 62 = .ok (.iconst 4, 1) := by decide +kernel
theorem dJ6_numberOfLeadingZeros_0f7a4_63 : decode cJ6_numberOfLeadingZeros_0f7a4 63 = .ok (.if_icmp .lt 10, 3) := by decide +kernel
theorem dJ6_numberOfLeadingZeros_0f7a4_66 : decode cJ6_numberOfLeadingZeros_0f7a4 66 = .ok (.iinc 1 (-2), 3) := by decide +kernel
theorem dJ6_numberOfLeadingZeros_0f7a4_69 : decode cJ6_numberOfLeadingZeros_0f7a4 69 = .ok (.iload_n 0, 1) := by decide +kernel
theorem dJ6_numberOfLeadingZeros_0f7a4_70 : decode cJ6_numberOfLeadingZeros_0f7a4 70 = .ok (.iconst 2, 1) := by decide +kernel
theorem dJ6_numberOfLeadingZeros_0f7a4_71 : decode cJ6_numberOfLeadingZeros_0f7a4 71 = .ok (.iushr, 1) := by decide +kernel
theorem dJ6_numberOfLeadingZeros_0f7a4_72 : decode cJ6_numberOfLeadingZeros_0f7a4 72 = .ok (.istore_n 0, 1) := by decide +kernel
theorem dJ6_numberOfLeadingZeros_0f7a4_73 : decode cJ6_numberOfLeadingZeros_0f7a4 73 = .ok (.iload_n 1, 1) := by decide +kernel
theorem dJ6_numberOfLeadingZeros_0f7a4_74 : decode cJ6_numberOfLeadingZeros_0f7a4 74 = .ok (.iload_n 0, 1) := by decide +kernel
theorem dJ6_numberOfLeadingZeros_0f7a4_75 : decode cJ6_numberOfLeadingZeros_0f7a4 75 = .ok (.iconst 1, 1) := by decide +kernel
theorem dJ6_numberOfLeadingZeros_0f7a4_76 : decode cJ6_numberOfLeadingZeros_0f7a4 76 = .ok (.iushr, 1) := by decide +kernel
theorem dJ6_numberOfLeadingZeros_0f7a4_77 : decode cJ6_numberOfLeadingZeros_0f7a4 77 = .ok (.isub, 1) := by decide +kernel
theorem dJ6_numberOfLeadingZeros_0f7a4_78 : decode cJ6_numberOfLeadingZeros_0f7a4 78 = .ok (.ireturn, 1) := by decide +kernel
theorem dX12_goOdds_0 : decode cX12_goOdds 0 = .ok (.iload_n 2, 1) := by decide +kernel
theorem dX12_goOdds_1 : decode cX12_goOdds 1 = .ok (.iload_n 3, 1) := by decide +kernel
theorem dX12_goOdds_2 : decode cX12_goOdds 2 = .ok (.if_icmp .eq 10, 3) := by decide +kernel
theorem dX12_goOdds_5 : decode cX12_goOdds 5 = .ok (.lload 5, 2) := by decide +kernel
theorem dX12_goOdds_7 : decode cX12_goOdds 7 = .ok (.lconst 0, 1) := by decide +kernel
theorem dX12_goOdds_8 : decode cX12_goOdds 8 = .ok (.lcmp, 1) := by decide +kernel
theorem dX12_goOdds_9 : decode cX12_goOdds 9 = .ok (.ifCond .ne 5, 3) := by decide +kernel
theorem dX12_goOdds_12 : decode cX12_goOdds 12 = .ok (.lconst 0, 1) := by decide +kernel
theorem dX12_goOdds_13 : decode cX12_goOdds 13 = .ok (.lreturn, 1) := by decide +kernel
theorem dX12_goOdds_14 : decode cX12_goOdds 14 = .ok (.aload_n 0, 1) := by decide +kernel
theorem dX12_goOdds_15 : decode cX12_goOdds 15 = .ok (.iload_n 1, 1) := by decide +kernel
theorem dX12_goOdds_16 : decode cX12_goOdds 16 = .ok (.aload_n 0, 1) := by decide +kernel
theorem dX12_goOdds_17 : decode cX12_goOdds 17 = .ok (.getfield 52, 3) := by decide +kernel
theorem dX12_goOdds_20 : decode cX12_goOdds 20 = .ok (.iconst 1, 1) := by decide +kernel
theorem dX12_goOdds_21 : decode cX12_goOdds 21 = .ok (.iaload, 1) := by decide +kernel
theorem dX12_goOdds_22 : decode cX12_goOdds 22 = .ok (.aload_n 0, 1) := by decide +kernel
theorem dX12_goOdds_23 : decode cX12_goOdds 23 = .ok (.getfield 52, 3) := by decide +kernel
theorem dX12_goOdds_26 : decode cX12_goOdds 26 = .ok (.iconst 4, 1) := by decide +kernel
theorem dX12_goOdds_27 : decode cX12_goOdds 27 = .ok (.iaload, 1) := by decide +kernel
theorem dX12_goOdds_28 : decode cX12_goOdds 28 = .ok (.iload_n 2, 1) := by decide +kernel
theorem dX12_goOdds_29 : decode cX12_goOdds 29 = .ok (.iadd, 1) := by decide +kernel
theorem dX12_goOdds_30 : decode cX12_goOdds 30 = .ok (.invokevirtual 419, 3) := by decide +kernel
theorem dX12_goOdds_33 : decode cX12_goOdds 33 = .ok (.istore 7, 2) := by decide +kernel
theorem dX12_goOdds_35 : decode cX12_goOdds 35 = .ok (.iload 7, 2) := by decide +kernel
theorem dX12_goOdds_37 : decode cX12_goOdds 37 = .ok (.ifCond .ne 17, 3) := by decide +kernel
theorem dX12_goOdds_40 : decode cX12_goOdds 40 = .ok (.aload_n 0, 1) := by decide +kernel
theorem dX12_goOdds_41 : decode cX12_goOdds 41 = .ok (.iload_n 1, 1) := by decide +kernel
theorem dX12_goOdds_42 : decode cX12_goOdds 42 = .ok (.iload_n 2, 1) := by decide +kernel
theorem dX12_goOdds_43 : decode cX12_goOdds 43 = .ok (.iconst 1, 1) := by decide +kernel
theorem dX12_goOdds_44 : decode cX12_goOdds 44 = .ok (.iadd, 1) := by decide +kernel
theorem dX12_goOdds_45 : decode cX12_goOdds 45 = .ok (.iload_n 3, 1) := by decide +kernel
theorem dX12_goOdds_46 : decode cX12_goOdds 46 = .ok (.iload 4, 2) := by decide +kernel
theorem dX12_goOdds_48 : decode cX12_goOdds 48 = .ok (.lload 5, 2) := by decide +kernel
theorem dX12_goOdds_50 : decode cX12_goOdds 50 = .ok (.invokevirtual 531, 3) := by decide +kernel
theorem dX12_goOdds_53 : decode cX12_goOdds 53 = .ok (.lreturn, 1) := by decide +kernel
theorem dX12_goOdds_54 : decode cX12_goOdds 54 = .ok (.lload 5, 2) := by decide +kernel
theorem dX12_goOdds_56 : decode cX12_goOdds 56 = .ok (.iload 4, 2) := by decide +kernel
theorem dX12_goOdds_58 : decode cX12_goOdds 58 = .ok (.i2l, 1) := by decide +kernel
theorem dX12_goOdds_59 : decode cX12_goOdds 59 = .ok (.lmul, 1) := by decide +kernel
theorem dX12_goOdds_60 : decode cX12_goOdds 60 = .ok (.ldc2_w 535, 3) := by decide +kernel
theorem dX12_goOdds_63 : decode cX12_goOdds 63 = .ok (.ldiv, 1) := by decide +kernel
theorem dX12_goOdds_64 : decode cX12_goOdds 64 = .ok (.lstore 8, 2) := by decide +kernel
theorem dX12_goOdds_66 : decode cX12_goOdds 66 = .ok (.aload_n 0, 1) := by decide +kernel
theorem dX12_goOdds_67 : decode cX12_goOdds 67 = .ok (.iload_n 1, 1) := by decide +kernel
theorem dX12_goOdds_68 : decode cX12_goOdds 68 = .ok (.iload_n 2, 1) := by decide +kernel
theorem dX12_goOdds_69 : decode cX12_goOdds 69 = .ok (.iconst 1, 1) := by decide +kernel
theorem dX12_goOdds_70 : decode cX12_goOdds 70 = .ok (.iadd, 1) := by decide +kernel
theorem dX12_goOdds_71 : decode cX12_goOdds 71 = .ok (.iload_n 3, 1) := by decide +kernel
theorem dX12_goOdds_72 : decode cX12_goOdds 72 = .ok (.iload 4, 2) := by decide +kernel
theorem dX12_goOdds_74 : decode cX12_goOdds 74 = .ok (.lload 8, 2) := by decide +kernel
theorem dX12_goOdds_76 : decode cX12_goOdds 76 = .ok (.invokevirtual 531, 3) := by decide +kernel
theorem dX12_goOdds_79 : decode cX12_goOdds 79 = .ok (.lstore 10, 2) := by decide +kernel
theorem dX12_goOdds_81 : decode cX12_goOdds 81 = .ok (.lload 5, 2) := by decide +kernel
theorem dX12_goOdds_83 : decode cX12_goOdds 83 = .ok (.lload 8, 2) := by decide +kernel
theorem dX12_goOdds_85 : decode cX12_goOdds 85 = .ok (.lsub, 1) := by decide +kernel
theorem dX12_goOdds_86 : decode cX12_goOdds 86 = .ok (.lstore 12, 2) := by decide +kernel
theorem dX12_goOdds_88 : decode cX12_goOdds 88 = .ok (.lload 12, 2) := by decide +kernel
theorem dX12_goOdds_90 : decode cX12_goOdds 90 = .ok (.iload 7, 2) := by decide +kernel
theorem dX12_goOdds_92 : decode cX12_goOdds 92 = .ok (.invokestatic 333, 3) := by decide +kernel
theorem dX12_goOdds_95 : decode cX12_goOdds 95 = .ok (.i2l, 1) := by decide +kernel
theorem dX12_goOdds_96 : decode cX12_goOdds 96 = .ok (.ldiv, 1) := by decide +kernel
theorem dX12_goOdds_97 : decode cX12_goOdds 97 = .ok (.lstore 14, 2) := by decide +kernel
theorem dX12_goOdds_99 : decode cX12_goOdds 99 = .ok (.bipush 31, 2) := by decide +kernel
theorem dX12_goOdds_101 : decode cX12_goOdds 101 = .ok (.iload 7, 2) := by decide +kernel
theorem dX12_goOdds_103 : decode cX12_goOdds 103 = .ok (.invokestatic 537, 3) := by decide +kernel
theorem dX12_goOdds_106 : decode cX12_goOdds 106 = .ok (.isub, 1) := by decide +kernel
theorem dX12_goOdds_107 : decode cX12_goOdds 107 = .ok (.istore 16, 2) := by decide +kernel
theorem dX12_goOdds_109 : decode cX12_goOdds 109 = .ok (.iconst 0, 1) := by decide +kernel
theorem dX12_goOdds_110 : decode cX12_goOdds 110 = .ok (.istore 17, 2) := by decide +kernel
theorem dX12_goOdds_112 : decode cX12_goOdds 112 = .ok (.iload 17, 2) := by decide +kernel
theorem dX12_goOdds_114 : decode cX12_goOdds 114 = .ok (.aload_n 0, 1) := by decide +kernel
theorem dX12_goOdds_115 : decode cX12_goOdds 115 = .ok (.getfield 302, 3) := by decide +kernel
theorem dX12_goOdds_118 : decode cX12_goOdds 118 = .ok (.if_icmp .ge 89, 3) := by decide +kernel
theorem dX12_goOdds_121 : decode cX12_goOdds 121 = .ok (.iload 7, 2) := by decide +kernel
theorem dX12_goOdds_123 : decode cX12_goOdds 123 = .ok (.iload 17, 2) := by decide +kernel
theorem dX12_goOdds_125 : decode cX12_goOdds 125 = .ok (.invokestatic 227, 3) := by decide +kernel
theorem dX12_goOdds_128 : decode cX12_goOdds 128 = .ok (.ifCond .ne 6, 3) := by decide +kernel
theorem dX12_goOdds_131 : decode cX12_goOdds 131 = .ok (.goto 70, 3) := by decide +kernel
theorem dX12_goOdds_134 : decode cX12_goOdds 134 = .ok (.iload 17, 2) := by decide +kernel
theorem dX12_goOdds_136 : decode cX12_goOdds 136 = .ok (.iload 16, 2) := by decide +kernel
theorem dX12_goOdds_138 : decode cX12_goOdds 138 = .ok (.if_icmp .ne 8, 3) := by decide +kernel
theorem dX12_goOdds_141 : decode cX12_goOdds 141 = .ok (.lload 12, 2) := by decide +kernel
theorem dX12_goOdds_143 : decode cX12_goOdds 143 = .ok (.goto 5, 3) := by decide +kernel
theorem dX12_goOdds_146 : decode cX12_goOdds 146 = .ok (.lload 14, 2) := by decide +kernel
theorem dX12_goOdds_148 : decode cX12_goOdds 148 = .ok (.lstore 18, 2) := by decide +kernel
theorem dX12_goOdds_150 : decode cX12_goOdds 150 = .ok (.lload 12, 2) := by decide +kernel
theorem dX12_goOdds_152 : decode cX12_goOdds 152 = .ok (.lload 18, 2) := by decide +kernel
theorem dX12_goOdds_154 : decode cX12_goOdds 154 = .ok (.lsub, 1) := by decide +kernel
theorem dX12_goOdds_155 : decode cX12_goOdds 155 = .ok (.lstore 12, 2) := by decide +kernel
theorem dX12_goOdds_157 : decode cX12_goOdds 157 = .ok (.iload_n 1, 1) := by decide +kernel
theorem dX12_goOdds_158 : decode cX12_goOdds 158 = .ok (.iconst 1, 1) := by decide +kernel
theorem dX12_goOdds_159 : decode cX12_goOdds 159 = .ok (.iload 17, 2) := by decide +kernel
theorem dX12_goOdds_161 : decode cX12_goOdds 161 = .ok (.ishl, 1) := by decide +kernel
theorem dX12_goOdds_162 : decode cX12_goOdds 162 = .ok (.ior, 1) := by decide +kernel
theorem dX12_goOdds_163 : decode cX12_goOdds 163 = .ok (.istore 20, 2) := by decide +kernel
theorem dX12_goOdds_165 : decode cX12_goOdds 165 = .ok (.lload 10, 2) := by decide +kernel
theorem dX12_goOdds_167 : decode cX12_goOdds 167 = .ok (.iload 20, 2) := by decide +kernel
theorem dX12_goOdds_169 : decode cX12_goOdds 169 = .ok (.aload_n 0, 1) := by decide +kernel
theorem dX12_goOdds_170 : decode cX12_goOdds 170 = .ok (.getfield 37, 3) := by decide +kernel
theorem dX12_goOdds_173 : decode cX12_goOdds 173 = .ok (.invokestatic 269, 3) := by decide +kernel
theorem dX12_goOdds_176 : decode cX12_goOdds 176 = .ok (.ifCond .eq 8, 3) := by decide +kernel
theorem dX12_goOdds_179 : decode cX12_goOdds 179 = .ok (.lload 18, 2) := by decide +kernel
theorem dX12_goOdds_181 : decode cX12_goOdds 181 = .ok (.goto 17, 3) := by decide +kernel
theorem dX12_goOdds_184 : decode cX12_goOdds 184 = .ok (.aload_n 0, 1) := by decide +kernel
theorem dX12_goOdds_185 : decode cX12_goOdds 185 = .ok (.iload 20, 2) := by decide +kernel
theorem dX12_goOdds_187 : decode cX12_goOdds 187 = .ok (.iload_n 2, 1) := by decide +kernel
theorem dX12_goOdds_188 : decode cX12_goOdds 188 = .ok (.iconst 1, 1) := by decide +kernel
theorem dX12_goOdds_189 : decode cX12_goOdds 189 = .ok (.iadd, 1) := by decide +kernel
theorem dX12_goOdds_190 : decode cX12_goOdds 190 = .ok (.iload_n 3, 1) := by decide +kernel
theorem dX12_goOdds_191 : decode cX12_goOdds 191 = .ok (.iload 4, 2) := by decide +kernel
theorem dX12_goOdds_193 : decode cX12_goOdds 193 = .ok (.lload 18, 2) := by decide +kernel
theorem dX12_goOdds_195 : decode cX12_goOdds 195 = .ok (.invokevirtual 531, 3) := by decide +kernel
theorem dX12_goOdds_198 : decode cX12_goOdds 198 = .ok (.ladd, 1) := by decide +kernel
theorem dX12_goOdds_199 : decode cX12_goOdds 199 = .ok (.lstore 10, 2) := by decide +kernel
theorem dX12_goOdds_201 : decode cX12_goOdds 201 = .ok (.iinc 17 1, 3) := by decide +kernel
theorem dX12_goOdds_204 : decode cX12_goOdds 204 = .ok (.goto (-92), 3) := by decide +kernel
theorem dX12_goOdds_207 : decode cX12_goOdds 207 = .ok (.lload 10, 2) := by decide +kernel
theorem dX12_goOdds_209 : decode cX12_goOdds 209 = .ok (.lreturn, 1) := by decide +kernel
theorem dX12_perform_22 : decode cX12_perform 22 = .ok (.iconst 0, 1) := by decide +kernel
theorem dX12_perform_23 : decode cX12_perform 23 = .ok (.istore_n 2, 1) := by decide +kernel
theorem dX12_perform_24 : decode cX12_perform 24 = .ok (.iload_n 2, 1) := by decide +kernel
theorem dX12_perform_25 : decode cX12_perform 25 = .ok (.aload_n 0, 1) := by decide +kernel
theorem dX12_perform_26 : decode cX12_perform 26 = .ok (.getfield 49, 3) := by decide +kernel
theorem dX12_perform_29 : decode cX12_perform 29 = .ok (.iload_n 1, 1) := by decide +kernel
theorem dX12_perform_30 : decode cX12_perform 30 = .ok (.iaload, 1) := by decide +kernel
theorem dX12_perform_31 : decode cX12_perform 31 = .ok (.if_icmp .ge 60, 3) := by decide +kernel
theorem dX12_perform_34 : decode cX12_perform 34 = .ok (.iconst 4, 1) := by decide +kernel
theorem dX12_perform_35 : decode cX12_perform 35 = .ok (.bipush 16, 2) := by decide +kernel
theorem dX12_perform_37 : decode cX12_perform 37 = .ok (.iload_n 1, 1) := by decide +kernel
theorem dX12_perform_38 : decode cX12_perform 38 = .ok (.imul, 1) := by decide +kernel
theorem dX12_perform_39 : decode cX12_perform 39 = .ok (.iload_n 2, 1) := by decide +kernel
theorem dX12_perform_40 : decode cX12_perform 40 = .ok (.iadd, 1) := by decide +kernel
theorem dX12_perform_41 : decode cX12_perform 41 = .ok (.imul, 1) := by decide +kernel
theorem dX12_perform_42 : decode cX12_perform 42 = .ok (.istore_n 3, 1) := by decide +kernel
theorem dX12_perform_43 : decode cX12_perform 43 = .ok (.aload_n 0, 1) := by decide +kernel
theorem dX12_perform_44 : decode cX12_perform 44 = .ok (.aload_n 0, 1) := by decide +kernel
theorem dX12_perform_45 : decode cX12_perform 45 = .ok (.getfield 52, 3) := by decide +kernel
theorem dX12_perform_48 : decode cX12_perform 48 = .ok (.iload_n 3, 1) := by decide +kernel
theorem dX12_perform_49 : decode cX12_perform 49 = .ok (.invokevirtual 453, 3) := by decide +kernel
theorem dX12_perform_52 : decode cX12_perform 52 = .ok (.istore 4, 2) := by decide +kernel
theorem dX12_perform_54 : decode cX12_perform 54 = .ok (.aload_n 0, 1) := by decide +kernel
theorem dX12_perform_55 : decode cX12_perform 55 = .ok (.aload_n 0, 1) := by decide +kernel
theorem dX12_perform_56 : decode cX12_perform 56 = .ok (.getfield 52, 3) := by decide +kernel
theorem dX12_perform_59 : decode cX12_perform 59 = .ok (.iload_n 3, 1) := by decide +kernel
theorem dX12_perform_60 : decode cX12_perform 60 = .ok (.iload 4, 2) := by decide +kernel
theorem dX12_perform_62 : decode cX12_perform 62 = .ok (.invokevirtual 457, 3) := by decide +kernel
theorem dX12_perform_65 : decode cX12_perform 65 = .ok (.ifCond .ne 5, 3) := by decide +kernel
theorem dX12_perform_68 : decode cX12_perform 68 = .ok (.iload_n 2, 1) := by decide +kernel
theorem dX12_perform_69 : decode cX12_perform 69 = .ok (.ireturn, 1) := by decide +kernel
theorem dX12_perform_70 : decode cX12_perform 70 = .ok (.aload_n 0, 1) := by decide +kernel
theorem dX12_perform_71 : decode cX12_perform 71 = .ok (.invokevirtual 379, 3) := by decide +kernel
theorem dX12_perform_74 : decode cX12_perform 74 = .ok (.aload_n 0, 1) := by decide +kernel
theorem dX12_perform_75 : decode cX12_perform 75 = .ok (.aload_n 0, 1) := by decide +kernel
theorem dX12_perform_76 : decode cX12_perform 76 = .ok (.getfield 52, 3) := by decide +kernel
theorem dX12_perform_79 : decode cX12_perform 79 = .ok (.iload_n 3, 1) := by decide +kernel
theorem dX12_perform_80 : decode cX12_perform 80 = .ok (.iload 4, 2) := by decide +kernel
theorem dX12_perform_82 : decode cX12_perform 82 = .ok (.invokevirtual 461, 3) := by decide +kernel
theorem dX12_perform_85 : decode cX12_perform 85 = .ok (.iinc 2 1, 3) := by decide +kernel
theorem dX12_perform_88 : decode cX12_perform 88 = .ok (.goto (-64), 3) := by decide +kernel
theorem dX12_perform_91 : decode cX12_perform 91 = .ok (.iload_n 2, 1) := by decide +kernel
theorem dX12_perform_92 : decode cX12_perform 92 = .ok (.ireturn, 1) := by decide +kernel
theorem dX12_run_24 : decode cX12_run 24 = .ok (.aload_n 0, 1) := by decide +kernel
theorem dX12_run_25 : decode cX12_run 25 = .ok (.getfield 52, 3) := by decide +kernel
theorem dX12_run_28 : decode cX12_run 28 = .ok (.aload_n 0, 1) := by decide +kernel
theorem dX12_run_29 : decode cX12_run 29 = .ok (.getfield 55, 3) := by decide +kernel
theorem dX12_run_32 : decode cX12_run 32 = .ok (.invokestatic 449, 3) := by decide +kernel
theorem dX12_run_35 : decode cX12_run 35 = .ok (.iconst 0, 1) := by decide +kernel
theorem dX12_run_36 : decode cX12_run 36 = .ok (.istore_n 2, 1) := by decide +kernel
theorem dX12_run_37 : decode cX12_run 37 = .ok (.iload_n 2, 1) := by decide +kernel
theorem dX12_run_38 : decode cX12_run 38 = .ok (.aload_n 0, 1) := by decide +kernel
theorem dX12_run_39 : decode cX12_run 39 = .ok (.getfield 49, 3) := by decide +kernel
theorem dX12_run_42 : decode cX12_run 42 = .ok (.iload_n 1, 1) := by decide +kernel
theorem dX12_run_43 : decode cX12_run 43 = .ok (.iaload, 1) := by decide +kernel
theorem dX12_run_44 : decode cX12_run 44 = .ok (.if_icmp .ge 56, 3) := by decide +kernel
theorem dX12_run_47 : decode cX12_run 47 = .ok (.iconst 4, 1) := by decide +kernel
theorem dX12_run_48 : decode cX12_run 48 = .ok (.bipush 16, 2) := by decide +kernel
theorem dX12_run_50 : decode cX12_run 50 = .ok (.iload_n 1, 1) := by decide +kernel
theorem dX12_run_51 : decode cX12_run 51 = .ok (.imul, 1) := by decide +kernel
theorem dX12_run_52 : decode cX12_run 52 = .ok (.iload_n 2, 1) := by decide +kernel
theorem dX12_run_53 : decode cX12_run 53 = .ok (.iadd, 1) := by decide +kernel
theorem dX12_run_54 : decode cX12_run 54 = .ok (.imul, 1) := by decide +kernel
theorem dX12_run_55 : decode cX12_run 55 = .ok (.istore_n 3, 1) := by decide +kernel
theorem dX12_run_56 : decode cX12_run 56 = .ok (.aload_n 0, 1) := by decide +kernel
theorem dX12_run_57 : decode cX12_run 57 = .ok (.aload_n 0, 1) := by decide +kernel
theorem dX12_run_58 : decode cX12_run 58 = .ok (.getfield 55, 3) := by decide +kernel
theorem dX12_run_61 : decode cX12_run 61 = .ok (.iload_n 3, 1) := by decide +kernel
theorem dX12_run_62 : decode cX12_run 62 = .ok (.invokevirtual 453, 3) := by decide +kernel
theorem dX12_run_65 : decode cX12_run 65 = .ok (.istore 4, 2) := by decide +kernel
theorem dX12_run_67 : decode cX12_run 67 = .ok (.aload_n 0, 1) := by decide +kernel
theorem dX12_run_68 : decode cX12_run 68 = .ok (.aload_n 0, 1) := by decide +kernel
theorem dX12_run_69 : decode cX12_run 69 = .ok (.getfield 55, 3) := by decide +kernel
theorem dX12_run_72 : decode cX12_run 72 = .ok (.iload_n 3, 1) := by decide +kernel
theorem dX12_run_73 : decode cX12_run 73 = .ok (.iload 4, 2) := by decide +kernel
theorem dX12_run_75 : decode cX12_run 75 = .ok (.invokevirtual 457, 3) := by decide +kernel
theorem dX12_run_78 : decode cX12_run 78 = .ok (.ifCond .ne 5, 3) := by decide +kernel
theorem dX12_run_81 : decode cX12_run 81 = .ok (.iload_n 2, 1) := by decide +kernel
theorem dX12_run_82 : decode cX12_run 82 = .ok (.ireturn, 1) := by decide +kernel
theorem dX12_run_83 : decode cX12_run 83 = .ok (.aload_n 0, 1) := by decide +kernel
theorem dX12_run_84 : decode cX12_run 84 = .ok (.aload_n 0, 1) := by decide +kernel
theorem dX12_run_85 : decode cX12_run 85 = .ok (.getfield 55, 3) := by decide +kernel
theorem dX12_run_88 : decode cX12_run 88 = .ok (.iload_n 3, 1) := by decide +kernel
theorem dX12_run_89 : decode cX12_run 89 = .ok (.iload 4, 2) := by decide +kernel
theorem dX12_run_91 : decode cX12_run 91 = .ok (.invokevirtual 461, 3) := by decide +kernel
theorem dX12_run_94 : decode cX12_run 94 = .ok (.iinc 2 1, 3) := by decide +kernel
theorem dX12_run_97 : decode cX12_run 97 = .ok (.goto (-60), 3) := by decide +kernel
theorem dX12_run_100 : decode cX12_run 100 = .ok (.iconst (-1), 1) := by decide +kernel
theorem dX12_run_101 : decode cX12_run 101 = .ok (.ireturn, 1) := by decide +kernel
theorem wl_6_211 : (.fieldLink RX12 55 "LawnAheadModel" "trial" "[I" : Cond) ∈ sg_tbl := tb_6 _ (List.mem_of_getElem? (i := 211) (by decide +kernel)) (by decide +kernel)
theorem wl_8_206 : (.methodLink RX12 453 yX12_cellOf : Cond) ∈ sg_tbl := tb_8 _ (List.mem_of_getElem? (i := 206) (by decide +kernel)) (by decide +kernel)
theorem wl_8_215 : (.methodLink RX12 457 yX12_canMove : Cond) ∈ sg_tbl := tb_8 _ (List.mem_of_getElem? (i := 215) (by decide +kernel)) (by decide +kernel)
theorem wl_8_219 : (.methodLink RX12 461 yX12_moves : Cond) ∈ sg_tbl := tb_8 _ (List.mem_of_getElem? (i := 219) (by decide +kernel)) (by decide +kernel)
theorem wl_9_128 : (.constantLong RX12 535 (100) : Cond) ∈ sg_tbl := tb_9 _ (List.mem_of_getElem? (i := 128) (by decide +kernel)) (by decide +kernel)
theorem wl_9_131 : (.methodLink RX12 531 yX12_goOdds : Cond) ∈ sg_tbl := tb_9 _ (List.mem_of_getElem? (i := 131) (by decide +kernel)) (by decide +kernel)
theorem wl_9_135 : (.methodLink RX12 537 yJ6_numberOfLeadingZeros_0f7a4 : Cond) ∈ sg_tbl := tb_9 _ (List.mem_of_getElem? (i := 135) (by decide +kernel)) (by decide +kernel)
theorem wl_9_137 : (.code yJ6_numberOfLeadingZeros_0f7a4 cJ6_numberOfLeadingZeros_0f7a4 2 (some .int) : Cond) ∈ sg_tbl := tb_9 _ (List.mem_of_getElem? (i := 137) (by decide +kernel)) (by decide +kernel)
theorem wl_9_136 : (.static yJ6_numberOfLeadingZeros_0f7a4 : Cond) ∈ sg_tbl := tb_9 _ (List.mem_of_getElem? (i := 136) (by decide +kernel)) (by decide +kernel)
theorem wl_9_134 : (.code yX12_goOdds cX12_goOdds 21 (some .long) : Cond) ∈ sg_tbl := tb_9 _ (List.mem_of_getElem? (i := 134) (by decide +kernel)) (by decide +kernel)
theorem wl_9_133 : (.instanceMethod yX12_goOdds : Cond) ∈ sg_tbl := tb_9 _ (List.mem_of_getElem? (i := 133) (by decide +kernel)) (by decide +kernel)
theorem wl_0_113 : (.selects RX12 yX12_goOdds yX12_goOdds : Cond) ∈ sg_tbl := tb_0 _ (List.mem_of_getElem? (i := 113) (by decide +kernel)) (by decide +kernel)
section
variable {p : Program} {l : Launch} {e : Env} {R : Room} {s : State} {m : MethodId} {args : Array Value} {below : List Frame} {meth : Method} {c : Code} {H : Heap} {locs : List Loc} {cells slots : Nat} {Q : State → Prop} {cc : ByteArray} {nL pc : Nat} {ls : Array Slot} {rest : List Value} {own : String} {D : va_G} {A : Nat → Prop} {tys : List (ClassId × FieldType)} {ad ks : List Nat} {P : sgPm} {H0 : Heap} {index : Nat} {base : Nat} {st0 : List Value} {a : Nat}
theorem gf_X12_33   (X : CallFix p m c cc nL s args sg_tbl own) (hK : va_K D vwCl tys s) (hG : sgG (KT P) D vwCl A tys ad ks H) (ha : isK ad ks 12 a) (hl : Cond.fieldLink own index "LawnAheadModel" "trial" "[I" ∈ sg_tbl) (hdg : decode cc pc = .ok (.getfield index, 3)) (kk : ∀ x : Nat, isK ad ks 55 x → fld D H 12 a 33 (.ref x) → W p l e R s m args below meth c H locs cells slots Q (F0 m (pc + 3) ls (.ref x :: rest))) : W p l e R s m args below meth c H locs cells slots Q (F0 m pc ls (.ref a :: rest)) :=
  sg_get X hK hG ha (k := 12) (ci := 12) rfl (C := RX12) (T := TX12) (N := 53) rfl inL_X12 33 (by decide) rfl hl (fun _ h => h) hdg (fun v hv hf => by
    obtain ⟨h1, -⟩ | ⟨x, rfl, hx⟩ := hv
    · cases h1
    · exact kk x hx hf)
set_option maxHeartbeats 8000000 in
set_option maxRecDepth 100000 in
theorem m_X12_run_1 (l : Launch) {D : va_G} {base : Nat} {tys : List (ClassId × FieldType)} {ad ks : List Nat} {P : sgPm} (hp4 : P.2.2.2.2.1 = true) (a0 : Nat) (h0 : isK ad ks 12 a0) (x1 : Int32) (hN : sgN P + 16 ≤ 1000000000) : Met l yX12_run (Cond.code yX12_run cX12_run 5 (some .int) :: sg_tbl) ({ frames := 37, cells := 0, slots := 0, locals := 866 }) (va_Pc [.ref a0, .int x1] (sgB (KT P) D vwCl base tys ad ks)) (va_Qi (fun r (u : Int32) => u = r ∧ (fun r : Int32 => True) r) (fun u t => sgB (KT (sgAt P (sgN P + 16))) D vwCl base tys ad ks t) (fun q : Nat => base ≤ q)) 0 0 (fun q : Nat => base ≤ q) := by
  refine sg_ofW (by decide +kernel) (Nat.le_of_ble_eq_true rfl) (fun p e s m below meth c X hr hlk hb hK hC hG ls hl => ?_)
  have hS : va_S (fun q : Nat => base ≤ q) s.heap s.heap [] := va_S.rf
  have hl : lv_has ls 5 [(0, .ref a0), (1, .int x1)] := hl
  refine lv_aload_n X.1 X.2.1 dX12_run_0 rfl (lv_at hl 0 rfl) ?_
  refine lv_iconst (v := 0) X.1 X.2.1 dX12_run_1 (by decide +kernel) ?_
  refine pf_X12_0 X hK hG hS h0 wl_6_178 ⟨_, rfl, (iv_top _)⟩ dX12_run_2 (fun H locs hG hS ku1 ru1 => ?_)
  refine lv_aload_n X.1 X.2.1 dX12_run_5 rfl (lv_at hl 0 rfl) ?_
  refine lv_iload_n X.1 X.2.1 dX12_run_6 rfl (lv_at hl 1 rfl) ?_
  refine ca_X12_isGame X hK hG hC (fun _ h => h) hS hb a0 h0 x1 wl_8_195 hl.1 (rest := []) rfl (Nat.le_of_ble_eq_true rfl) ⟨Nat.le_of_ble_eq_true rfl, Nat.le_of_ble_eq_true rfl⟩ ⟨Nat.le_of_ble_eq_true rfl, Nat.le_of_ble_eq_true rfl⟩ dX12_run_7 (fun f2 locs hf2 hS => ?_)
  refine lv_if_eq (tgt := 20) X.1 X.2.1 dX12_run_10 (by decide) (fun c3 => ?_) (fun c3 => ?_)
  · refine lv_ldcw X.1 X.2.1 X.2.2.2.1 (X.2.2.2.2 _ wl_8_190) dX12_run_20 ?_
    have hG : sgG (KT (sgAt P (sgN P + 16))) D vwCl _ tys ad ks _ := sg_moreN (P := P) (show (sgN P) ≤ (sgN P + 16) from by omega) hG
    exact sg_iret2 X hr hlk hS trivial (fun t ht hW => sg_post hb hK hC hG hS ht hW) dX12_run_23
  · refine lv_aload_n X.1 X.2.1 dX12_run_13 rfl (lv_at hl 0 rfl) ?_
    refine gf_X12_23s X hK hG h0 hp4 wl_6_201 dX12_run_14 (fun f4 hf4 kf4 => ?_)
    refine lv_if_ne (tgt := 24) X.1 X.2.1 dX12_run_17 (by decide) (fun c5 => ?_) (fun c5 => ?_)
    · refine lv_aload_n X.1 X.2.1 dX12_run_24 rfl (lv_at hl 0 rfl) ?_
      refine gf_X12_32 X hK hG h0 wl_6_210 dX12_run_25 (fun q6 hq6 kq6 => ?_)
      refine lv_aload_n X.1 X.2.1 dX12_run_28 rfl (lv_at hl 0 rfl) ?_
      refine gf_X12_33 X hK hG h0 wl_6_211 dX12_run_29 (fun q7 hq7 kq7 => ?_)
      refine ca_X12_copy_t X hK hG hC hS hb q6 hq6 q7 hq7 wl_8_203 hl.1 (rest := []) rfl (Nat.le_of_ble_eq_true rfl) ⟨Nat.le_of_ble_eq_true rfl, Nat.le_of_ble_eq_true rfl⟩ ⟨Nat.le_of_ble_eq_true rfl, Nat.le_of_ble_eq_true rfl⟩ dX12_run_32 (fun H locs hG hS => ?_)
      refine lv_iconst (v := 0) X.1 X.2.1 dX12_run_35 (by decide +kernel) ?_
      refine lv_istore_n (lv' := [(2, .int 0), (0, .ref a0), (1, .int x1)]) X.1 X.2.1 dX12_run_36 rfl hl (by decide) rfl (fun ls hl => ?_)
      have B9_37 : ∀ (N : Nat) (H : Heap) (locs : List Loc) (ls : Array Slot) (z9_2 : Int32) (n9 : Nat), sgN P ≤ n9 → (n9 : Int) ≤ sgN P + z9_2.toInt → sgG (KT (sgAt P n9)) D vwCl (fun q : Nat => base ≤ q) tys ad ks H → va_S (fun q : Nat => base ≤ q) s.heap H locs → lv_has ls 5 [(0, .ref a0), (1, .int x1), (2, .int z9_2)] → iv 0 16 z9_2 → (17 - z9_2.toInt).toNat ≤ N → W p l e (headSpec (Cond.code yX12_run cX12_run 5 (some .int) :: sg_tbl) ({ frames := 37, cells := 0, slots := 0, locals := 866 })).room s m #[.ref a0, .int x1] below meth c H locs 0 0 (MQ below (va_Qi (fun r (u : Int32) => u = r ∧ (fun r : Int32 => True) r) (fun u t => sgB (KT (sgAt P (sgN P + 16))) D vwCl base tys ad ks t) (fun q : Nat => base ≤ q)) #[.ref a0, .int x1] s 0 0 (fun q : Nat => base ≤ q)) (F0 m 37 ls []) := by
        intro N; induction N with
        | zero =>
          intro H locs ls z9_2 n9 jn9 jo9 hG hS hl hz9_2 hN
          exact absurd hN (by have := iv_up hz9_2; omega)
        | succ N ih9 =>
          intro H locs ls z9_2 n9 jn9 jo9 hG hS hl hz9_2 hN9
          refine lv_iload_n X.1 X.2.1 dX12_run_37 rfl (lv_at hl 2 rfl) ?_
          refine lv_aload_n X.1 X.2.1 dX12_run_38 rfl (lv_at hl 0 rfl) ?_
          refine gf_X12_22 X hK hG h0 wl_6_200 dX12_run_39 (fun q10 hq10 kq10 => ?_)
          refine lv_iload_n X.1 X.2.1 dX12_run_42 rfl (lv_at hl 1 rfl) ?_
          refine al_53 X hK hG hq10 (iv_vpin (hf2.2 c3) (by decide +kernel)) dX12_run_43 (fun f11 hf11 => ?_)
          have of11 := hf11
          have hf11 : iv 0 16 f11 := sg_glr hf11
          refine lv_icmp_ge (tgt := 100) X.1 X.2.1 dX12_run_44 (by decide) (fun c12 => ?_) (fun c12 => ?_)
          · refine lv_iconst (v := (-1)) X.1 X.2.1 dX12_run_100 (by decide +kernel) ?_
            have bq13 : 0 ≤ x1.toInt ∧ x1.toInt ≤ 3 := (hf2.2 c3)
            have bq14 : 0 ≤ z9_2.toInt ∧ z9_2.toInt ≤ 16 := hz9_2
            have hG : sgG (KT (sgAt P (sgN P + 16))) D vwCl _ tys ad ks _ := sg_moreN (P := (sgAt P n9)) (show n9 ≤ (sgN P + 16) from by have jb2 := hz9_2.1; have jc2 := hz9_2.2; omega) hG
            exact sg_iret2 X hr hlk hS trivial (fun t ht hW => sg_post hb hK hC hG hS ht hW) dX12_run_101
          · refine lv_iconst (v := 4) X.1 X.2.1 dX12_run_47 (by decide +kernel) ?_
            refine lv_bipush (v := 16) X.1 X.2.1 dX12_run_48 (by decide +kernel) ?_
            refine lv_iload_n X.1 X.2.1 dX12_run_50 rfl (lv_at hl 1 rfl) ?_
            refine lv_imul X.1 X.2.1 dX12_run_51 ?_
            refine lv_topi (fun f15 ef15 => ?_)
            refine lv_iload_n X.1 X.2.1 dX12_run_52 rfl (lv_at hl 2 rfl) ?_
            refine lv_iadd X.1 X.2.1 dX12_run_53 ?_
            refine lv_topi (fun f16 ef16 => ?_)
            refine lv_imul X.1 X.2.1 dX12_run_54 ?_
            refine lv_topi (fun f17 ef17 => ?_)
            refine lv_istore_n (lv' := [(3, .int f17), (0, .ref a0), (1, .int x1), (2, .int z9_2)]) X.1 X.2.1 dX12_run_55 rfl hl (by decide) rfl (fun ls hl => ?_)
            refine lv_aload_n X.1 X.2.1 dX12_run_56 rfl (lv_at hl 1 rfl) ?_
            refine lv_aload_n X.1 X.2.1 dX12_run_57 rfl (lv_at hl 1 rfl) ?_
            refine gf_X12_33 X hK hG h0 wl_6_211 dX12_run_58 (fun q18 hq18 kq18 => ?_)
            refine lv_iload_n X.1 X.2.1 dX12_run_61 rfl (lv_at hl 0 rfl) ?_
            refine ca_X12_cellOf_1_t X hK hG hC hS hb hp4 a0 h0 q18 hq18 f17 (iv_of (iv_mul (a' := 0) (b' := 252) ef17 (iv_c 4 (a := 4) (b := 4) (by decide +kernel)) (iv_add (a' := 0) (b' := 63) ef16 (iv_mul (a' := 0) (b' := 48) ef15 (iv_c 16 (a := 16) (b := 16) (by decide +kernel)) (hf2.2 c3) (by decide +kernel)) (iv_lt (b' := 15) (iv_gt_of c12) hz9_2 hf11 (by decide +kernel)) (by decide +kernel)) (by decide +kernel)) (a' := 0) (b' := 316) (by decide +kernel)) wl_8_206 hl.1 (rest := []) rfl (Nat.le_of_ble_eq_true rfl) ⟨Nat.le_of_ble_eq_true rfl, Nat.le_of_ble_eq_true rfl⟩ ⟨Nat.le_of_ble_eq_true rfl, Nat.le_of_ble_eq_true rfl⟩ dX12_run_62 (fun f19 H locs hf19 hG hS => ?_)
            refine lv_istore (lv' := [(4, .int f19), (3, .int f17), (0, .ref a0), (1, .int x1), (2, .int z9_2)]) X.1 X.2.1 dX12_run_65 hl (by decide) rfl (fun ls hl => ?_)
            refine lv_aload_n X.1 X.2.1 dX12_run_67 rfl (lv_at hl 2 rfl) ?_
            refine lv_aload_n X.1 X.2.1 dX12_run_68 rfl (lv_at hl 2 rfl) ?_
            refine gf_X12_33 X hK hG h0 wl_6_211 dX12_run_69 (fun q20 hq20 kq20 => ?_)
            refine lv_iload_n X.1 X.2.1 dX12_run_72 rfl (lv_at hl 1 rfl) ?_
            refine lv_iload X.1 X.2.1 dX12_run_73 (lv_at hl 0 rfl) ?_
            refine ca_X12_canMove_1_t X hK hG hC hS hb hp4 a0 h0 q20 hq20 f17 (iv_of (iv_mul (a' := 0) (b' := 252) ef17 (iv_c 4 (a := 4) (b := 4) (by decide +kernel)) (iv_add (a' := 0) (b' := 63) ef16 (iv_mul (a' := 0) (b' := 48) ef15 (iv_c 16 (a := 16) (b := 16) (by decide +kernel)) (hf2.2 c3) (by decide +kernel)) (iv_lt (b' := 15) (iv_gt_of c12) hz9_2 hf11 (by decide +kernel)) (by decide +kernel)) (by decide +kernel)) (a' := 0) (b' := 316) (by decide +kernel)) f19 wl_8_215 hl.1 (rest := []) rfl (Nat.le_of_ble_eq_true rfl) ⟨Nat.le_of_ble_eq_true rfl, Nat.le_of_ble_eq_true rfl⟩ ⟨Nat.le_of_ble_eq_true rfl, Nat.le_of_ble_eq_true rfl⟩ dX12_run_75 (fun f21 H locs hf21 hG hS => ?_)
            refine lv_if_ne (tgt := 83) X.1 X.2.1 dX12_run_78 (by decide) (fun c22 => ?_) (fun c22 => ?_)
            · refine lv_aload_n X.1 X.2.1 dX12_run_83 rfl (lv_at hl 2 rfl) ?_
              refine lv_aload_n X.1 X.2.1 dX12_run_84 rfl (lv_at hl 2 rfl) ?_
              refine gf_X12_33 X hK hG h0 wl_6_211 dX12_run_85 (fun q23 hq23 kq23 => ?_)
              refine lv_iload_n X.1 X.2.1 dX12_run_88 rfl (lv_at hl 1 rfl) ?_
              refine lv_iload X.1 X.2.1 dX12_run_89 (lv_at hl 0 rfl) ?_
              refine ca_X12_moves_1_t X hK hG hC hS hb hp4 a0 h0 q23 hq23 f17 (iv_of (iv_mul (a' := 0) (b' := 252) ef17 (iv_c 4 (a := 4) (b := 4) (by decide +kernel)) (iv_add (a' := 0) (b' := 63) ef16 (iv_mul (a' := 0) (b' := 48) ef15 (iv_c 16 (a := 16) (b := 16) (by decide +kernel)) (hf2.2 c3) (by decide +kernel)) (iv_lt (b' := 15) (iv_gt_of c12) hz9_2 hf11 (by decide +kernel)) (by decide +kernel)) (by decide +kernel)) (a' := 0) (b' := 316) (by decide +kernel)) f19 (show n9 + 1 ≤ 1000000000 from by have jb2 := hz9_2.1; have jc2 := hz9_2.2; have jd2 : iv 0 15 z9_2 := (iv_lt (b' := 15) (iv_gt_of c12) hz9_2 hf11 (by decide +kernel)); have je2 := jd2.2; omega) wl_8_219 hl.1 (rest := []) rfl (Nat.le_of_ble_eq_true rfl) ⟨Nat.le_of_ble_eq_true rfl, Nat.le_of_ble_eq_true rfl⟩ ⟨Nat.le_of_ble_eq_true rfl, Nat.le_of_ble_eq_true rfl⟩ dX12_run_91 (fun tg24 H locs htg24 hWg24 hS => ?_)
              have hG : sgG (KT (sgAt P (n9 + 1))) D vwCl _ tys ad ks _ := hWg24.2.2.2
              rw [htg24] at hG
              obtain ⟨y25, ey25⟩ : ∃ y : Int32, y = z9_2 + Int32.ofInt 1 := ⟨_, rfl⟩
              refine lv_iinc (v := y25) (lv' := [(2, .int y25), (4, .int f19), (3, .int f17), (0, .ref a0), (1, .int x1)]) X.1 X.2.1 dX12_run_94 hl (k := 4) rfl ey25.symm (by decide) rfl (fun ls hl => ?_)
              refine lv_goto (tgt := 37) X.1 X.2.1 dX12_run_97 (by decide) ?_
              have bq26 : 0 ≤ z9_2.toInt ∧ z9_2.toInt ≤ 15 := (iv_lt (b' := 15) (iv_gt_of c12) hz9_2 hf11 (by decide +kernel))
              have xy25 : y25.toInt = z9_2.toInt + 1 := sg_inc (k := 1) ey25 (iv_lt (b' := 15) (iv_gt_of c12) hz9_2 hf11 (by decide +kernel)) (by decide +kernel)
              exact ih9 H _ _ y25 (n9 + 1) (by omega) (by omega) hG hS (lv_sub hl [3, 4, 0] rfl) (iv_of (iv_add (a' := 1) (b' := 16) ey25 (iv_lt (b' := 15) (iv_gt_of c12) hz9_2 hf11 (by decide +kernel)) (iv_c _ (a := 1) (b := 1) (by decide +kernel)) (by decide +kernel)) (a' := 0) (b' := 16) (by decide +kernel)) (iv_stepU ey25 (iv_lt (b' := 15) (iv_gt_of c12) hz9_2 hf11 (by decide +kernel)) (by decide +kernel) hN9)
            · refine lv_iload_n X.1 X.2.1 dX12_run_81 rfl (lv_at hl 4 rfl) ?_
              have cq27 : (4 : Int32).toInt = 4 := by decide +kernel
              have cq28 : (16 : Int32).toInt = 16 := by decide +kernel
              have bq29 : 0 ≤ x1.toInt ∧ x1.toInt ≤ 3 := (hf2.2 c3)
              have xf15 : f15.toInt = 16 * x1.toInt := sg_exmul ef15 (iv_c 16 (a := 16) (b := 16) (by decide +kernel)) (hf2.2 c3) (by decide +kernel) (by decide +kernel) rfl
              have bq30 : 0 ≤ z9_2.toInt ∧ z9_2.toInt ≤ 15 := (iv_lt (b' := 15) (iv_gt_of c12) hz9_2 hf11 (by decide +kernel))
              have xf16 : f16.toInt = f15.toInt + z9_2.toInt := sg_exadd ef16 (iv_mul (a' := 0) (b' := 48) ef15 (iv_c 16 (a := 16) (b := 16) (by decide +kernel)) (hf2.2 c3) (by decide +kernel)) (iv_lt (b' := 15) (iv_gt_of c12) hz9_2 hf11 (by decide +kernel)) (by decide +kernel) rfl rfl
              have xf17 : f17.toInt = 4 * f16.toInt := sg_exmul ef17 (iv_c 4 (a := 4) (b := 4) (by decide +kernel)) (iv_add (a' := 0) (b' := 63) ef16 (iv_mul (a' := 0) (b' := 48) ef15 (iv_c 16 (a := 16) (b := 16) (by decide +kernel)) (hf2.2 c3) (by decide +kernel)) (iv_lt (b' := 15) (iv_gt_of c12) hz9_2 hf11 (by decide +kernel)) (by decide +kernel)) (by decide +kernel) (by decide +kernel) rfl
              have hG : sgG (KT (sgAt P (sgN P + 16))) D vwCl _ tys ad ks _ := sg_moreN (P := (sgAt P n9)) (show n9 ≤ (sgN P + 16) from by have jb2 := hz9_2.1; have jc2 := hz9_2.2; have jd2 : iv 0 15 z9_2 := (iv_lt (b' := 15) (iv_gt_of c12) hz9_2 hf11 (by decide +kernel)); have je2 := jd2.2; omega) hG
              exact sg_iret2 X hr hlk hS trivial (fun t ht hW => sg_post hb hK hC hG hS ht hW) dX12_run_82
      have cq31 : (0 : Int32).toInt = 0 := by decide +kernel
      exact B9_37 _ H _ _ 0 (sgN P) (by omega) (by omega) hG hS (lv_sub hl [1, 2, 0] rfl) (iv_of (iv_c 0 (a := 0) (b := 0) (by decide +kernel)) (a' := 0) (b' := 16) (by decide +kernel)) (Nat.le_refl _)
    · exact ((iv_no (a := 1) (b := 0) (iv_eqm c5 hf4 (iv_c 0 (a := 0) (b := 0) (by decide +kernel)) (by decide +kernel)) (by decide +kernel))).elim

theorem ca_X12_run_1   (X : CallFix p m c cc nL s args sg_tbl own) (hK : va_K D vwCl tys s) (hG : sgG (KT P) D vwCl (fun q : Nat => base ≤ q) tys ad ks H) (hC : sgC base s) (hS : va_S (fun q : Nat => base ≤ q) s.heap H locs) (hb : base ≤ s.heap.size) (hp4 : P.2.2.2.2.1 = true) (a0 : Nat) (h0 : isK ad ks 12 a0) (x1 : Int32) (hN : sgN P + 16 ≤ 1000000000) (hl : Cond.methodLink own index yX12_run ∈ sg_tbl) (hsize : ls.size = nL) (hst : st0 = [.int x1].reverse ++ .ref a0 :: rest) (hW : (rest.map fun v => v.category).sum ≤ 8) (hR : 38 ≤ R.frames ∧ 890 ≤ R.locals) (hf : cells ≤ R.cells ∧ slots ≤ R.slots) (hdg : decode cc pc = .ok (.invokevirtual index, 3)) (kk : ∀ (r : Int32) (t : State) (H1 : Heap) (locs1 : List Loc), t.heap = H1 → (fun r : Int32 => True) r → (sgB (KT (sgAt P (sgN P + 16))) D vwCl base tys ad ks t) → va_S (fun q : Nat => base ≤ q) s.heap H1 locs1 → W p l e R s m args below meth c H1 locs1 cells slots Q (F0 m (pc + 3) ls (.int r :: rest))) : W p l e R s m args below meth c H locs cells slots Q (F0 m pc ls st0) :=
  sg_callV2i X hK hG hC hS hb (m_X12_run_1 l hp4 a0 h0 x1 hN) h0 (k := 12) (ci := 12) rfl (C := RX12) (T := TX12) (N := 53) rfl wl_8_202 wl_1_13 wl_8_200 wl_8_201 (n := 1) (by decide +kernel) rfl rfl rfl hl hsize hst hW hR hf hdg kk

set_option maxHeartbeats 8000000 in
set_option maxRecDepth 100000 in
theorem m_X12_perform_1 (l : Launch) {D : va_G} {base : Nat} {tys : List (ClassId × FieldType)} {ad ks : List Nat} {P : sgPm} (hp4 : P.2.2.2.2.1 = true) (hp10 : sgPin P = none) (a0 : Nat) (h0 : isK ad ks 12 a0) (x1 : Int32) (hN : sgN P + 16 ≤ 1000000000) : Met l yX12_perform (Cond.code yX12_perform cX12_perform 5 (some .int) :: sg_tbl) ({ frames := 37, cells := 0, slots := 0, locals := 866 }) (va_Pc [.ref a0, .int x1] (sgB (KT P) D vwCl base tys ad ks)) (va_Qi (fun r (u : Int32) => u = r ∧ (fun r : Int32 => True) r) (fun u t => sgB (KT (sgAt P (sgN P + 16))) D vwCl base tys ad ks t) (fun q : Nat => base ≤ q)) 0 0 (fun q : Nat => base ≤ q) := by
  refine sg_ofW (by decide +kernel) (Nat.le_of_ble_eq_true rfl) (fun p e s m below meth c X hr hlk hb hK hC hG ls hl => ?_)
  have hS : va_S (fun q : Nat => base ≤ q) s.heap s.heap [] := va_S.rf
  have hl : lv_has ls 5 [(0, .ref a0), (1, .int x1)] := hl
  refine lv_aload_n X.1 X.2.1 dX12_perform_0 rfl (lv_at hl 0 rfl) ?_
  refine lv_iconst (v := 0) X.1 X.2.1 dX12_perform_1 (by decide +kernel) ?_
  refine pf_X12_0 X hK hG hS h0 wl_6_178 ⟨_, rfl, (iv_top _)⟩ dX12_perform_2 (fun H locs hG hS ku1 ru1 => ?_)
  refine lv_aload_n X.1 X.2.1 dX12_perform_5 rfl (lv_at hl 0 rfl) ?_
  refine lv_iload_n X.1 X.2.1 dX12_perform_6 rfl (lv_at hl 1 rfl) ?_
  refine ca_X12_isGame X hK hG hC (fun _ h => h) hS hb a0 h0 x1 wl_8_195 hl.1 (rest := []) rfl (Nat.le_of_ble_eq_true rfl) ⟨Nat.le_of_ble_eq_true rfl, Nat.le_of_ble_eq_true rfl⟩ ⟨Nat.le_of_ble_eq_true rfl, Nat.le_of_ble_eq_true rfl⟩ dX12_perform_7 (fun f2 locs hf2 hS => ?_)
  refine lv_if_eq (tgt := 20) X.1 X.2.1 dX12_perform_10 (by decide) (fun c3 => ?_) (fun c3 => ?_)
  · refine lv_iconst (v := (-1)) X.1 X.2.1 dX12_perform_20 (by decide +kernel) ?_
    have hG : sgG (KT (sgAt P (sgN P + 16))) D vwCl _ tys ad ks _ := sg_moreN (P := P) (show (sgN P) ≤ (sgN P + 16) from by omega) hG
    exact sg_iret2 X hr hlk hS trivial (fun t ht hW => sg_post hb hK hC hG hS ht hW) dX12_perform_21
  · refine lv_aload_n X.1 X.2.1 dX12_perform_13 rfl (lv_at hl 0 rfl) ?_
    refine gf_X12_23s X hK hG h0 hp4 wl_6_201 dX12_perform_14 (fun f4 hf4 kf4 => ?_)
    refine lv_if_ne (tgt := 22) X.1 X.2.1 dX12_perform_17 (by decide) (fun c5 => ?_) (fun c5 => ?_)
    · refine lv_iconst (v := 0) X.1 X.2.1 dX12_perform_22 (by decide +kernel) ?_
      refine lv_istore_n (lv' := [(2, .int 0), (0, .ref a0), (1, .int x1)]) X.1 X.2.1 dX12_perform_23 rfl hl (by decide) rfl (fun ls hl => ?_)
      have B6_24 : ∀ (N : Nat) (H : Heap) (locs : List Loc) (ls : Array Slot) (z6_2 : Int32) (n6 : Nat), sgN P ≤ n6 → (n6 : Int) ≤ sgN P + z6_2.toInt → sgG (KT (sgAt P n6)) D vwCl (fun q : Nat => base ≤ q) tys ad ks H → va_S (fun q : Nat => base ≤ q) s.heap H locs → lv_has ls 5 [(0, .ref a0), (1, .int x1), (2, .int z6_2)] → iv 0 16 z6_2 → (17 - z6_2.toInt).toNat ≤ N → W p l e (headSpec (Cond.code yX12_perform cX12_perform 5 (some .int) :: sg_tbl) ({ frames := 37, cells := 0, slots := 0, locals := 866 })).room s m #[.ref a0, .int x1] below meth c H locs 0 0 (MQ below (va_Qi (fun r (u : Int32) => u = r ∧ (fun r : Int32 => True) r) (fun u t => sgB (KT (sgAt P (sgN P + 16))) D vwCl base tys ad ks t) (fun q : Nat => base ≤ q)) #[.ref a0, .int x1] s 0 0 (fun q : Nat => base ≤ q)) (F0 m 24 ls []) := by
        intro N; induction N with
        | zero =>
          intro H locs ls z6_2 n6 jn6 jo6 hG hS hl hz6_2 hN
          exact absurd hN (by have := iv_up hz6_2; omega)
        | succ N ih6 =>
          intro H locs ls z6_2 n6 jn6 jo6 hG hS hl hz6_2 hN6
          refine lv_iload_n X.1 X.2.1 dX12_perform_24 rfl (lv_at hl 2 rfl) ?_
          refine lv_aload_n X.1 X.2.1 dX12_perform_25 rfl (lv_at hl 0 rfl) ?_
          refine gf_X12_22 X hK hG h0 wl_6_200 dX12_perform_26 (fun q7 hq7 kq7 => ?_)
          refine lv_iload_n X.1 X.2.1 dX12_perform_29 rfl (lv_at hl 1 rfl) ?_
          refine al_53 X hK hG hq7 (iv_vpin (hf2.2 c3) (by decide +kernel)) dX12_perform_30 (fun f8 hf8 => ?_)
          have of8 := hf8
          have hf8 : iv 0 16 f8 := sg_glr hf8
          refine lv_icmp_ge (tgt := 91) X.1 X.2.1 dX12_perform_31 (by decide) (fun c9 => ?_) (fun c9 => ?_)
          · refine lv_iload_n X.1 X.2.1 dX12_perform_91 rfl (lv_at hl 2 rfl) ?_
            have bq10 : 0 ≤ x1.toInt ∧ x1.toInt ≤ 3 := (hf2.2 c3)
            have bq11 : 0 ≤ z6_2.toInt ∧ z6_2.toInt ≤ 16 := hz6_2
            have hG : sgG (KT (sgAt P (sgN P + 16))) D vwCl _ tys ad ks _ := sg_moreN (P := (sgAt P n6)) (show n6 ≤ (sgN P + 16) from by have jb2 := hz6_2.1; have jc2 := hz6_2.2; omega) hG
            exact sg_iret2 X hr hlk hS trivial (fun t ht hW => sg_post hb hK hC hG hS ht hW) dX12_perform_92
          · refine lv_iconst (v := 4) X.1 X.2.1 dX12_perform_34 (by decide +kernel) ?_
            refine lv_bipush (v := 16) X.1 X.2.1 dX12_perform_35 (by decide +kernel) ?_
            refine lv_iload_n X.1 X.2.1 dX12_perform_37 rfl (lv_at hl 1 rfl) ?_
            refine lv_imul X.1 X.2.1 dX12_perform_38 ?_
            refine lv_topi (fun f12 ef12 => ?_)
            refine lv_iload_n X.1 X.2.1 dX12_perform_39 rfl (lv_at hl 2 rfl) ?_
            refine lv_iadd X.1 X.2.1 dX12_perform_40 ?_
            refine lv_topi (fun f13 ef13 => ?_)
            refine lv_imul X.1 X.2.1 dX12_perform_41 ?_
            refine lv_topi (fun f14 ef14 => ?_)
            refine lv_istore_n (lv' := [(3, .int f14), (0, .ref a0), (1, .int x1), (2, .int z6_2)]) X.1 X.2.1 dX12_perform_42 rfl hl (by decide) rfl (fun ls hl => ?_)
            refine lv_aload_n X.1 X.2.1 dX12_perform_43 rfl (lv_at hl 1 rfl) ?_
            refine lv_aload_n X.1 X.2.1 dX12_perform_44 rfl (lv_at hl 1 rfl) ?_
            refine gf_X12_32 X hK hG h0 wl_6_210 dX12_perform_45 (fun q15 hq15 kq15 => ?_)
            refine lv_iload_n X.1 X.2.1 dX12_perform_48 rfl (lv_at hl 0 rfl) ?_
            refine ca_X12_cellOf_1 X hK hG hC hS hb hp4 a0 h0 q15 hq15 f14 (iv_of (iv_mul (a' := 0) (b' := 252) ef14 (iv_c 4 (a := 4) (b := 4) (by decide +kernel)) (iv_add (a' := 0) (b' := 63) ef13 (iv_mul (a' := 0) (b' := 48) ef12 (iv_c 16 (a := 16) (b := 16) (by decide +kernel)) (hf2.2 c3) (by decide +kernel)) (iv_lt (b' := 15) (iv_gt_of c9) hz6_2 hf8 (by decide +kernel)) (by decide +kernel)) (by decide +kernel)) (a' := 0) (b' := 316) (by decide +kernel)) wl_8_206 hl.1 (rest := []) rfl (Nat.le_of_ble_eq_true rfl) ⟨Nat.le_of_ble_eq_true rfl, Nat.le_of_ble_eq_true rfl⟩ ⟨Nat.le_of_ble_eq_true rfl, Nat.le_of_ble_eq_true rfl⟩ dX12_perform_49 (fun f16 H locs hf16 hG hS => ?_)
            refine lv_istore (lv' := [(4, .int f16), (3, .int f14), (0, .ref a0), (1, .int x1), (2, .int z6_2)]) X.1 X.2.1 dX12_perform_52 hl (by decide) rfl (fun ls hl => ?_)
            refine lv_aload_n X.1 X.2.1 dX12_perform_54 rfl (lv_at hl 2 rfl) ?_
            refine lv_aload_n X.1 X.2.1 dX12_perform_55 rfl (lv_at hl 2 rfl) ?_
            refine gf_X12_32 X hK hG h0 wl_6_210 dX12_perform_56 (fun q17 hq17 kq17 => ?_)
            refine lv_iload_n X.1 X.2.1 dX12_perform_59 rfl (lv_at hl 1 rfl) ?_
            refine lv_iload X.1 X.2.1 dX12_perform_60 (lv_at hl 0 rfl) ?_
            refine ca_X12_canMove_1 X hK hG hC hS hb hp4 a0 h0 q17 hq17 f14 (iv_of (iv_mul (a' := 0) (b' := 252) ef14 (iv_c 4 (a := 4) (b := 4) (by decide +kernel)) (iv_add (a' := 0) (b' := 63) ef13 (iv_mul (a' := 0) (b' := 48) ef12 (iv_c 16 (a := 16) (b := 16) (by decide +kernel)) (hf2.2 c3) (by decide +kernel)) (iv_lt (b' := 15) (iv_gt_of c9) hz6_2 hf8 (by decide +kernel)) (by decide +kernel)) (by decide +kernel)) (a' := 0) (b' := 316) (by decide +kernel)) f16 wl_8_215 hl.1 (rest := []) rfl (Nat.le_of_ble_eq_true rfl) ⟨Nat.le_of_ble_eq_true rfl, Nat.le_of_ble_eq_true rfl⟩ ⟨Nat.le_of_ble_eq_true rfl, Nat.le_of_ble_eq_true rfl⟩ dX12_perform_62 (fun f18 H locs hf18 hG hS => ?_)
            refine lv_if_ne (tgt := 70) X.1 X.2.1 dX12_perform_65 (by decide) (fun c19 => ?_) (fun c19 => ?_)
            · refine lv_aload_n X.1 X.2.1 dX12_perform_70 rfl (lv_at hl 2 rfl) ?_
              refine ca_X12_remember X hK hG hC hS hb a0 h0 wl_8_98 hl.1 (rest := []) rfl (Nat.le_of_ble_eq_true rfl) ⟨Nat.le_of_ble_eq_true rfl, Nat.le_of_ble_eq_true rfl⟩ ⟨Nat.le_of_ble_eq_true rfl, Nat.le_of_ble_eq_true rfl⟩ dX12_perform_71 (fun H locs hG hS => ?_)
              refine lv_aload_n X.1 X.2.1 dX12_perform_74 rfl (lv_at hl 2 rfl) ?_
              refine lv_aload_n X.1 X.2.1 dX12_perform_75 rfl (lv_at hl 2 rfl) ?_
              refine gf_X12_32 X hK hG h0 wl_6_210 dX12_perform_76 (fun q21 hq21 kq21 => ?_)
              refine lv_iload_n X.1 X.2.1 dX12_perform_79 rfl (lv_at hl 1 rfl) ?_
              refine lv_iload X.1 X.2.1 dX12_perform_80 (lv_at hl 0 rfl) ?_
              refine ca_X12_moves_1 X hK hG hC hS hb hp4 hp10 a0 h0 q21 hq21 f14 (iv_of (iv_mul (a' := 0) (b' := 252) ef14 (iv_c 4 (a := 4) (b := 4) (by decide +kernel)) (iv_add (a' := 0) (b' := 63) ef13 (iv_mul (a' := 0) (b' := 48) ef12 (iv_c 16 (a := 16) (b := 16) (by decide +kernel)) (hf2.2 c3) (by decide +kernel)) (iv_lt (b' := 15) (iv_gt_of c9) hz6_2 hf8 (by decide +kernel)) (by decide +kernel)) (by decide +kernel)) (a' := 0) (b' := 316) (by decide +kernel)) f16 (show n6 + 1 ≤ 1000000000 from by have jb2 := hz6_2.1; have jc2 := hz6_2.2; have jd2 : iv 0 15 z6_2 := (iv_lt (b' := 15) (iv_gt_of c9) hz6_2 hf8 (by decide +kernel)); have je2 := jd2.2; omega) wl_8_219 hl.1 (rest := []) rfl (Nat.le_of_ble_eq_true rfl) ⟨Nat.le_of_ble_eq_true rfl, Nat.le_of_ble_eq_true rfl⟩ ⟨Nat.le_of_ble_eq_true rfl, Nat.le_of_ble_eq_true rfl⟩ dX12_perform_82 (fun tg22 H locs htg22 hWg22 hS => ?_)
              have hG : sgG (KT (sgAt P (n6 + 1))) D vwCl _ tys ad ks _ := hWg22.2.2.2
              rw [htg22] at hG
              obtain ⟨y23, ey23⟩ : ∃ y : Int32, y = z6_2 + Int32.ofInt 1 := ⟨_, rfl⟩
              refine lv_iinc (v := y23) (lv' := [(2, .int y23), (4, .int f16), (3, .int f14), (0, .ref a0), (1, .int x1)]) X.1 X.2.1 dX12_perform_85 hl (k := 4) rfl ey23.symm (by decide) rfl (fun ls hl => ?_)
              refine lv_goto (tgt := 24) X.1 X.2.1 dX12_perform_88 (by decide) ?_
              have bq24 : 0 ≤ z6_2.toInt ∧ z6_2.toInt ≤ 15 := (iv_lt (b' := 15) (iv_gt_of c9) hz6_2 hf8 (by decide +kernel))
              have xy23 : y23.toInt = z6_2.toInt + 1 := sg_inc (k := 1) ey23 (iv_lt (b' := 15) (iv_gt_of c9) hz6_2 hf8 (by decide +kernel)) (by decide +kernel)
              exact ih6 H _ _ y23 (n6 + 1) (by omega) (by omega) hG hS (lv_sub hl [3, 4, 0] rfl) (iv_of (iv_add (a' := 1) (b' := 16) ey23 (iv_lt (b' := 15) (iv_gt_of c9) hz6_2 hf8 (by decide +kernel)) (iv_c _ (a := 1) (b := 1) (by decide +kernel)) (by decide +kernel)) (a' := 0) (b' := 16) (by decide +kernel)) (iv_stepU ey23 (iv_lt (b' := 15) (iv_gt_of c9) hz6_2 hf8 (by decide +kernel)) (by decide +kernel) hN6)
            · refine lv_iload_n X.1 X.2.1 dX12_perform_68 rfl (lv_at hl 4 rfl) ?_
              have cq25 : (4 : Int32).toInt = 4 := by decide +kernel
              have cq26 : (16 : Int32).toInt = 16 := by decide +kernel
              have bq27 : 0 ≤ x1.toInt ∧ x1.toInt ≤ 3 := (hf2.2 c3)
              have xf12 : f12.toInt = 16 * x1.toInt := sg_exmul ef12 (iv_c 16 (a := 16) (b := 16) (by decide +kernel)) (hf2.2 c3) (by decide +kernel) (by decide +kernel) rfl
              have bq28 : 0 ≤ z6_2.toInt ∧ z6_2.toInt ≤ 15 := (iv_lt (b' := 15) (iv_gt_of c9) hz6_2 hf8 (by decide +kernel))
              have xf13 : f13.toInt = f12.toInt + z6_2.toInt := sg_exadd ef13 (iv_mul (a' := 0) (b' := 48) ef12 (iv_c 16 (a := 16) (b := 16) (by decide +kernel)) (hf2.2 c3) (by decide +kernel)) (iv_lt (b' := 15) (iv_gt_of c9) hz6_2 hf8 (by decide +kernel)) (by decide +kernel) rfl rfl
              have xf14 : f14.toInt = 4 * f13.toInt := sg_exmul ef14 (iv_c 4 (a := 4) (b := 4) (by decide +kernel)) (iv_add (a' := 0) (b' := 63) ef13 (iv_mul (a' := 0) (b' := 48) ef12 (iv_c 16 (a := 16) (b := 16) (by decide +kernel)) (hf2.2 c3) (by decide +kernel)) (iv_lt (b' := 15) (iv_gt_of c9) hz6_2 hf8 (by decide +kernel)) (by decide +kernel)) (by decide +kernel) (by decide +kernel) rfl
              have hG : sgG (KT (sgAt P (sgN P + 16))) D vwCl _ tys ad ks _ := sg_moreN (P := (sgAt P n6)) (show n6 ≤ (sgN P + 16) from by have jb2 := hz6_2.1; have jc2 := hz6_2.2; have jd2 : iv 0 15 z6_2 := (iv_lt (b' := 15) (iv_gt_of c9) hz6_2 hf8 (by decide +kernel)); have je2 := jd2.2; omega) hG
              exact sg_iret2 X hr hlk hS trivial (fun t ht hW => sg_post hb hK hC hG hS ht hW) dX12_perform_69
      have cq29 : (0 : Int32).toInt = 0 := by decide +kernel
      exact B6_24 _ H _ _ 0 (sgN P) (by omega) (by omega) hG hS (lv_sub hl [1, 2, 0] rfl) (iv_of (iv_c 0 (a := 0) (b := 0) (by decide +kernel)) (a' := 0) (b' := 16) (by decide +kernel)) (Nat.le_refl _)
    · exact ((iv_no (a := 1) (b := 0) (iv_eqm c5 hf4 (iv_c 0 (a := 0) (b := 0) (by decide +kernel)) (by decide +kernel)) (by decide +kernel))).elim

theorem ca_X12_perform_1   (X : CallFix p m c cc nL s args sg_tbl own) (hK : va_K D vwCl tys s) (hG : sgG (KT P) D vwCl (fun q : Nat => base ≤ q) tys ad ks H) (hC : sgC base s) (hS : va_S (fun q : Nat => base ≤ q) s.heap H locs) (hb : base ≤ s.heap.size) (hp4 : P.2.2.2.2.1 = true) (hp10 : sgPin P = none) (a0 : Nat) (h0 : isK ad ks 12 a0) (x1 : Int32) (hN : sgN P + 16 ≤ 1000000000) (hl : Cond.methodLink own index yX12_perform ∈ sg_tbl) (hsize : ls.size = nL) (hst : st0 = [.int x1].reverse ++ .ref a0 :: rest) (hW : (rest.map fun v => v.category).sum ≤ 8) (hR : 38 ≤ R.frames ∧ 890 ≤ R.locals) (hf : cells ≤ R.cells ∧ slots ≤ R.slots) (hdg : decode cc pc = .ok (.invokevirtual index, 3)) (kk : ∀ (r : Int32) (t : State) (H1 : Heap) (locs1 : List Loc), t.heap = H1 → (fun r : Int32 => True) r → (sgB (KT (sgAt P (sgN P + 16))) D vwCl base tys ad ks t) → va_S (fun q : Nat => base ≤ q) s.heap H1 locs1 → W p l e R s m args below meth c H1 locs1 cells slots Q (F0 m (pc + 3) ls (.int r :: rest))) : W p l e R s m args below meth c H locs cells slots Q (F0 m pc ls st0) :=
  sg_callV2i X hK hG hC hS hb (m_X12_perform_1 l hp4 hp10 a0 h0 x1 hN) h0 (k := 12) (ci := 12) rfl (C := RX12) (T := TX12) (N := 53) rfl wl_8_226 wl_1_13 wl_8_224 wl_8_225 (n := 1) (by decide +kernel) rfl rfl rfl hl hsize hst hW hR hf hdg kk

set_option maxHeartbeats 8000000 in
set_option maxRecDepth 100000 in
theorem m_J6_numberOfLeadingZeros_0f7a4 (l : Launch) {D : va_G} {base : Nat} {tys : List (ClassId × FieldType)} {ad ks : List Nat} {P : sgPm} {Hx : Heap} (x0 : Int32) : sgPi l (KT P) D vwCl base tys ad ks Hx yJ6_numberOfLeadingZeros_0f7a4 cJ6_numberOfLeadingZeros_0f7a4 2 (some .int) ({ frames := 0, cells := 0, slots := 0, locals := 0 }) [.int x0] (fun r : Int32 => True) := by
  refine sg_ofP (Pq := fun Hx => va_Qi (fun r (_ : Unit) => (fun r : Int32 => True) r) (fun _ t => t.heap = Hx) (fun _ : Nat => False)) (by decide +kernel) (Nat.le_of_ble_eq_true rfl) (fun p e s m below meth c X hr hlk hb hK hC hG ls hl => ?_)
  have hS : va_S (fun _ : Nat => False) s.heap s.heap [] := va_S.rf
  have hl : lv_has ls 2 [(0, .int x0)] := hl
  refine lv_iload_n X.1 X.2.1 dJ6_numberOfLeadingZeros_0f7a4_0 rfl (lv_at hl 0 rfl) ?_
  refine lv_if_gt (tgt := 15) X.1 X.2.1 dJ6_numberOfLeadingZeros_0f7a4_1 (by decide) (fun c1 => ?_) (fun c1 => ?_)
  · refine lv_bipush (v := 31) X.1 X.2.1 dJ6_numberOfLeadingZeros_0f7a4_15 (by decide +kernel) ?_
    refine lv_istore_n (lv' := [(1, .int 31), (0, .int x0)]) X.1 X.2.1 dJ6_numberOfLeadingZeros_0f7a4_17 rfl hl (by decide) rfl (fun ls hl => ?_)
    refine lv_iload_n X.1 X.2.1 dJ6_numberOfLeadingZeros_0f7a4_18 rfl (lv_at hl 1 rfl) ?_
    refine lv_ldcw X.1 X.2.1 X.2.2.2.1 (X.2.2.2.2 _ wl_5_178) dJ6_numberOfLeadingZeros_0f7a4_19 ?_
    have B3_33 : ∀ (locs : List Loc) (ls : Array Slot) (z3_0 : Int32) (z3_1 : Int32), va_S (fun _ : Nat => False) s.heap s.heap locs → lv_has ls 2 [(0, .int z3_0), (1, .int z3_1)] → iv 15 31 z3_1 → W p l e (headSpec (Cond.code yJ6_numberOfLeadingZeros_0f7a4 cJ6_numberOfLeadingZeros_0f7a4 2 (some .int) :: sg_tbl) ({ frames := 0, cells := 0, slots := 0, locals := 0 })).room s m #[.int x0] below meth c s.heap locs 0 0 (MQ below (va_Qi (fun r (_ : Unit) => (fun r : Int32 => True) r) (fun _ t => t.heap = s.heap) (fun _ : Nat => False)) #[.int x0] s 0 0 (fun _ : Nat => False)) (F0 m 33 ls []) := by
      intro locs ls z3_0 z3_1 hS hl hz3_1
      refine lv_iload_n X.1 X.2.1 dJ6_numberOfLeadingZeros_0f7a4_33 rfl (lv_at hl 0 rfl) ?_
      refine lv_sipush (v := 256) X.1 X.2.1 dJ6_numberOfLeadingZeros_0f7a4_34 (by decide +kernel) ?_
      have B5_48 : ∀ (locs : List Loc) (ls : Array Slot) (z5_0 : Int32) (z5_1 : Int32), va_S (fun _ : Nat => False) s.heap s.heap locs → lv_has ls 2 [(0, .int z5_0), (1, .int z5_1)] → iv 7 31 z5_1 → W p l e (headSpec (Cond.code yJ6_numberOfLeadingZeros_0f7a4 cJ6_numberOfLeadingZeros_0f7a4 2 (some .int) :: sg_tbl) ({ frames := 0, cells := 0, slots := 0, locals := 0 })).room s m #[.int x0] below meth c s.heap locs 0 0 (MQ below (va_Qi (fun r (_ : Unit) => (fun r : Int32 => True) r) (fun _ t => t.heap = s.heap) (fun _ : Nat => False)) #[.int x0] s 0 0 (fun _ : Nat => False)) (F0 m 48 ls []) := by
        intro locs ls z5_0 z5_1 hS hl hz5_1
        refine lv_iload_n X.1 X.2.1 dJ6_numberOfLeadingZeros_0f7a4_48 rfl (lv_at hl 0 rfl) ?_
        refine lv_bipush (v := 16) X.1 X.2.1 dJ6_numberOfLeadingZeros_0f7a4_49 (by decide +kernel) ?_
        have B7_61 : ∀ (locs : List Loc) (ls : Array Slot) (z7_0 : Int32) (z7_1 : Int32), va_S (fun _ : Nat => False) s.heap s.heap locs → lv_has ls 2 [(0, .int z7_0), (1, .int z7_1)] → iv 3 31 z7_1 → W p l e (headSpec (Cond.code yJ6_numberOfLeadingZeros_0f7a4 cJ6_numberOfLeadingZeros_0f7a4 2 (some .int) :: sg_tbl) ({ frames := 0, cells := 0, slots := 0, locals := 0 })).room s m #[.int x0] below meth c s.heap locs 0 0 (MQ below (va_Qi (fun r (_ : Unit) => (fun r : Int32 => True) r) (fun _ t => t.heap = s.heap) (fun _ : Nat => False)) #[.int x0] s 0 0 (fun _ : Nat => False)) (F0 m 61 ls []) := by
          intro locs ls z7_0 z7_1 hS hl hz7_1
          refine lv_iload_n X.1 X.2.1 dJ6_numberOfLeadingZeros_0f7a4_61 rfl (lv_at hl 0 rfl) ?_
          refine lv_iconst (v := 4) X.1 X.2.1 dJ6_numberOfLeadingZeros_0f7a4_62 (by decide +kernel) ?_
          have B9_73 : ∀ (locs : List Loc) (ls : Array Slot) (z9_0 : Int32) (z9_1 : Int32), va_S (fun _ : Nat => False) s.heap s.heap locs → lv_has ls 2 [(0, .int z9_0), (1, .int z9_1)] → iv 1 31 z9_1 → W p l e (headSpec (Cond.code yJ6_numberOfLeadingZeros_0f7a4 cJ6_numberOfLeadingZeros_0f7a4 2 (some .int) :: sg_tbl) ({ frames := 0, cells := 0, slots := 0, locals := 0 })).room s m #[.int x0] below meth c s.heap locs 0 0 (MQ below (va_Qi (fun r (_ : Unit) => (fun r : Int32 => True) r) (fun _ t => t.heap = s.heap) (fun _ : Nat => False)) #[.int x0] s 0 0 (fun _ : Nat => False)) (F0 m 73 ls []) := by
            intro locs ls z9_0 z9_1 hS hl hz9_1
            refine lv_iload_n X.1 X.2.1 dJ6_numberOfLeadingZeros_0f7a4_73 rfl (lv_at hl 1 rfl) ?_
            refine lv_iload_n X.1 X.2.1 dJ6_numberOfLeadingZeros_0f7a4_74 rfl (lv_at hl 0 rfl) ?_
            refine lv_iconst (v := 1) X.1 X.2.1 dJ6_numberOfLeadingZeros_0f7a4_75 (by decide +kernel) ?_
            obtain ⟨f10, ef10⟩ : ∃ y : Int32, y = (z9_0.toUInt32 >>> ((1 : Int32).toUInt32 &&& Int32.toUInt32 31)).toInt32 := ⟨_, rfl⟩
            refine lv_iushr (v := f10) X.1 X.2.1 dJ6_numberOfLeadingZeros_0f7a4_76 ef10.symm ?_
            refine lv_isub X.1 X.2.1 dJ6_numberOfLeadingZeros_0f7a4_77 ?_
            refine lv_topi (fun f11 ef11 => ?_)
            exact sg_iretP X hr hlk hS trivial dJ6_numberOfLeadingZeros_0f7a4_78
          refine lv_icmp_lt (tgt := 73) X.1 X.2.1 dJ6_numberOfLeadingZeros_0f7a4_63 (by decide) (fun c8 => ?_) (fun c8 => ?_)
          · exact B9_73 _ _ z7_0 z7_1 hS (lv_sub hl [0, 1] rfl) (iv_of hz7_1 (a' := 1) (b' := 31) (by decide +kernel))
          · obtain ⟨y12, ey12⟩ : ∃ y : Int32, y = z7_1 + Int32.ofInt (-2) := ⟨_, rfl⟩
            refine lv_iinc (v := y12) (lv' := [(1, .int y12), (0, .int z7_0)]) X.1 X.2.1 dJ6_numberOfLeadingZeros_0f7a4_66 hl (k := 1) rfl ey12.symm (by decide) rfl (fun ls hl => ?_)
            refine lv_iload_n X.1 X.2.1 dJ6_numberOfLeadingZeros_0f7a4_69 rfl (lv_at hl 1 rfl) ?_
            refine lv_iconst (v := 2) X.1 X.2.1 dJ6_numberOfLeadingZeros_0f7a4_70 (by decide +kernel) ?_
            obtain ⟨f13, ef13⟩ : ∃ y : Int32, y = (z7_0.toUInt32 >>> ((2 : Int32).toUInt32 &&& Int32.toUInt32 31)).toInt32 := ⟨_, rfl⟩
            refine lv_iushr (v := f13) X.1 X.2.1 dJ6_numberOfLeadingZeros_0f7a4_71 ef13.symm ?_
            refine lv_istore_n (lv' := [(0, .int f13), (1, .int y12)]) X.1 X.2.1 dJ6_numberOfLeadingZeros_0f7a4_72 rfl hl (by decide) rfl (fun ls hl => ?_)
            exact B9_73 _ _ f13 y12 hS (lv_sub hl [0, 1] rfl) (iv_of (iv_add (a' := 1) (b' := 29) ey12 hz7_1 (iv_c _ (a := (-2)) (b := (-2)) (by decide +kernel)) (by decide +kernel)) (a' := 1) (b' := 31) (by decide +kernel))
        refine lv_icmp_lt (tgt := 61) X.1 X.2.1 dJ6_numberOfLeadingZeros_0f7a4_51 (by decide) (fun c6 => ?_) (fun c6 => ?_)
        · exact B7_61 _ _ z5_0 z5_1 hS (lv_sub hl [0, 1] rfl) (iv_of hz5_1 (a' := 3) (b' := 31) (by decide +kernel))
        · obtain ⟨y14, ey14⟩ : ∃ y : Int32, y = z5_1 + Int32.ofInt (-4) := ⟨_, rfl⟩
          refine lv_iinc (v := y14) (lv' := [(1, .int y14), (0, .int z5_0)]) X.1 X.2.1 dJ6_numberOfLeadingZeros_0f7a4_54 hl (k := 1) rfl ey14.symm (by decide) rfl (fun ls hl => ?_)
          refine lv_iload_n X.1 X.2.1 dJ6_numberOfLeadingZeros_0f7a4_57 rfl (lv_at hl 1 rfl) ?_
          refine lv_iconst (v := 4) X.1 X.2.1 dJ6_numberOfLeadingZeros_0f7a4_58 (by decide +kernel) ?_
          obtain ⟨f15, ef15⟩ : ∃ y : Int32, y = (z5_0.toUInt32 >>> ((4 : Int32).toUInt32 &&& Int32.toUInt32 31)).toInt32 := ⟨_, rfl⟩
          refine lv_iushr (v := f15) X.1 X.2.1 dJ6_numberOfLeadingZeros_0f7a4_59 ef15.symm ?_
          refine lv_istore_n (lv' := [(0, .int f15), (1, .int y14)]) X.1 X.2.1 dJ6_numberOfLeadingZeros_0f7a4_60 rfl hl (by decide) rfl (fun ls hl => ?_)
          exact B7_61 _ _ f15 y14 hS (lv_sub hl [0, 1] rfl) (iv_of (iv_add (a' := 3) (b' := 27) ey14 hz5_1 (iv_c _ (a := (-4)) (b := (-4)) (by decide +kernel)) (by decide +kernel)) (a' := 3) (b' := 31) (by decide +kernel))
      refine lv_icmp_lt (tgt := 48) X.1 X.2.1 dJ6_numberOfLeadingZeros_0f7a4_37 (by decide) (fun c4 => ?_) (fun c4 => ?_)
      · exact B5_48 _ _ z3_0 z3_1 hS (lv_sub hl [0, 1] rfl) (iv_of hz3_1 (a' := 7) (b' := 31) (by decide +kernel))
      · obtain ⟨y16, ey16⟩ : ∃ y : Int32, y = z3_1 + Int32.ofInt (-8) := ⟨_, rfl⟩
        refine lv_iinc (v := y16) (lv' := [(1, .int y16), (0, .int z3_0)]) X.1 X.2.1 dJ6_numberOfLeadingZeros_0f7a4_40 hl (k := 1) rfl ey16.symm (by decide) rfl (fun ls hl => ?_)
        refine lv_iload_n X.1 X.2.1 dJ6_numberOfLeadingZeros_0f7a4_43 rfl (lv_at hl 1 rfl) ?_
        refine lv_bipush (v := 8) X.1 X.2.1 dJ6_numberOfLeadingZeros_0f7a4_44 (by decide +kernel) ?_
        obtain ⟨f17, ef17⟩ : ∃ y : Int32, y = (z3_0.toUInt32 >>> ((8 : Int32).toUInt32 &&& Int32.toUInt32 31)).toInt32 := ⟨_, rfl⟩
        refine lv_iushr (v := f17) X.1 X.2.1 dJ6_numberOfLeadingZeros_0f7a4_46 ef17.symm ?_
        refine lv_istore_n (lv' := [(0, .int f17), (1, .int y16)]) X.1 X.2.1 dJ6_numberOfLeadingZeros_0f7a4_47 rfl hl (by decide) rfl (fun ls hl => ?_)
        exact B5_48 _ _ f17 y16 hS (lv_sub hl [0, 1] rfl) (iv_of (iv_add (a' := 7) (b' := 23) ey16 hz3_1 (iv_c _ (a := (-8)) (b := (-8)) (by decide +kernel)) (by decide +kernel)) (a' := 7) (b' := 31) (by decide +kernel))
    refine lv_icmp_lt (tgt := 33) X.1 X.2.1 dJ6_numberOfLeadingZeros_0f7a4_22 (by decide) (fun c2 => ?_) (fun c2 => ?_)
    · exact B3_33 _ _ x0 31 hS (lv_sub hl [1, 0] rfl) (iv_of (iv_c 31 (a := 31) (b := 31) (by decide +kernel)) (a' := 15) (b' := 31) (by decide +kernel))
    · obtain ⟨y18, ey18⟩ : ∃ y : Int32, y = 31 + Int32.ofInt (-16) := ⟨_, rfl⟩
      refine lv_iinc (v := y18) (lv' := [(1, .int y18), (0, .int x0)]) X.1 X.2.1 dJ6_numberOfLeadingZeros_0f7a4_25 hl (k := 0) rfl ey18.symm (by decide) rfl (fun ls hl => ?_)
      refine lv_iload_n X.1 X.2.1 dJ6_numberOfLeadingZeros_0f7a4_28 rfl (lv_at hl 1 rfl) ?_
      refine lv_bipush (v := 16) X.1 X.2.1 dJ6_numberOfLeadingZeros_0f7a4_29 (by decide +kernel) ?_
      obtain ⟨f19, ef19⟩ : ∃ y : Int32, y = (x0.toUInt32 >>> ((16 : Int32).toUInt32 &&& Int32.toUInt32 31)).toInt32 := ⟨_, rfl⟩
      refine lv_iushr (v := f19) X.1 X.2.1 dJ6_numberOfLeadingZeros_0f7a4_31 ef19.symm ?_
      refine lv_istore_n (lv' := [(0, .int f19), (1, .int y18)]) X.1 X.2.1 dJ6_numberOfLeadingZeros_0f7a4_32 rfl hl (by decide) rfl (fun ls hl => ?_)
      exact B3_33 _ _ f19 y18 hS (lv_sub hl [0, 1] rfl) (iv_of (iv_add (a' := 15) (b' := 15) ey18 (iv_c 31 (a := 31) (b := 31) (by decide +kernel)) (iv_c _ (a := (-16)) (b := (-16)) (by decide +kernel)) (by decide +kernel)) (a' := 15) (b' := 31) (by decide +kernel))
  · refine lv_iload_n X.1 X.2.1 dJ6_numberOfLeadingZeros_0f7a4_4 rfl (lv_at hl 0 rfl) ?_
    refine lv_if_ne (tgt := 13) X.1 X.2.1 dJ6_numberOfLeadingZeros_0f7a4_5 (by decide) (fun c20 => ?_) (fun c20 => ?_)
    · refine lv_iconst (v := 0) X.1 X.2.1 dJ6_numberOfLeadingZeros_0f7a4_13 (by decide +kernel) ?_
      exact sg_iretP X hr hlk hS trivial dJ6_numberOfLeadingZeros_0f7a4_14
    · refine lv_bipush (v := 32) X.1 X.2.1 dJ6_numberOfLeadingZeros_0f7a4_8 (by decide +kernel) ?_
      refine lv_goto (tgt := 14) X.1 X.2.1 dJ6_numberOfLeadingZeros_0f7a4_10 (by decide) ?_
      exact sg_iretP X hr hlk hS trivial dJ6_numberOfLeadingZeros_0f7a4_14

theorem ca_J6_numberOfLeadingZeros_0f7a4   (X : CallFix p m c cc nL s args sg_tbl own) (hK : va_K D vwCl tys s) (hG : sgG (KT P) D vwCl (fun q : Nat => base ≤ q) tys ad ks H) (hC : sgC base s) (hA : ∀ q : Nat, A q → base ≤ q) (hS : va_S A s.heap H locs) (hb : base ≤ s.heap.size) (x0 : Int32) (hl : Cond.methodLink own index yJ6_numberOfLeadingZeros_0f7a4 ∈ sg_tbl) (hsize : ls.size = nL) (hst : st0 = [.int x0].reverse ++ rest) (hW : (rest.map fun v => v.category).sum ≤ 8) (hR : 1 ≤ R.frames ∧ 21 ≤ R.locals) (hf : cells ≤ R.cells ∧ slots ≤ R.slots) (hdg : decode cc pc = .ok (.invokestatic index, 3)) (kk : ∀ (r : Int32) (locs1 : List Loc), (fun r : Int32 => True) r → va_S A s.heap H locs1 → W p l e R s m args below meth c H locs1 cells slots Q (F0 m (pc + 3) ls (.int r :: rest))) : W p l e R s m args below meth c H locs cells slots Q (F0 m pc ls st0) :=
  sg_callPSi X hK hG hC hA hS hb (m_J6_numberOfLeadingZeros_0f7a4 l x0) wl_9_137 wl_1_26 wl_9_136 (n := 1) (by decide +kernel) rfl rfl rfl hl hsize hst hW hR hf hdg kk

set_option maxHeartbeats 8000000 in
set_option maxRecDepth 100000 in
theorem m_X12_goOdds_1_3 (l : Launch) {D : va_G} {base : Nat} {tys : List (ClassId × FieldType)} {ad ks : List Nat} {P : sgPm} (hp4 : P.2.2.2.2.1 = true) (a0 : Nat) (h0 : isK ad ks 12 a0) (x1 : Int32) (x2 : Int32) (h2 : iv 3 3 x2) (x3 : Int32) (h3 : iv 3 3 x3) (x4 : Int32) (x5 : Int64) : sgMl l (KT P) D vwCl base tys ad ks yX12_goOdds cX12_goOdds 21 (some .long) ({ frames := 0, cells := 0, slots := 0, locals := 0 }) [.ref a0, .int x1, .int x2, .int x3, .int x4, .long x5] (fun _ : Int64 => True) := by
  refine sg_ofW (by decide +kernel) (Nat.le_of_ble_eq_true rfl) (fun p e s m below meth c X hr hlk hb hK hC hG ls hl => ?_)
  have hS : va_S (fun q : Nat => base ≤ q) s.heap s.heap [] := va_S.rf
  have hl : lv_has ls 21 [(0, .ref a0), (1, .int x1), (2, .int x2), (3, .int x3), (4, .int x4), (5, .long x5)] := hl
  refine lv_iload_n X.1 X.2.1 dX12_goOdds_0 rfl (lv_at hl 2 rfl) ?_
  refine lv_iload_n X.1 X.2.1 dX12_goOdds_1 rfl (lv_at hl 3 rfl) ?_
  refine lv_icmp_eq (tgt := 12) X.1 X.2.1 dX12_goOdds_2 (by decide) (fun c1 => ?_) (fun c1 => ?_)
  · refine lv_lconst (v := 0) X.1 X.2.1 dX12_goOdds_12 (by decide +kernel) ?_
    exact sg_lret X hr hlk hb hK hC hG hS trivial dX12_goOdds_13
  · exact ((c1 (iv_one h2 h3 (by decide +kernel)))).elim

theorem ca_X12_goOdds_1_3   (X : CallFix p m c cc nL s args sg_tbl own) (hK : va_K D vwCl tys s) (hG : sgG (KT P) D vwCl (fun q : Nat => base ≤ q) tys ad ks H) (hC : sgC base s) (hS : va_S (fun q : Nat => base ≤ q) s.heap H locs) (hb : base ≤ s.heap.size) (hp4 : P.2.2.2.2.1 = true) (a0 : Nat) (h0 : isK ad ks 12 a0) (x1 : Int32) (x2 : Int32) (h2 : iv 3 3 x2) (x3 : Int32) (h3 : iv 3 3 x3) (x4 : Int32) (x5 : Int64) (hl : Cond.methodLink own index yX12_goOdds ∈ sg_tbl) (hsize : ls.size = nL) (hst : st0 = [.int x1, .int x2, .int x3, .int x4, .long x5].reverse ++ .ref a0 :: rest) (hW : (rest.map fun v => v.category).sum ≤ 8) (hR : 1 ≤ R.frames ∧ 40 ≤ R.locals) (hf : cells ≤ R.cells ∧ slots ≤ R.slots) (hdg : decode cc pc = .ok (.invokevirtual index, 3)) (kk : ∀ (r : Int64) (H1 : Heap) (locs1 : List Loc), (fun _ : Int64 => True) r → sgG (KT P) D vwCl (fun q : Nat => base ≤ q) tys ad ks H1 → va_S (fun q : Nat => base ≤ q) s.heap H1 locs1 → W p l e R s m args below meth c H1 locs1 cells slots Q (F0 m (pc + 3) ls (.long r :: rest))) : W p l e R s m args below meth c H locs cells slots Q (F0 m pc ls st0) :=
  sg_callVl X hK hG hC hS hb (m_X12_goOdds_1_3 l hp4 a0 h0 x1 x2 h2 x3 h3 x4 x5) h0 (k := 12) (ci := 12) rfl (C := RX12) (T := TX12) (N := 53) rfl wl_9_134 wl_1_13 wl_9_133 wl_0_113 (n := 5) (by decide +kernel) rfl rfl rfl hl hsize hst hW hR hf hdg kk

set_option maxHeartbeats 8000000 in
set_option maxRecDepth 100000 in
theorem m_X12_goOdds_1_2 (l : Launch) {D : va_G} {base : Nat} {tys : List (ClassId × FieldType)} {ad ks : List Nat} {P : sgPm} (hp4 : P.2.2.2.2.1 = true) (a0 : Nat) (h0 : isK ad ks 12 a0) (x1 : Int32) (x2 : Int32) (h2 : iv 2 2 x2) (x3 : Int32) (h3 : iv 2 3 x3) (x4 : Int32) (x5 : Int64) : sgMl l (KT P) D vwCl base tys ad ks yX12_goOdds cX12_goOdds 21 (some .long) ({ frames := 35, cells := 0, slots := 0, locals := 819 }) [.ref a0, .int x1, .int x2, .int x3, .int x4, .long x5] (fun _ : Int64 => True) := by
  refine sg_ofW (by decide +kernel) (Nat.le_of_ble_eq_true rfl) (fun p e s m below meth c X hr hlk hb hK hC hG ls hl => ?_)
  have hS : va_S (fun q : Nat => base ≤ q) s.heap s.heap [] := va_S.rf
  have hl : lv_has ls 21 [(0, .ref a0), (1, .int x1), (2, .int x2), (3, .int x3), (4, .int x4), (5, .long x5)] := hl
  refine lv_iload_n X.1 X.2.1 dX12_goOdds_0 rfl (lv_at hl 2 rfl) ?_
  refine lv_iload_n X.1 X.2.1 dX12_goOdds_1 rfl (lv_at hl 3 rfl) ?_
  refine lv_icmp_eq (tgt := 12) X.1 X.2.1 dX12_goOdds_2 (by decide) (fun c1 => ?_) (fun c1 => ?_)
  · refine lv_lconst (v := 0) X.1 X.2.1 dX12_goOdds_12 (by decide +kernel) ?_
    exact sg_lret X hr hlk hb hK hC hG hS trivial dX12_goOdds_13
  · refine lv_lload X.1 X.2.1 dX12_goOdds_5 (lv_at hl 5 rfl) ?_
    refine lv_lconst (v := 0) X.1 X.2.1 dX12_goOdds_7 (by decide +kernel) ?_
    refine W.lcmp X.1 X.2.1 dX12_goOdds_8 ?_
    refine lv_topi (fun f2 ef2 => ?_)
    refine lv_if_ne (tgt := 14) X.1 X.2.1 dX12_goOdds_9 (by decide) (fun c3 => ?_) (fun c3 => ?_)
    · refine lv_aload_n X.1 X.2.1 dX12_goOdds_14 rfl (lv_at hl 0 rfl) ?_
      refine lv_iload_n X.1 X.2.1 dX12_goOdds_15 rfl (lv_at hl 1 rfl) ?_
      refine lv_aload_n X.1 X.2.1 dX12_goOdds_16 rfl (lv_at hl 0 rfl) ?_
      refine gf_X12_32 X hK hG h0 wl_6_210 dX12_goOdds_17 (fun q4 hq4 kq4 => ?_)
      refine lv_iconst (v := 1) X.1 X.2.1 dX12_goOdds_20 (by decide +kernel) ?_
      refine al_54 X hK hG hq4 (iv_vpin (iv_c 1 (a := 1) (b := 1) (by decide +kernel)) (by decide +kernel)) dX12_goOdds_21 (fun f5 hf5 => ?_)
      have hf5 := sg_nw_now hf5
      have of5 := hf5
      have hf5 : iv (-2147483648) 2147483647 f5 := sg_sp_now hf5 (iv_c 1 (a := 1) (b := 1) (by decide +kernel)) (by decide +kernel) rfl
      refine lv_aload_n X.1 X.2.1 dX12_goOdds_22 rfl (lv_at hl 0 rfl) ?_
      refine gg_X12_32 X hK hG h0 wl_6_210 kq4 dX12_goOdds_23 ?_
      refine lv_iconst (v := 4) X.1 X.2.1 dX12_goOdds_26 (by decide +kernel) ?_
      refine al_54 X hK hG hq4 (iv_vpin (iv_c 4 (a := 4) (b := 4) (by decide +kernel)) (by decide +kernel)) dX12_goOdds_27 (fun f6 hf6 => ?_)
      have hf6 := sg_nw_now hf6
      have of6 := hf6
      have hf6 : iv 0 1000000000 f6 := sg_day hf6 (iv_c 4 (a := 4) (b := 4) (by decide +kernel))
      refine lv_iload_n X.1 X.2.1 dX12_goOdds_28 rfl (lv_at hl 2 rfl) ?_
      refine lv_iadd X.1 X.2.1 dX12_goOdds_29 ?_
      refine lv_topi (fun f7 ef7 => ?_)
      refine ca_X12_freeIn_1 X hK hG hC hS hb hp4 a0 h0 x1 f5 f7 (iv_of (iv_add (a' := 2) (b' := 1000000002) ef7 hf6 h2 (by decide +kernel)) (a' := 0) (b' := 2147483647) (by decide +kernel)) wl_8_162 hl.1 (rest := []) rfl (Nat.le_of_ble_eq_true rfl) ⟨Nat.le_of_ble_eq_true rfl, Nat.le_of_ble_eq_true rfl⟩ ⟨Nat.le_of_ble_eq_true rfl, Nat.le_of_ble_eq_true rfl⟩ dX12_goOdds_30 (fun f8 H locs hf8 hG hS => ?_)
      refine lv_istore (lv' := [(7, .int f8), (0, .ref a0), (1, .int x1), (2, .int x2), (3, .int x3), (4, .int x4), (5, .long x5)]) X.1 X.2.1 dX12_goOdds_33 hl (by decide) rfl (fun ls hl => ?_)
      refine lv_iload X.1 X.2.1 dX12_goOdds_35 (lv_at hl 0 rfl) ?_
      refine lv_if_ne (tgt := 54) X.1 X.2.1 dX12_goOdds_37 (by decide) (fun c9 => ?_) (fun c9 => ?_)
      · refine lv_lload X.1 X.2.1 dX12_goOdds_54 (lv_at hl 6 rfl) ?_
        refine lv_iload X.1 X.2.1 dX12_goOdds_56 (lv_at hl 5 rfl) ?_
        obtain ⟨g10, eg10⟩ : ∃ y : Int64, y = (x4 : Int32).toInt64 := ⟨_, rfl⟩
        refine lv_i2l (v := g10) X.1 X.2.1 dX12_goOdds_58 eg10.symm ?_
        refine lv_lmul X.1 X.2.1 dX12_goOdds_59 ?_
        refine lv_topl (fun g11 eg11 => ?_)
        refine lv_ldc2 X.1 X.2.1 X.2.2.2.1 (X.2.2.2.2 _ wl_9_128) dX12_goOdds_60 ?_
        refine lv_ldiv X.1 X.2.1 dX12_goOdds_63 (by decide +kernel) ?_
        refine lv_topl (fun g12 eg12 => ?_)
        refine lv_lstore (lv' := [(8, .long g12), (7, .int f8), (0, .ref a0), (1, .int x1), (2, .int x2), (3, .int x3), (4, .int x4), (5, .long x5)]) X.1 X.2.1 dX12_goOdds_64 hl (by decide) rfl (fun ls hl => ?_)
        refine lv_aload_n X.1 X.2.1 dX12_goOdds_66 rfl (lv_at hl 2 rfl) ?_
        refine lv_iload_n X.1 X.2.1 dX12_goOdds_67 rfl (lv_at hl 3 rfl) ?_
        refine lv_iload_n X.1 X.2.1 dX12_goOdds_68 rfl (lv_at hl 4 rfl) ?_
        refine lv_iconst (v := 1) X.1 X.2.1 dX12_goOdds_69 (by decide +kernel) ?_
        refine lv_iadd X.1 X.2.1 dX12_goOdds_70 ?_
        refine lv_topi (fun f13 ef13 => ?_)
        refine lv_iload_n X.1 X.2.1 dX12_goOdds_71 rfl (lv_at hl 5 rfl) ?_
        refine lv_iload X.1 X.2.1 dX12_goOdds_72 (lv_at hl 6 rfl) ?_
        refine lv_lload X.1 X.2.1 dX12_goOdds_74 (lv_at hl 0 rfl) ?_
        refine ca_X12_goOdds_1_3 X hK hG hC hS hb hp4 a0 h0 x1 f13 (iv_add (a' := 3) (b' := 3) ef13 h2 (iv_c 1 (a := 1) (b := 1) (by decide +kernel)) (by decide +kernel)) x3 (iv_ne_lo2 c1 h2 h3) x4 g12 wl_9_131 hl.1 (rest := []) rfl (Nat.le_of_ble_eq_true rfl) ⟨Nat.le_of_ble_eq_true rfl, Nat.le_of_ble_eq_true rfl⟩ ⟨Nat.le_of_ble_eq_true rfl, Nat.le_of_ble_eq_true rfl⟩ dX12_goOdds_76 (fun g14 H locs hg14 hG hS => ?_)
        refine lv_lstore (lv' := [(10, .long g14), (8, .long g12), (7, .int f8), (0, .ref a0), (1, .int x1), (2, .int x2), (3, .int x3), (4, .int x4), (5, .long x5)]) X.1 X.2.1 dX12_goOdds_79 hl (by decide) rfl (fun ls hl => ?_)
        refine lv_lload X.1 X.2.1 dX12_goOdds_81 (lv_at hl 8 rfl) ?_
        refine lv_lload X.1 X.2.1 dX12_goOdds_83 (lv_at hl 1 rfl) ?_
        refine lv_lsub X.1 X.2.1 dX12_goOdds_85 ?_
        refine lv_topl (fun g15 eg15 => ?_)
        refine lv_lstore (lv' := [(12, .long g15), (10, .long g14), (8, .long g12), (7, .int f8), (0, .ref a0), (1, .int x1), (2, .int x2), (3, .int x3), (4, .int x4), (5, .long x5)]) X.1 X.2.1 dX12_goOdds_86 hl (by decide) rfl (fun ls hl => ?_)
        refine lv_lload X.1 X.2.1 dX12_goOdds_88 (lv_at hl 0 rfl) ?_
        refine lv_iload X.1 X.2.1 dX12_goOdds_90 (lv_at hl 3 rfl) ?_
        refine ca_J6_bitCount_0f7a4_p X hK hG hC (fun _ h => h) hS hb f8 wl_8_68 hl.1 (rest := [.long g15]) rfl (Nat.le_of_ble_eq_true rfl) ⟨Nat.le_of_ble_eq_true rfl, Nat.le_of_ble_eq_true rfl⟩ ⟨Nat.le_of_ble_eq_true rfl, Nat.le_of_ble_eq_true rfl⟩ dX12_goOdds_92 (fun f16 locs hf16 hS => ?_)
        obtain ⟨g17, eg17⟩ : ∃ y : Int64, y = (f16 : Int32).toInt64 := ⟨_, rfl⟩
        refine lv_i2l (v := g17) X.1 X.2.1 dX12_goOdds_95 eg17.symm ?_
        refine lv_ldiv X.1 X.2.1 dX12_goOdds_96 (sg_i2l_ne0 eg17 (iv_ne0 (sg_pcne hf16.2 c9 hf16.1) (by decide +kernel))) ?_
        refine lv_topl (fun g18 eg18 => ?_)
        refine lv_lstore (lv' := [(14, .long g18), (12, .long g15), (10, .long g14), (8, .long g12), (7, .int f8), (0, .ref a0), (1, .int x1), (2, .int x2), (3, .int x3), (4, .int x4), (5, .long x5)]) X.1 X.2.1 dX12_goOdds_97 hl (by decide) rfl (fun ls hl => ?_)
        refine lv_bipush (v := 31) X.1 X.2.1 dX12_goOdds_99 (by decide +kernel) ?_
        refine lv_iload X.1 X.2.1 dX12_goOdds_101 (lv_at hl 4 rfl) ?_
        refine ca_J6_numberOfLeadingZeros_0f7a4 X hK hG hC (fun _ h => h) hS hb f8 wl_9_135 hl.1 (rest := [.int 31]) rfl (Nat.le_of_ble_eq_true rfl) ⟨Nat.le_of_ble_eq_true rfl, Nat.le_of_ble_eq_true rfl⟩ ⟨Nat.le_of_ble_eq_true rfl, Nat.le_of_ble_eq_true rfl⟩ dX12_goOdds_103 (fun f19 locs hf19 hS => ?_)
        refine lv_isub X.1 X.2.1 dX12_goOdds_106 ?_
        refine lv_topi (fun f20 ef20 => ?_)
        refine lv_istore (lv' := [(16, .int f20), (14, .long g18), (12, .long g15), (10, .long g14), (8, .long g12), (7, .int f8), (0, .ref a0), (1, .int x1), (2, .int x2), (3, .int x3), (4, .int x4), (5, .long x5)]) X.1 X.2.1 dX12_goOdds_107 hl (by decide) rfl (fun ls hl => ?_)
        refine lv_iconst (v := 0) X.1 X.2.1 dX12_goOdds_109 (by decide +kernel) ?_
        refine lv_istore (lv' := [(17, .int 0), (16, .int f20), (14, .long g18), (12, .long g15), (10, .long g14), (8, .long g12), (7, .int f8), (0, .ref a0), (1, .int x1), (2, .int x2), (3, .int x3), (4, .int x4), (5, .long x5)]) X.1 X.2.1 dX12_goOdds_110 hl (by decide) rfl (fun ls hl => ?_)
        have B21_112 : ∀ (N : Nat) (H : Heap) (locs : List Loc) (ls : Array Slot) (z21_10 : Int64) (z21_12 : Int64) (z21_17 : Int32), sgG (KT P) D vwCl (fun q : Nat => base ≤ q) tys ad ks H → va_S (fun q : Nat => base ≤ q) s.heap H locs → lv_has ls 21 [(0, .ref a0), (1, .int x1), (2, .int x2), (3, .int x3), (4, .int x4), (7, .int f8), (10, .long z21_10), (12, .long z21_12), (14, .long g18), (16, .int f20), (17, .int z21_17)] → iv 0 30 z21_17 → (31 - z21_17.toInt).toNat ≤ N → W p l e (headSpec (Cond.code yX12_goOdds cX12_goOdds 21 (some .long) :: sg_tbl) ({ frames := 35, cells := 0, slots := 0, locals := 819 })).room s m #[.ref a0, .int x1, .int x2, .int x3, .int x4, .long x5] below meth c H locs 0 0 (MQ below (va_Ql (fun r (_ : Unit) => (fun _ : Int64 => True) r) (fun _ => sgB (KT P) D vwCl base tys ad ks) (fun q : Nat => base ≤ q)) #[.ref a0, .int x1, .int x2, .int x3, .int x4, .long x5] s 0 0 (fun q : Nat => base ≤ q)) (F0 m 112 ls []) := by
          intro N; induction N with
          | zero =>
            intro H locs ls z21_10 z21_12 z21_17 hG hS hl hz21_17 hN
            exact absurd hN (by have := iv_up hz21_17; omega)
          | succ N ih21 =>
            intro H locs ls z21_10 z21_12 z21_17 hG hS hl hz21_17 hN21
            refine lv_iload X.1 X.2.1 dX12_goOdds_112 (lv_at hl 10 rfl) ?_
            refine lv_aload_n X.1 X.2.1 dX12_goOdds_114 rfl (lv_at hl 0 rfl) ?_
            refine gf_X12_23s X hK hG h0 hp4 wl_6_201 dX12_goOdds_115 (fun f22 hf22 kf22 => ?_)
            refine lv_icmp_ge (tgt := 207) X.1 X.2.1 dX12_goOdds_118 (by decide) (fun c23 => ?_) (fun c23 => ?_)
            · refine lv_lload X.1 X.2.1 dX12_goOdds_207 (lv_at hl 6 rfl) ?_
              exact sg_lret X hr hlk hb hK hC hG hS trivial dX12_goOdds_209
            · refine lv_iload X.1 X.2.1 dX12_goOdds_121 (lv_at hl 5 rfl) ?_
              refine lv_iload X.1 X.2.1 dX12_goOdds_123 (lv_at hl 10 rfl) ?_
              refine ca_X12_has_h X hK hG hC (fun _ h => h) hS hb f8 z21_17 wl_7_174 hl.1 (rest := []) rfl (Nat.le_of_ble_eq_true rfl) ⟨Nat.le_of_ble_eq_true rfl, Nat.le_of_ble_eq_true rfl⟩ ⟨Nat.le_of_ble_eq_true rfl, Nat.le_of_ble_eq_true rfl⟩ dX12_goOdds_125 (fun f24 locs hf24 hS => ?_)
              have B26_201 : ∀ (H : Heap) (locs : List Loc) (ls : Array Slot) (z26_10 : Int64) (z26_12 : Int64), sgG (KT P) D vwCl (fun q : Nat => base ≤ q) tys ad ks H → va_S (fun q : Nat => base ≤ q) s.heap H locs → lv_has ls 21 [(0, .ref a0), (1, .int x1), (2, .int x2), (3, .int x3), (4, .int x4), (7, .int f8), (10, .long z26_10), (12, .long z26_12), (14, .long g18), (16, .int f20), (17, .int z21_17)] → W p l e (headSpec (Cond.code yX12_goOdds cX12_goOdds 21 (some .long) :: sg_tbl) ({ frames := 35, cells := 0, slots := 0, locals := 819 })).room s m #[.ref a0, .int x1, .int x2, .int x3, .int x4, .long x5] below meth c H locs 0 0 (MQ below (va_Ql (fun r (_ : Unit) => (fun _ : Int64 => True) r) (fun _ => sgB (KT P) D vwCl base tys ad ks) (fun q : Nat => base ≤ q)) #[.ref a0, .int x1, .int x2, .int x3, .int x4, .long x5] s 0 0 (fun q : Nat => base ≤ q)) (F0 m 201 ls []) := by
                intro H locs ls z26_10 z26_12 hG hS hl
                obtain ⟨y27, ey27⟩ : ∃ y : Int32, y = z21_17 + Int32.ofInt 1 := ⟨_, rfl⟩
                refine lv_iinc (v := y27) (lv' := [(17, .int y27), (0, .ref a0), (1, .int x1), (2, .int x2), (3, .int x3), (4, .int x4), (7, .int f8), (10, .long z26_10), (12, .long z26_12), (14, .long g18), (16, .int f20)]) X.1 X.2.1 dX12_goOdds_201 hl (k := 10) rfl ey27.symm (by decide) rfl (fun ls hl => ?_)
                refine lv_goto (tgt := 112) X.1 X.2.1 dX12_goOdds_204 (by decide) ?_
                exact ih21 H _ _ z26_10 z26_12 y27 hG hS (lv_sub hl [1, 2, 3, 4, 5, 6, 7, 8, 9, 10, 0] rfl) (iv_of (iv_add (a' := 1) (b' := 30) ey27 (iv_lt (b' := 29) (iv_gt_of c23) hz21_17 hf22 (by decide +kernel)) (iv_c _ (a := 1) (b := 1) (by decide +kernel)) (by decide +kernel)) (a' := 0) (b' := 30) (by decide +kernel)) (iv_stepU ey27 (iv_lt (b' := 29) (iv_gt_of c23) hz21_17 hf22 (by decide +kernel)) (by decide +kernel) hN21)
              refine lv_if_ne (tgt := 134) X.1 X.2.1 dX12_goOdds_128 (by decide) (fun c25 => ?_) (fun c25 => ?_)
              · have hsq28 : sgHas f8 z21_17 := sg_hast hf24.1 hf24.2 c25
                refine lv_iload X.1 X.2.1 dX12_goOdds_134 (lv_at hl 10 rfl) ?_
                refine lv_iload X.1 X.2.1 dX12_goOdds_136 (lv_at hl 9 rfl) ?_
                have B31_148 : ∀ (locs : List Loc) (ls : Array Slot) (w31_0 : Int64), va_S (fun q : Nat => base ≤ q) s.heap H locs → lv_has ls 21 [(0, .ref a0), (1, .int x1), (2, .int x2), (3, .int x3), (4, .int x4), (7, .int f8), (10, .long z21_10), (12, .long z21_12), (14, .long g18), (16, .int f20), (17, .int z21_17)] → W p l e (headSpec (Cond.code yX12_goOdds cX12_goOdds 21 (some .long) :: sg_tbl) ({ frames := 35, cells := 0, slots := 0, locals := 819 })).room s m #[.ref a0, .int x1, .int x2, .int x3, .int x4, .long x5] below meth c H locs 0 0 (MQ below (va_Ql (fun r (_ : Unit) => (fun _ : Int64 => True) r) (fun _ => sgB (KT P) D vwCl base tys ad ks) (fun q : Nat => base ≤ q)) #[.ref a0, .int x1, .int x2, .int x3, .int x4, .long x5] s 0 0 (fun q : Nat => base ≤ q)) (F0 m 148 ls [.long w31_0]) := by
                  intro locs ls w31_0 hS hl
                  refine lv_lstore (lv' := [(18, .long w31_0), (0, .ref a0), (1, .int x1), (2, .int x2), (3, .int x3), (4, .int x4), (7, .int f8), (10, .long z21_10), (12, .long z21_12), (14, .long g18), (16, .int f20), (17, .int z21_17)]) X.1 X.2.1 dX12_goOdds_148 hl (by decide) rfl (fun ls hl => ?_)
                  refine lv_lload X.1 X.2.1 dX12_goOdds_150 (lv_at hl 8 rfl) ?_
                  refine lv_lload X.1 X.2.1 dX12_goOdds_152 (lv_at hl 0 rfl) ?_
                  refine lv_lsub X.1 X.2.1 dX12_goOdds_154 ?_
                  refine lv_topl (fun g32 eg32 => ?_)
                  refine lv_lstore (lv' := [(12, .long g32), (18, .long w31_0), (0, .ref a0), (1, .int x1), (2, .int x2), (3, .int x3), (4, .int x4), (7, .int f8), (10, .long z21_10), (14, .long g18), (16, .int f20), (17, .int z21_17)]) X.1 X.2.1 dX12_goOdds_155 hl (by decide) rfl (fun ls hl => ?_)
                  refine lv_iload_n X.1 X.2.1 dX12_goOdds_157 rfl (lv_at hl 3 rfl) ?_
                  refine lv_iconst (v := 1) X.1 X.2.1 dX12_goOdds_158 (by decide +kernel) ?_
                  refine lv_iload X.1 X.2.1 dX12_goOdds_159 (lv_at hl 11 rfl) ?_
                  refine lv_ishl X.1 X.2.1 dX12_goOdds_161 ?_
                  refine lv_topi (fun f33 ef33 => ?_)
                  refine lv_ior X.1 X.2.1 dX12_goOdds_162 ?_
                  refine lv_topi (fun f34 ef34 => ?_)
                  refine lv_istore (lv' := [(20, .int f34), (12, .long g32), (18, .long w31_0), (0, .ref a0), (1, .int x1), (2, .int x2), (3, .int x3), (4, .int x4), (7, .int f8), (10, .long z21_10), (14, .long g18), (16, .int f20), (17, .int z21_17)]) X.1 X.2.1 dX12_goOdds_163 hl (by decide) rfl (fun ls hl => ?_)
                  refine lv_lload X.1 X.2.1 dX12_goOdds_165 (lv_at hl 9 rfl) ?_
                  refine lv_iload X.1 X.2.1 dX12_goOdds_167 (lv_at hl 0 rfl) ?_
                  refine lv_aload_n X.1 X.2.1 dX12_goOdds_169 rfl (lv_at hl 3 rfl) ?_
                  refine gf_X12_18 X hK hG h0 wl_6_196 dX12_goOdds_170 (fun q35 hq35 kq35 => ?_)
                  refine ca_X12_hasLine_1 X hK hG hC (fun _ h => h) hS hb hp4 f34 q35 hq35 wl_7_196 hl.1 (rest := [.long z21_10]) rfl (Nat.le_of_ble_eq_true rfl) ⟨Nat.le_of_ble_eq_true rfl, Nat.le_of_ble_eq_true rfl⟩ ⟨Nat.le_of_ble_eq_true rfl, Nat.le_of_ble_eq_true rfl⟩ dX12_goOdds_173 (fun f36 locs hf36 hS => ?_)
                  have B38_198 : ∀ (H : Heap) (locs : List Loc) (ls : Array Slot) (w38_0 : Int64), sgG (KT P) D vwCl (fun q : Nat => base ≤ q) tys ad ks H → va_S (fun q : Nat => base ≤ q) s.heap H locs → lv_has ls 21 [(0, .ref a0), (1, .int x1), (2, .int x2), (3, .int x3), (4, .int x4), (7, .int f8), (12, .long g32), (14, .long g18), (16, .int f20), (17, .int z21_17)] → W p l e (headSpec (Cond.code yX12_goOdds cX12_goOdds 21 (some .long) :: sg_tbl) ({ frames := 35, cells := 0, slots := 0, locals := 819 })).room s m #[.ref a0, .int x1, .int x2, .int x3, .int x4, .long x5] below meth c H locs 0 0 (MQ below (va_Ql (fun r (_ : Unit) => (fun _ : Int64 => True) r) (fun _ => sgB (KT P) D vwCl base tys ad ks) (fun q : Nat => base ≤ q)) #[.ref a0, .int x1, .int x2, .int x3, .int x4, .long x5] s 0 0 (fun q : Nat => base ≤ q)) (F0 m 198 ls [.long w38_0, .long z21_10]) := by
                    intro H locs ls w38_0 hG hS hl
                    refine lv_ladd X.1 X.2.1 dX12_goOdds_198 ?_
                    refine lv_topl (fun g39 eg39 => ?_)
                    refine lv_lstore (lv' := [(10, .long g39), (0, .ref a0), (1, .int x1), (2, .int x2), (3, .int x3), (4, .int x4), (7, .int f8), (12, .long g32), (14, .long g18), (16, .int f20), (17, .int z21_17)]) X.1 X.2.1 dX12_goOdds_199 hl (by decide) rfl (fun ls hl => ?_)
                    exact B26_201 H _ _ g39 g32 hG hS (lv_sub hl [1, 2, 3, 4, 5, 6, 0, 7, 8, 9, 10] rfl)
                  refine lv_if_eq (tgt := 184) X.1 X.2.1 dX12_goOdds_176 (by decide) (fun c37 => ?_) (fun c37 => ?_)
                  · refine lv_aload_n X.1 X.2.1 dX12_goOdds_184 rfl (lv_at hl 3 rfl) ?_
                    refine lv_iload X.1 X.2.1 dX12_goOdds_185 (lv_at hl 0 rfl) ?_
                    refine lv_iload_n X.1 X.2.1 dX12_goOdds_187 rfl (lv_at hl 5 rfl) ?_
                    refine lv_iconst (v := 1) X.1 X.2.1 dX12_goOdds_188 (by decide +kernel) ?_
                    refine lv_iadd X.1 X.2.1 dX12_goOdds_189 ?_
                    refine lv_topi (fun f40 ef40 => ?_)
                    refine lv_iload_n X.1 X.2.1 dX12_goOdds_190 rfl (lv_at hl 6 rfl) ?_
                    refine lv_iload X.1 X.2.1 dX12_goOdds_191 (lv_at hl 7 rfl) ?_
                    refine lv_lload X.1 X.2.1 dX12_goOdds_193 (lv_at hl 2 rfl) ?_
                    refine ca_X12_goOdds_1_3 X hK hG hC hS hb hp4 a0 h0 f34 f40 (iv_add (a' := 3) (b' := 3) ef40 h2 (iv_c 1 (a := 1) (b := 1) (by decide +kernel)) (by decide +kernel)) x3 (iv_ne_lo2 c1 h2 h3) x4 w31_0 wl_9_131 hl.1 (rest := [.long z21_10]) rfl (Nat.le_of_ble_eq_true rfl) ⟨Nat.le_of_ble_eq_true rfl, Nat.le_of_ble_eq_true rfl⟩ ⟨Nat.le_of_ble_eq_true rfl, Nat.le_of_ble_eq_true rfl⟩ dX12_goOdds_195 (fun g41 H locs hg41 hG hS => ?_)
                    exact B38_198 H _ _ g41 hG hS (lv_sub hl [3, 4, 5, 6, 7, 8, 1, 10, 11, 12] rfl)
                  · refine lv_lload X.1 X.2.1 dX12_goOdds_179 (lv_at hl 2 rfl) ?_
                    refine lv_goto (tgt := 198) X.1 X.2.1 dX12_goOdds_181 (by decide) ?_
                    exact B38_198 H _ _ w31_0 hG hS (lv_sub hl [3, 4, 5, 6, 7, 8, 1, 10, 11, 12] rfl)
                refine lv_icmp_ne (tgt := 146) X.1 X.2.1 dX12_goOdds_138 (by decide) (fun c30 => ?_) (fun c30 => ?_)
                · refine lv_lload X.1 X.2.1 dX12_goOdds_146 (lv_at hl 8 rfl) ?_
                  exact B31_148 _ _ g18 hS (lv_sub hl [0, 1, 2, 3, 4, 5, 6, 7, 8, 9, 10] rfl)
                · refine lv_lload X.1 X.2.1 dX12_goOdds_141 (lv_at hl 7 rfl) ?_
                  refine lv_goto (tgt := 148) X.1 X.2.1 dX12_goOdds_143 (by decide) ?_
                  exact B31_148 _ _ z21_12 hS (lv_sub hl [0, 1, 2, 3, 4, 5, 6, 7, 8, 9, 10] rfl)
              · have hsq29 : ¬ sgHas f8 z21_17 := sg_hasf hf24.1 hf24.2 c25
                refine lv_goto (tgt := 201) X.1 X.2.1 dX12_goOdds_131 (by decide) ?_
                exact B26_201 H _ _ z21_10 z21_12 hG hS (lv_sub hl [0, 1, 2, 3, 4, 5, 6, 7, 8, 9, 10] rfl)
        exact B21_112 _ H _ _ g14 g15 0 hG hS (lv_sub hl [7, 8, 9, 10, 11, 6, 4, 3, 2, 1, 0] rfl) (iv_of (iv_c 0 (a := 0) (b := 0) (by decide +kernel)) (a' := 0) (b' := 30) (by decide +kernel)) (Nat.le_refl _)
      · refine lv_aload_n X.1 X.2.1 dX12_goOdds_40 rfl (lv_at hl 1 rfl) ?_
        refine lv_iload_n X.1 X.2.1 dX12_goOdds_41 rfl (lv_at hl 2 rfl) ?_
        refine lv_iload_n X.1 X.2.1 dX12_goOdds_42 rfl (lv_at hl 3 rfl) ?_
        refine lv_iconst (v := 1) X.1 X.2.1 dX12_goOdds_43 (by decide +kernel) ?_
        refine lv_iadd X.1 X.2.1 dX12_goOdds_44 ?_
        refine lv_topi (fun f42 ef42 => ?_)
        refine lv_iload_n X.1 X.2.1 dX12_goOdds_45 rfl (lv_at hl 4 rfl) ?_
        refine lv_iload X.1 X.2.1 dX12_goOdds_46 (lv_at hl 5 rfl) ?_
        refine lv_lload X.1 X.2.1 dX12_goOdds_48 (lv_at hl 6 rfl) ?_
        refine ca_X12_goOdds_1_3 X hK hG hC hS hb hp4 a0 h0 x1 f42 (iv_add (a' := 3) (b' := 3) ef42 h2 (iv_c 1 (a := 1) (b := 1) (by decide +kernel)) (by decide +kernel)) x3 (iv_ne_lo2 c1 h2 h3) x4 x5 wl_9_131 hl.1 (rest := []) rfl (Nat.le_of_ble_eq_true rfl) ⟨Nat.le_of_ble_eq_true rfl, Nat.le_of_ble_eq_true rfl⟩ ⟨Nat.le_of_ble_eq_true rfl, Nat.le_of_ble_eq_true rfl⟩ dX12_goOdds_50 (fun g43 H locs hg43 hG hS => ?_)
        exact sg_lret X hr hlk hb hK hC hG hS trivial dX12_goOdds_53
    · refine lv_lconst (v := 0) X.1 X.2.1 dX12_goOdds_12 (by decide +kernel) ?_
      exact sg_lret X hr hlk hb hK hC hG hS trivial dX12_goOdds_13

theorem ca_X12_goOdds_1_2   (X : CallFix p m c cc nL s args sg_tbl own) (hK : va_K D vwCl tys s) (hG : sgG (KT P) D vwCl (fun q : Nat => base ≤ q) tys ad ks H) (hC : sgC base s) (hS : va_S (fun q : Nat => base ≤ q) s.heap H locs) (hb : base ≤ s.heap.size) (hp4 : P.2.2.2.2.1 = true) (a0 : Nat) (h0 : isK ad ks 12 a0) (x1 : Int32) (x2 : Int32) (h2 : iv 2 2 x2) (x3 : Int32) (h3 : iv 2 3 x3) (x4 : Int32) (x5 : Int64) (hl : Cond.methodLink own index yX12_goOdds ∈ sg_tbl) (hsize : ls.size = nL) (hst : st0 = [.int x1, .int x2, .int x3, .int x4, .long x5].reverse ++ .ref a0 :: rest) (hW : (rest.map fun v => v.category).sum ≤ 8) (hR : 36 ≤ R.frames ∧ 859 ≤ R.locals) (hf : cells ≤ R.cells ∧ slots ≤ R.slots) (hdg : decode cc pc = .ok (.invokevirtual index, 3)) (kk : ∀ (r : Int64) (H1 : Heap) (locs1 : List Loc), (fun _ : Int64 => True) r → sgG (KT P) D vwCl (fun q : Nat => base ≤ q) tys ad ks H1 → va_S (fun q : Nat => base ≤ q) s.heap H1 locs1 → W p l e R s m args below meth c H1 locs1 cells slots Q (F0 m (pc + 3) ls (.long r :: rest))) : W p l e R s m args below meth c H locs cells slots Q (F0 m pc ls st0) :=
  sg_callVl X hK hG hC hS hb (m_X12_goOdds_1_2 l hp4 a0 h0 x1 x2 h2 x3 h3 x4 x5) h0 (k := 12) (ci := 12) rfl (C := RX12) (T := TX12) (N := 53) rfl wl_9_134 wl_1_13 wl_9_133 wl_0_113 (n := 5) (by decide +kernel) rfl rfl rfl hl hsize hst hW hR hf hdg kk

set_option maxHeartbeats 8000000 in
set_option maxRecDepth 100000 in
theorem m_X12_goOdds_1_1 (l : Launch) {D : va_G} {base : Nat} {tys : List (ClassId × FieldType)} {ad ks : List Nat} {P : sgPm} (hp4 : P.2.2.2.2.1 = true) (a0 : Nat) (h0 : isK ad ks 12 a0) (x1 : Int32) (x2 : Int32) (h2 : iv 1 1 x2) (x3 : Int32) (h3 : iv 1 3 x3) (x4 : Int32) (x5 : Int64) : sgMl l (KT P) D vwCl base tys ad ks yX12_goOdds cX12_goOdds 21 (some .long) ({ frames := 36, cells := 0, slots := 0, locals := 859 }) [.ref a0, .int x1, .int x2, .int x3, .int x4, .long x5] (fun _ : Int64 => True) := by
  refine sg_ofW (by decide +kernel) (Nat.le_of_ble_eq_true rfl) (fun p e s m below meth c X hr hlk hb hK hC hG ls hl => ?_)
  have hS : va_S (fun q : Nat => base ≤ q) s.heap s.heap [] := va_S.rf
  have hl : lv_has ls 21 [(0, .ref a0), (1, .int x1), (2, .int x2), (3, .int x3), (4, .int x4), (5, .long x5)] := hl
  refine lv_iload_n X.1 X.2.1 dX12_goOdds_0 rfl (lv_at hl 2 rfl) ?_
  refine lv_iload_n X.1 X.2.1 dX12_goOdds_1 rfl (lv_at hl 3 rfl) ?_
  refine lv_icmp_eq (tgt := 12) X.1 X.2.1 dX12_goOdds_2 (by decide) (fun c1 => ?_) (fun c1 => ?_)
  · refine lv_lconst (v := 0) X.1 X.2.1 dX12_goOdds_12 (by decide +kernel) ?_
    exact sg_lret X hr hlk hb hK hC hG hS trivial dX12_goOdds_13
  · refine lv_lload X.1 X.2.1 dX12_goOdds_5 (lv_at hl 5 rfl) ?_
    refine lv_lconst (v := 0) X.1 X.2.1 dX12_goOdds_7 (by decide +kernel) ?_
    refine W.lcmp X.1 X.2.1 dX12_goOdds_8 ?_
    refine lv_topi (fun f2 ef2 => ?_)
    refine lv_if_ne (tgt := 14) X.1 X.2.1 dX12_goOdds_9 (by decide) (fun c3 => ?_) (fun c3 => ?_)
    · refine lv_aload_n X.1 X.2.1 dX12_goOdds_14 rfl (lv_at hl 0 rfl) ?_
      refine lv_iload_n X.1 X.2.1 dX12_goOdds_15 rfl (lv_at hl 1 rfl) ?_
      refine lv_aload_n X.1 X.2.1 dX12_goOdds_16 rfl (lv_at hl 0 rfl) ?_
      refine gf_X12_32 X hK hG h0 wl_6_210 dX12_goOdds_17 (fun q4 hq4 kq4 => ?_)
      refine lv_iconst (v := 1) X.1 X.2.1 dX12_goOdds_20 (by decide +kernel) ?_
      refine al_54 X hK hG hq4 (iv_vpin (iv_c 1 (a := 1) (b := 1) (by decide +kernel)) (by decide +kernel)) dX12_goOdds_21 (fun f5 hf5 => ?_)
      have hf5 := sg_nw_now hf5
      have of5 := hf5
      have hf5 : iv (-2147483648) 2147483647 f5 := sg_sp_now hf5 (iv_c 1 (a := 1) (b := 1) (by decide +kernel)) (by decide +kernel) rfl
      refine lv_aload_n X.1 X.2.1 dX12_goOdds_22 rfl (lv_at hl 0 rfl) ?_
      refine gg_X12_32 X hK hG h0 wl_6_210 kq4 dX12_goOdds_23 ?_
      refine lv_iconst (v := 4) X.1 X.2.1 dX12_goOdds_26 (by decide +kernel) ?_
      refine al_54 X hK hG hq4 (iv_vpin (iv_c 4 (a := 4) (b := 4) (by decide +kernel)) (by decide +kernel)) dX12_goOdds_27 (fun f6 hf6 => ?_)
      have hf6 := sg_nw_now hf6
      have of6 := hf6
      have hf6 : iv 0 1000000000 f6 := sg_day hf6 (iv_c 4 (a := 4) (b := 4) (by decide +kernel))
      refine lv_iload_n X.1 X.2.1 dX12_goOdds_28 rfl (lv_at hl 2 rfl) ?_
      refine lv_iadd X.1 X.2.1 dX12_goOdds_29 ?_
      refine lv_topi (fun f7 ef7 => ?_)
      refine ca_X12_freeIn_1 X hK hG hC hS hb hp4 a0 h0 x1 f5 f7 (iv_of (iv_add (a' := 1) (b' := 1000000001) ef7 hf6 h2 (by decide +kernel)) (a' := 0) (b' := 2147483647) (by decide +kernel)) wl_8_162 hl.1 (rest := []) rfl (Nat.le_of_ble_eq_true rfl) ⟨Nat.le_of_ble_eq_true rfl, Nat.le_of_ble_eq_true rfl⟩ ⟨Nat.le_of_ble_eq_true rfl, Nat.le_of_ble_eq_true rfl⟩ dX12_goOdds_30 (fun f8 H locs hf8 hG hS => ?_)
      refine lv_istore (lv' := [(7, .int f8), (0, .ref a0), (1, .int x1), (2, .int x2), (3, .int x3), (4, .int x4), (5, .long x5)]) X.1 X.2.1 dX12_goOdds_33 hl (by decide) rfl (fun ls hl => ?_)
      refine lv_iload X.1 X.2.1 dX12_goOdds_35 (lv_at hl 0 rfl) ?_
      refine lv_if_ne (tgt := 54) X.1 X.2.1 dX12_goOdds_37 (by decide) (fun c9 => ?_) (fun c9 => ?_)
      · refine lv_lload X.1 X.2.1 dX12_goOdds_54 (lv_at hl 6 rfl) ?_
        refine lv_iload X.1 X.2.1 dX12_goOdds_56 (lv_at hl 5 rfl) ?_
        obtain ⟨g10, eg10⟩ : ∃ y : Int64, y = (x4 : Int32).toInt64 := ⟨_, rfl⟩
        refine lv_i2l (v := g10) X.1 X.2.1 dX12_goOdds_58 eg10.symm ?_
        refine lv_lmul X.1 X.2.1 dX12_goOdds_59 ?_
        refine lv_topl (fun g11 eg11 => ?_)
        refine lv_ldc2 X.1 X.2.1 X.2.2.2.1 (X.2.2.2.2 _ wl_9_128) dX12_goOdds_60 ?_
        refine lv_ldiv X.1 X.2.1 dX12_goOdds_63 (by decide +kernel) ?_
        refine lv_topl (fun g12 eg12 => ?_)
        refine lv_lstore (lv' := [(8, .long g12), (7, .int f8), (0, .ref a0), (1, .int x1), (2, .int x2), (3, .int x3), (4, .int x4), (5, .long x5)]) X.1 X.2.1 dX12_goOdds_64 hl (by decide) rfl (fun ls hl => ?_)
        refine lv_aload_n X.1 X.2.1 dX12_goOdds_66 rfl (lv_at hl 2 rfl) ?_
        refine lv_iload_n X.1 X.2.1 dX12_goOdds_67 rfl (lv_at hl 3 rfl) ?_
        refine lv_iload_n X.1 X.2.1 dX12_goOdds_68 rfl (lv_at hl 4 rfl) ?_
        refine lv_iconst (v := 1) X.1 X.2.1 dX12_goOdds_69 (by decide +kernel) ?_
        refine lv_iadd X.1 X.2.1 dX12_goOdds_70 ?_
        refine lv_topi (fun f13 ef13 => ?_)
        refine lv_iload_n X.1 X.2.1 dX12_goOdds_71 rfl (lv_at hl 5 rfl) ?_
        refine lv_iload X.1 X.2.1 dX12_goOdds_72 (lv_at hl 6 rfl) ?_
        refine lv_lload X.1 X.2.1 dX12_goOdds_74 (lv_at hl 0 rfl) ?_
        refine ca_X12_goOdds_1_2 X hK hG hC hS hb hp4 a0 h0 x1 f13 (iv_add (a' := 2) (b' := 2) ef13 h2 (iv_c 1 (a := 1) (b := 1) (by decide +kernel)) (by decide +kernel)) x3 (iv_ne_lo2 c1 h2 h3) x4 g12 wl_9_131 hl.1 (rest := []) rfl (Nat.le_of_ble_eq_true rfl) ⟨Nat.le_of_ble_eq_true rfl, Nat.le_of_ble_eq_true rfl⟩ ⟨Nat.le_of_ble_eq_true rfl, Nat.le_of_ble_eq_true rfl⟩ dX12_goOdds_76 (fun g14 H locs hg14 hG hS => ?_)
        refine lv_lstore (lv' := [(10, .long g14), (8, .long g12), (7, .int f8), (0, .ref a0), (1, .int x1), (2, .int x2), (3, .int x3), (4, .int x4), (5, .long x5)]) X.1 X.2.1 dX12_goOdds_79 hl (by decide) rfl (fun ls hl => ?_)
        refine lv_lload X.1 X.2.1 dX12_goOdds_81 (lv_at hl 8 rfl) ?_
        refine lv_lload X.1 X.2.1 dX12_goOdds_83 (lv_at hl 1 rfl) ?_
        refine lv_lsub X.1 X.2.1 dX12_goOdds_85 ?_
        refine lv_topl (fun g15 eg15 => ?_)
        refine lv_lstore (lv' := [(12, .long g15), (10, .long g14), (8, .long g12), (7, .int f8), (0, .ref a0), (1, .int x1), (2, .int x2), (3, .int x3), (4, .int x4), (5, .long x5)]) X.1 X.2.1 dX12_goOdds_86 hl (by decide) rfl (fun ls hl => ?_)
        refine lv_lload X.1 X.2.1 dX12_goOdds_88 (lv_at hl 0 rfl) ?_
        refine lv_iload X.1 X.2.1 dX12_goOdds_90 (lv_at hl 3 rfl) ?_
        refine ca_J6_bitCount_0f7a4_p X hK hG hC (fun _ h => h) hS hb f8 wl_8_68 hl.1 (rest := [.long g15]) rfl (Nat.le_of_ble_eq_true rfl) ⟨Nat.le_of_ble_eq_true rfl, Nat.le_of_ble_eq_true rfl⟩ ⟨Nat.le_of_ble_eq_true rfl, Nat.le_of_ble_eq_true rfl⟩ dX12_goOdds_92 (fun f16 locs hf16 hS => ?_)
        obtain ⟨g17, eg17⟩ : ∃ y : Int64, y = (f16 : Int32).toInt64 := ⟨_, rfl⟩
        refine lv_i2l (v := g17) X.1 X.2.1 dX12_goOdds_95 eg17.symm ?_
        refine lv_ldiv X.1 X.2.1 dX12_goOdds_96 (sg_i2l_ne0 eg17 (iv_ne0 (sg_pcne hf16.2 c9 hf16.1) (by decide +kernel))) ?_
        refine lv_topl (fun g18 eg18 => ?_)
        refine lv_lstore (lv' := [(14, .long g18), (12, .long g15), (10, .long g14), (8, .long g12), (7, .int f8), (0, .ref a0), (1, .int x1), (2, .int x2), (3, .int x3), (4, .int x4), (5, .long x5)]) X.1 X.2.1 dX12_goOdds_97 hl (by decide) rfl (fun ls hl => ?_)
        refine lv_bipush (v := 31) X.1 X.2.1 dX12_goOdds_99 (by decide +kernel) ?_
        refine lv_iload X.1 X.2.1 dX12_goOdds_101 (lv_at hl 4 rfl) ?_
        refine ca_J6_numberOfLeadingZeros_0f7a4 X hK hG hC (fun _ h => h) hS hb f8 wl_9_135 hl.1 (rest := [.int 31]) rfl (Nat.le_of_ble_eq_true rfl) ⟨Nat.le_of_ble_eq_true rfl, Nat.le_of_ble_eq_true rfl⟩ ⟨Nat.le_of_ble_eq_true rfl, Nat.le_of_ble_eq_true rfl⟩ dX12_goOdds_103 (fun f19 locs hf19 hS => ?_)
        refine lv_isub X.1 X.2.1 dX12_goOdds_106 ?_
        refine lv_topi (fun f20 ef20 => ?_)
        refine lv_istore (lv' := [(16, .int f20), (14, .long g18), (12, .long g15), (10, .long g14), (8, .long g12), (7, .int f8), (0, .ref a0), (1, .int x1), (2, .int x2), (3, .int x3), (4, .int x4), (5, .long x5)]) X.1 X.2.1 dX12_goOdds_107 hl (by decide) rfl (fun ls hl => ?_)
        refine lv_iconst (v := 0) X.1 X.2.1 dX12_goOdds_109 (by decide +kernel) ?_
        refine lv_istore (lv' := [(17, .int 0), (16, .int f20), (14, .long g18), (12, .long g15), (10, .long g14), (8, .long g12), (7, .int f8), (0, .ref a0), (1, .int x1), (2, .int x2), (3, .int x3), (4, .int x4), (5, .long x5)]) X.1 X.2.1 dX12_goOdds_110 hl (by decide) rfl (fun ls hl => ?_)
        have B21_112 : ∀ (N : Nat) (H : Heap) (locs : List Loc) (ls : Array Slot) (z21_10 : Int64) (z21_12 : Int64) (z21_17 : Int32), sgG (KT P) D vwCl (fun q : Nat => base ≤ q) tys ad ks H → va_S (fun q : Nat => base ≤ q) s.heap H locs → lv_has ls 21 [(0, .ref a0), (1, .int x1), (2, .int x2), (3, .int x3), (4, .int x4), (7, .int f8), (10, .long z21_10), (12, .long z21_12), (14, .long g18), (16, .int f20), (17, .int z21_17)] → iv 0 30 z21_17 → (31 - z21_17.toInt).toNat ≤ N → W p l e (headSpec (Cond.code yX12_goOdds cX12_goOdds 21 (some .long) :: sg_tbl) ({ frames := 36, cells := 0, slots := 0, locals := 859 })).room s m #[.ref a0, .int x1, .int x2, .int x3, .int x4, .long x5] below meth c H locs 0 0 (MQ below (va_Ql (fun r (_ : Unit) => (fun _ : Int64 => True) r) (fun _ => sgB (KT P) D vwCl base tys ad ks) (fun q : Nat => base ≤ q)) #[.ref a0, .int x1, .int x2, .int x3, .int x4, .long x5] s 0 0 (fun q : Nat => base ≤ q)) (F0 m 112 ls []) := by
          intro N; induction N with
          | zero =>
            intro H locs ls z21_10 z21_12 z21_17 hG hS hl hz21_17 hN
            exact absurd hN (by have := iv_up hz21_17; omega)
          | succ N ih21 =>
            intro H locs ls z21_10 z21_12 z21_17 hG hS hl hz21_17 hN21
            refine lv_iload X.1 X.2.1 dX12_goOdds_112 (lv_at hl 10 rfl) ?_
            refine lv_aload_n X.1 X.2.1 dX12_goOdds_114 rfl (lv_at hl 0 rfl) ?_
            refine gf_X12_23s X hK hG h0 hp4 wl_6_201 dX12_goOdds_115 (fun f22 hf22 kf22 => ?_)
            refine lv_icmp_ge (tgt := 207) X.1 X.2.1 dX12_goOdds_118 (by decide) (fun c23 => ?_) (fun c23 => ?_)
            · refine lv_lload X.1 X.2.1 dX12_goOdds_207 (lv_at hl 6 rfl) ?_
              exact sg_lret X hr hlk hb hK hC hG hS trivial dX12_goOdds_209
            · refine lv_iload X.1 X.2.1 dX12_goOdds_121 (lv_at hl 5 rfl) ?_
              refine lv_iload X.1 X.2.1 dX12_goOdds_123 (lv_at hl 10 rfl) ?_
              refine ca_X12_has_h X hK hG hC (fun _ h => h) hS hb f8 z21_17 wl_7_174 hl.1 (rest := []) rfl (Nat.le_of_ble_eq_true rfl) ⟨Nat.le_of_ble_eq_true rfl, Nat.le_of_ble_eq_true rfl⟩ ⟨Nat.le_of_ble_eq_true rfl, Nat.le_of_ble_eq_true rfl⟩ dX12_goOdds_125 (fun f24 locs hf24 hS => ?_)
              have B26_201 : ∀ (H : Heap) (locs : List Loc) (ls : Array Slot) (z26_10 : Int64) (z26_12 : Int64), sgG (KT P) D vwCl (fun q : Nat => base ≤ q) tys ad ks H → va_S (fun q : Nat => base ≤ q) s.heap H locs → lv_has ls 21 [(0, .ref a0), (1, .int x1), (2, .int x2), (3, .int x3), (4, .int x4), (7, .int f8), (10, .long z26_10), (12, .long z26_12), (14, .long g18), (16, .int f20), (17, .int z21_17)] → W p l e (headSpec (Cond.code yX12_goOdds cX12_goOdds 21 (some .long) :: sg_tbl) ({ frames := 36, cells := 0, slots := 0, locals := 859 })).room s m #[.ref a0, .int x1, .int x2, .int x3, .int x4, .long x5] below meth c H locs 0 0 (MQ below (va_Ql (fun r (_ : Unit) => (fun _ : Int64 => True) r) (fun _ => sgB (KT P) D vwCl base tys ad ks) (fun q : Nat => base ≤ q)) #[.ref a0, .int x1, .int x2, .int x3, .int x4, .long x5] s 0 0 (fun q : Nat => base ≤ q)) (F0 m 201 ls []) := by
                intro H locs ls z26_10 z26_12 hG hS hl
                obtain ⟨y27, ey27⟩ : ∃ y : Int32, y = z21_17 + Int32.ofInt 1 := ⟨_, rfl⟩
                refine lv_iinc (v := y27) (lv' := [(17, .int y27), (0, .ref a0), (1, .int x1), (2, .int x2), (3, .int x3), (4, .int x4), (7, .int f8), (10, .long z26_10), (12, .long z26_12), (14, .long g18), (16, .int f20)]) X.1 X.2.1 dX12_goOdds_201 hl (k := 10) rfl ey27.symm (by decide) rfl (fun ls hl => ?_)
                refine lv_goto (tgt := 112) X.1 X.2.1 dX12_goOdds_204 (by decide) ?_
                exact ih21 H _ _ z26_10 z26_12 y27 hG hS (lv_sub hl [1, 2, 3, 4, 5, 6, 7, 8, 9, 10, 0] rfl) (iv_of (iv_add (a' := 1) (b' := 30) ey27 (iv_lt (b' := 29) (iv_gt_of c23) hz21_17 hf22 (by decide +kernel)) (iv_c _ (a := 1) (b := 1) (by decide +kernel)) (by decide +kernel)) (a' := 0) (b' := 30) (by decide +kernel)) (iv_stepU ey27 (iv_lt (b' := 29) (iv_gt_of c23) hz21_17 hf22 (by decide +kernel)) (by decide +kernel) hN21)
              refine lv_if_ne (tgt := 134) X.1 X.2.1 dX12_goOdds_128 (by decide) (fun c25 => ?_) (fun c25 => ?_)
              · have hsq28 : sgHas f8 z21_17 := sg_hast hf24.1 hf24.2 c25
                refine lv_iload X.1 X.2.1 dX12_goOdds_134 (lv_at hl 10 rfl) ?_
                refine lv_iload X.1 X.2.1 dX12_goOdds_136 (lv_at hl 9 rfl) ?_
                have B31_148 : ∀ (locs : List Loc) (ls : Array Slot) (w31_0 : Int64), va_S (fun q : Nat => base ≤ q) s.heap H locs → lv_has ls 21 [(0, .ref a0), (1, .int x1), (2, .int x2), (3, .int x3), (4, .int x4), (7, .int f8), (10, .long z21_10), (12, .long z21_12), (14, .long g18), (16, .int f20), (17, .int z21_17)] → W p l e (headSpec (Cond.code yX12_goOdds cX12_goOdds 21 (some .long) :: sg_tbl) ({ frames := 36, cells := 0, slots := 0, locals := 859 })).room s m #[.ref a0, .int x1, .int x2, .int x3, .int x4, .long x5] below meth c H locs 0 0 (MQ below (va_Ql (fun r (_ : Unit) => (fun _ : Int64 => True) r) (fun _ => sgB (KT P) D vwCl base tys ad ks) (fun q : Nat => base ≤ q)) #[.ref a0, .int x1, .int x2, .int x3, .int x4, .long x5] s 0 0 (fun q : Nat => base ≤ q)) (F0 m 148 ls [.long w31_0]) := by
                  intro locs ls w31_0 hS hl
                  refine lv_lstore (lv' := [(18, .long w31_0), (0, .ref a0), (1, .int x1), (2, .int x2), (3, .int x3), (4, .int x4), (7, .int f8), (10, .long z21_10), (12, .long z21_12), (14, .long g18), (16, .int f20), (17, .int z21_17)]) X.1 X.2.1 dX12_goOdds_148 hl (by decide) rfl (fun ls hl => ?_)
                  refine lv_lload X.1 X.2.1 dX12_goOdds_150 (lv_at hl 8 rfl) ?_
                  refine lv_lload X.1 X.2.1 dX12_goOdds_152 (lv_at hl 0 rfl) ?_
                  refine lv_lsub X.1 X.2.1 dX12_goOdds_154 ?_
                  refine lv_topl (fun g32 eg32 => ?_)
                  refine lv_lstore (lv' := [(12, .long g32), (18, .long w31_0), (0, .ref a0), (1, .int x1), (2, .int x2), (3, .int x3), (4, .int x4), (7, .int f8), (10, .long z21_10), (14, .long g18), (16, .int f20), (17, .int z21_17)]) X.1 X.2.1 dX12_goOdds_155 hl (by decide) rfl (fun ls hl => ?_)
                  refine lv_iload_n X.1 X.2.1 dX12_goOdds_157 rfl (lv_at hl 3 rfl) ?_
                  refine lv_iconst (v := 1) X.1 X.2.1 dX12_goOdds_158 (by decide +kernel) ?_
                  refine lv_iload X.1 X.2.1 dX12_goOdds_159 (lv_at hl 11 rfl) ?_
                  refine lv_ishl X.1 X.2.1 dX12_goOdds_161 ?_
                  refine lv_topi (fun f33 ef33 => ?_)
                  refine lv_ior X.1 X.2.1 dX12_goOdds_162 ?_
                  refine lv_topi (fun f34 ef34 => ?_)
                  refine lv_istore (lv' := [(20, .int f34), (12, .long g32), (18, .long w31_0), (0, .ref a0), (1, .int x1), (2, .int x2), (3, .int x3), (4, .int x4), (7, .int f8), (10, .long z21_10), (14, .long g18), (16, .int f20), (17, .int z21_17)]) X.1 X.2.1 dX12_goOdds_163 hl (by decide) rfl (fun ls hl => ?_)
                  refine lv_lload X.1 X.2.1 dX12_goOdds_165 (lv_at hl 9 rfl) ?_
                  refine lv_iload X.1 X.2.1 dX12_goOdds_167 (lv_at hl 0 rfl) ?_
                  refine lv_aload_n X.1 X.2.1 dX12_goOdds_169 rfl (lv_at hl 3 rfl) ?_
                  refine gf_X12_18 X hK hG h0 wl_6_196 dX12_goOdds_170 (fun q35 hq35 kq35 => ?_)
                  refine ca_X12_hasLine_1 X hK hG hC (fun _ h => h) hS hb hp4 f34 q35 hq35 wl_7_196 hl.1 (rest := [.long z21_10]) rfl (Nat.le_of_ble_eq_true rfl) ⟨Nat.le_of_ble_eq_true rfl, Nat.le_of_ble_eq_true rfl⟩ ⟨Nat.le_of_ble_eq_true rfl, Nat.le_of_ble_eq_true rfl⟩ dX12_goOdds_173 (fun f36 locs hf36 hS => ?_)
                  have B38_198 : ∀ (H : Heap) (locs : List Loc) (ls : Array Slot) (w38_0 : Int64), sgG (KT P) D vwCl (fun q : Nat => base ≤ q) tys ad ks H → va_S (fun q : Nat => base ≤ q) s.heap H locs → lv_has ls 21 [(0, .ref a0), (1, .int x1), (2, .int x2), (3, .int x3), (4, .int x4), (7, .int f8), (12, .long g32), (14, .long g18), (16, .int f20), (17, .int z21_17)] → W p l e (headSpec (Cond.code yX12_goOdds cX12_goOdds 21 (some .long) :: sg_tbl) ({ frames := 36, cells := 0, slots := 0, locals := 859 })).room s m #[.ref a0, .int x1, .int x2, .int x3, .int x4, .long x5] below meth c H locs 0 0 (MQ below (va_Ql (fun r (_ : Unit) => (fun _ : Int64 => True) r) (fun _ => sgB (KT P) D vwCl base tys ad ks) (fun q : Nat => base ≤ q)) #[.ref a0, .int x1, .int x2, .int x3, .int x4, .long x5] s 0 0 (fun q : Nat => base ≤ q)) (F0 m 198 ls [.long w38_0, .long z21_10]) := by
                    intro H locs ls w38_0 hG hS hl
                    refine lv_ladd X.1 X.2.1 dX12_goOdds_198 ?_
                    refine lv_topl (fun g39 eg39 => ?_)
                    refine lv_lstore (lv' := [(10, .long g39), (0, .ref a0), (1, .int x1), (2, .int x2), (3, .int x3), (4, .int x4), (7, .int f8), (12, .long g32), (14, .long g18), (16, .int f20), (17, .int z21_17)]) X.1 X.2.1 dX12_goOdds_199 hl (by decide) rfl (fun ls hl => ?_)
                    exact B26_201 H _ _ g39 g32 hG hS (lv_sub hl [1, 2, 3, 4, 5, 6, 0, 7, 8, 9, 10] rfl)
                  refine lv_if_eq (tgt := 184) X.1 X.2.1 dX12_goOdds_176 (by decide) (fun c37 => ?_) (fun c37 => ?_)
                  · refine lv_aload_n X.1 X.2.1 dX12_goOdds_184 rfl (lv_at hl 3 rfl) ?_
                    refine lv_iload X.1 X.2.1 dX12_goOdds_185 (lv_at hl 0 rfl) ?_
                    refine lv_iload_n X.1 X.2.1 dX12_goOdds_187 rfl (lv_at hl 5 rfl) ?_
                    refine lv_iconst (v := 1) X.1 X.2.1 dX12_goOdds_188 (by decide +kernel) ?_
                    refine lv_iadd X.1 X.2.1 dX12_goOdds_189 ?_
                    refine lv_topi (fun f40 ef40 => ?_)
                    refine lv_iload_n X.1 X.2.1 dX12_goOdds_190 rfl (lv_at hl 6 rfl) ?_
                    refine lv_iload X.1 X.2.1 dX12_goOdds_191 (lv_at hl 7 rfl) ?_
                    refine lv_lload X.1 X.2.1 dX12_goOdds_193 (lv_at hl 2 rfl) ?_
                    refine ca_X12_goOdds_1_2 X hK hG hC hS hb hp4 a0 h0 f34 f40 (iv_add (a' := 2) (b' := 2) ef40 h2 (iv_c 1 (a := 1) (b := 1) (by decide +kernel)) (by decide +kernel)) x3 (iv_ne_lo2 c1 h2 h3) x4 w31_0 wl_9_131 hl.1 (rest := [.long z21_10]) rfl (Nat.le_of_ble_eq_true rfl) ⟨Nat.le_of_ble_eq_true rfl, Nat.le_of_ble_eq_true rfl⟩ ⟨Nat.le_of_ble_eq_true rfl, Nat.le_of_ble_eq_true rfl⟩ dX12_goOdds_195 (fun g41 H locs hg41 hG hS => ?_)
                    exact B38_198 H _ _ g41 hG hS (lv_sub hl [3, 4, 5, 6, 7, 8, 1, 10, 11, 12] rfl)
                  · refine lv_lload X.1 X.2.1 dX12_goOdds_179 (lv_at hl 2 rfl) ?_
                    refine lv_goto (tgt := 198) X.1 X.2.1 dX12_goOdds_181 (by decide) ?_
                    exact B38_198 H _ _ w31_0 hG hS (lv_sub hl [3, 4, 5, 6, 7, 8, 1, 10, 11, 12] rfl)
                refine lv_icmp_ne (tgt := 146) X.1 X.2.1 dX12_goOdds_138 (by decide) (fun c30 => ?_) (fun c30 => ?_)
                · refine lv_lload X.1 X.2.1 dX12_goOdds_146 (lv_at hl 8 rfl) ?_
                  exact B31_148 _ _ g18 hS (lv_sub hl [0, 1, 2, 3, 4, 5, 6, 7, 8, 9, 10] rfl)
                · refine lv_lload X.1 X.2.1 dX12_goOdds_141 (lv_at hl 7 rfl) ?_
                  refine lv_goto (tgt := 148) X.1 X.2.1 dX12_goOdds_143 (by decide) ?_
                  exact B31_148 _ _ z21_12 hS (lv_sub hl [0, 1, 2, 3, 4, 5, 6, 7, 8, 9, 10] rfl)
              · have hsq29 : ¬ sgHas f8 z21_17 := sg_hasf hf24.1 hf24.2 c25
                refine lv_goto (tgt := 201) X.1 X.2.1 dX12_goOdds_131 (by decide) ?_
                exact B26_201 H _ _ z21_10 z21_12 hG hS (lv_sub hl [0, 1, 2, 3, 4, 5, 6, 7, 8, 9, 10] rfl)
        exact B21_112 _ H _ _ g14 g15 0 hG hS (lv_sub hl [7, 8, 9, 10, 11, 6, 4, 3, 2, 1, 0] rfl) (iv_of (iv_c 0 (a := 0) (b := 0) (by decide +kernel)) (a' := 0) (b' := 30) (by decide +kernel)) (Nat.le_refl _)
      · refine lv_aload_n X.1 X.2.1 dX12_goOdds_40 rfl (lv_at hl 1 rfl) ?_
        refine lv_iload_n X.1 X.2.1 dX12_goOdds_41 rfl (lv_at hl 2 rfl) ?_
        refine lv_iload_n X.1 X.2.1 dX12_goOdds_42 rfl (lv_at hl 3 rfl) ?_
        refine lv_iconst (v := 1) X.1 X.2.1 dX12_goOdds_43 (by decide +kernel) ?_
        refine lv_iadd X.1 X.2.1 dX12_goOdds_44 ?_
        refine lv_topi (fun f42 ef42 => ?_)
        refine lv_iload_n X.1 X.2.1 dX12_goOdds_45 rfl (lv_at hl 4 rfl) ?_
        refine lv_iload X.1 X.2.1 dX12_goOdds_46 (lv_at hl 5 rfl) ?_
        refine lv_lload X.1 X.2.1 dX12_goOdds_48 (lv_at hl 6 rfl) ?_
        refine ca_X12_goOdds_1_2 X hK hG hC hS hb hp4 a0 h0 x1 f42 (iv_add (a' := 2) (b' := 2) ef42 h2 (iv_c 1 (a := 1) (b := 1) (by decide +kernel)) (by decide +kernel)) x3 (iv_ne_lo2 c1 h2 h3) x4 x5 wl_9_131 hl.1 (rest := []) rfl (Nat.le_of_ble_eq_true rfl) ⟨Nat.le_of_ble_eq_true rfl, Nat.le_of_ble_eq_true rfl⟩ ⟨Nat.le_of_ble_eq_true rfl, Nat.le_of_ble_eq_true rfl⟩ dX12_goOdds_50 (fun g43 H locs hg43 hG hS => ?_)
        exact sg_lret X hr hlk hb hK hC hG hS trivial dX12_goOdds_53
    · refine lv_lconst (v := 0) X.1 X.2.1 dX12_goOdds_12 (by decide +kernel) ?_
      exact sg_lret X hr hlk hb hK hC hG hS trivial dX12_goOdds_13

theorem ca_X12_goOdds_1_1   (X : CallFix p m c cc nL s args sg_tbl own) (hK : va_K D vwCl tys s) (hG : sgG (KT P) D vwCl (fun q : Nat => base ≤ q) tys ad ks H) (hC : sgC base s) (hS : va_S (fun q : Nat => base ≤ q) s.heap H locs) (hb : base ≤ s.heap.size) (hp4 : P.2.2.2.2.1 = true) (a0 : Nat) (h0 : isK ad ks 12 a0) (x1 : Int32) (x2 : Int32) (h2 : iv 1 1 x2) (x3 : Int32) (h3 : iv 1 3 x3) (x4 : Int32) (x5 : Int64) (hl : Cond.methodLink own index yX12_goOdds ∈ sg_tbl) (hsize : ls.size = nL) (hst : st0 = [.int x1, .int x2, .int x3, .int x4, .long x5].reverse ++ .ref a0 :: rest) (hW : (rest.map fun v => v.category).sum ≤ 8) (hR : 37 ≤ R.frames ∧ 899 ≤ R.locals) (hf : cells ≤ R.cells ∧ slots ≤ R.slots) (hdg : decode cc pc = .ok (.invokevirtual index, 3)) (kk : ∀ (r : Int64) (H1 : Heap) (locs1 : List Loc), (fun _ : Int64 => True) r → sgG (KT P) D vwCl (fun q : Nat => base ≤ q) tys ad ks H1 → va_S (fun q : Nat => base ≤ q) s.heap H1 locs1 → W p l e R s m args below meth c H1 locs1 cells slots Q (F0 m (pc + 3) ls (.long r :: rest))) : W p l e R s m args below meth c H locs cells slots Q (F0 m pc ls st0) :=
  sg_callVl X hK hG hC hS hb (m_X12_goOdds_1_1 l hp4 a0 h0 x1 x2 h2 x3 h3 x4 x5) h0 (k := 12) (ci := 12) rfl (C := RX12) (T := TX12) (N := 53) rfl wl_9_134 wl_1_13 wl_9_133 wl_0_113 (n := 5) (by decide +kernel) rfl rfl rfl hl hsize hst hW hR hf hdg kk
end
