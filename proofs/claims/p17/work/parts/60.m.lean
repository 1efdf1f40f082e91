abbrev cX12_goNight : ByteArray := prog_14_method_72_code
def yX12_goNight : MethodName := ⟨RX12, "goNight", "()V"⟩
abbrev cX12_log : ByteArray := prog_14_method_75_code
def yX12_log : MethodName := ⟨RX12, "log", "(II)I"⟩
abbrev cX12_nthOf : ByteArray := prog_14_method_71_code
def yX12_nthOf : MethodName := ⟨RX12, "nthOf", "(II)I"⟩
theorem dX12_games_16 : decode cX12_games 16 = .ok (.iload_n 1, 1) := by decide +kernel
theorem dX12_games_17 : decode cX12_games 17 = .ok (.i2l, 1) := by decide +kernel
theorem dX12_games_18 : decode cX12_games 18 = .ok (.lconst 1, 1) := by decide +kernel
theorem dX12_games_19 : decode cX12_games 19 = .ok (.ldc2_w 432, 3) := by decide +kernel
theorem dX12_games_22 : decode cX12_games 22 = .ok (.invokestatic 215, 3) := by decide +kernel
theorem dX12_games_25 : decode cX12_games 25 = .ok (.ifCond .ne 5, 3) := by decide +kernel
theorem dX12_games_30 : decode cX12_games 30 = .ok (.aload_n 0, 1) := by decide +kernel
theorem dX12_games_31 : decode cX12_games 31 = .ok (.lload_n 2, 1) := by decide +kernel
theorem dX12_games_32 : decode cX12_games 32 = .ok (.putfield 408, 3) := by decide +kernel
theorem dX12_games_35 : decode cX12_games 35 = .ok (.iconst 0, 1) := by decide +kernel
theorem dX12_games_36 : decode cX12_games 36 = .ok (.istore 4, 2) := by decide +kernel
theorem dX12_games_38 : decode cX12_games 38 = .ok (.iload 4, 2) := by decide +kernel
theorem dX12_games_40 : decode cX12_games 40 = .ok (.iload_n 1, 1) := by decide +kernel
theorem dX12_games_41 : decode cX12_games 41 = .ok (.if_icmp .ge 22, 3) := by decide +kernel
theorem dX12_games_44 : decode cX12_games 44 = .ok (.aload_n 0, 1) := by decide +kernel
theorem dX12_games_45 : decode cX12_games 45 = .ok (.getfield 52, 3) := by decide +kernel
theorem dX12_games_48 : decode cX12_games 48 = .ok (.iconst 3, 1) := by decide +kernel
theorem dX12_games_49 : decode cX12_games 49 = .ok (.iaload, 1) := by decide +kernel
theorem dX12_games_50 : decode cX12_games 50 = .ok (.ifCond .ne 13, 3) := by decide +kernel
theorem dX12_games_53 : decode cX12_games 53 = .ok (.aload_n 0, 1) := by decide +kernel
theorem dX12_games_54 : decode cX12_games 54 = .ok (.invokevirtual 434, 3) := by decide +kernel
theorem dX12_games_57 : decode cX12_games 57 = .ok (.iinc 4 1, 3) := by decide +kernel
theorem dX12_games_60 : decode cX12_games 60 = .ok (.goto (-22), 3) := by decide +kernel
theorem dX12_games_63 : decode cX12_games 63 = .ok (.aload_n 0, 1) := by decide +kernel
theorem dX12_games_64 : decode cX12_games 64 = .ok (.getfield 52, 3) := by decide +kernel
theorem dX12_games_67 : decode cX12_games 67 = .ok (.iconst 4, 1) := by decide +kernel
theorem dX12_games_68 : decode cX12_games 68 = .ok (.iaload, 1) := by decide +kernel
theorem dX12_games_69 : decode cX12_games 69 = .ok (.ireturn, 1) := by decide +kernel
theorem dX12_goNight_0 : decode cX12_goNight 0 = .ok (.aload_n 0, 1) := by decide +kernel
theorem dX12_goNight_1 : decode cX12_goNight 1 = .ok (.getfield 52, 3) := by decide +kernel
theorem dX12_goNight_4 : decode cX12_goNight 4 = .ok (.iconst 2, 1) := by decide +kernel
theorem dX12_goNight_5 : decode cX12_goNight 5 = .ok (.iaload, 1) := by decide +kernel
theorem dX12_goNight_6 : decode cX12_goNight 6 = .ok (.iconst 1, 1) := by decide +kernel
theorem dX12_goNight_7 : decode cX12_goNight 7 = .ok (.if_icmp .ne 15, 3) := by decide +kernel
theorem dX12_goNight_10 : decode cX12_goNight 10 = .ok (.aload_n 0, 1) := by decide +kernel
theorem dX12_goNight_11 : decode cX12_goNight 11 = .ok (.invokevirtual 379, 3) := by decide +kernel
theorem dX12_goNight_14 : decode cX12_goNight 14 = .ok (.aload_n 0, 1) := by decide +kernel
theorem dX12_goNight_15 : decode cX12_goNight 15 = .ok (.getfield 52, 3) := by decide +kernel
theorem dX12_goNight_18 : decode cX12_goNight 18 = .ok (.invokestatic 398, 3) := by decide +kernel
theorem dX12_goNight_21 : decode cX12_goNight 21 = .ok (.istore_n 1, 1) := by decide +kernel
theorem dX12_goNight_22 : decode cX12_goNight 22 = .ok (.aload_n 0, 1) := by decide +kernel
theorem dX12_goNight_23 : decode cX12_goNight 23 = .ok (.bipush 100, 2) := by decide +kernel
theorem dX12_goNight_25 : decode cX12_goNight 25 = .ok (.invokevirtual 416, 3) := by decide +kernel
theorem dX12_goNight_28 : decode cX12_goNight 28 = .ok (.aload_n 0, 1) := by decide +kernel
theorem dX12_goNight_29 : decode cX12_goNight 29 = .ok (.getfield 360, 3) := by decide +kernel
theorem dX12_goNight_32 : decode cX12_goNight 32 = .ok (.if_icmp .ge 7, 3) := by decide +kernel
theorem dX12_goNight_35 : decode cX12_goNight 35 = .ok (.iconst 1, 1) := by decide +kernel
theorem dX12_goNight_36 : decode cX12_goNight 36 = .ok (.goto 4, 3) := by decide +kernel
theorem dX12_goNight_39 : decode cX12_goNight 39 = .ok (.iconst 0, 1) := by decide +kernel
theorem dX12_goNight_40 : decode cX12_goNight 40 = .ok (.istore_n 1, 1) := by decide +kernel
theorem dX12_goNight_41 : decode cX12_goNight 41 = .ok (.aload_n 0, 1) := by decide +kernel
theorem dX12_goNight_42 : decode cX12_goNight 42 = .ok (.aload_n 0, 1) := by decide +kernel
theorem dX12_goNight_43 : decode cX12_goNight 43 = .ok (.getfield 52, 3) := by decide +kernel
theorem dX12_goNight_46 : decode cX12_goNight 46 = .ok (.iconst 0, 1) := by decide +kernel
theorem dX12_goNight_47 : decode cX12_goNight 47 = .ok (.iaload, 1) := by decide +kernel
theorem dX12_goNight_48 : decode cX12_goNight 48 = .ok (.aload_n 0, 1) := by decide +kernel
theorem dX12_goNight_49 : decode cX12_goNight 49 = .ok (.getfield 52, 3) := by decide +kernel
theorem dX12_goNight_52 : decode cX12_goNight 52 = .ok (.iconst 1, 1) := by decide +kernel
theorem dX12_goNight_53 : decode cX12_goNight 53 = .ok (.iaload, 1) := by decide +kernel
theorem dX12_goNight_54 : decode cX12_goNight 54 = .ok (.aload_n 0, 1) := by decide +kernel
theorem dX12_goNight_55 : decode cX12_goNight 55 = .ok (.getfield 52, 3) := by decide +kernel
theorem dX12_goNight_58 : decode cX12_goNight 58 = .ok (.iconst 4, 1) := by decide +kernel
theorem dX12_goNight_59 : decode cX12_goNight 59 = .ok (.iaload, 1) := by decide +kernel
theorem dX12_goNight_60 : decode cX12_goNight 60 = .ok (.invokevirtual 419, 3) := by decide +kernel
theorem dX12_goNight_63 : decode cX12_goNight 63 = .ok (.istore_n 2, 1) := by decide +kernel
theorem dX12_goNight_64 : decode cX12_goNight 64 = .ok (.aload_n 0, 1) := by decide +kernel
theorem dX12_goNight_65 : decode cX12_goNight 65 = .ok (.invokevirtual 379, 3) := by decide +kernel
theorem dX12_goNight_68 : decode cX12_goNight 68 = .ok (.iload_n 1, 1) := by decide +kernel
theorem dX12_goNight_69 : decode cX12_goNight 69 = .ok (.ifCond .ne 7, 3) := by decide +kernel
theorem dX12_goNight_72 : decode cX12_goNight 72 = .ok (.iload_n 2, 1) := by decide +kernel
theorem dX12_goNight_73 : decode cX12_goNight 73 = .ok (.ifCond .ne 14, 3) := by decide +kernel
theorem dX12_goNight_76 : decode cX12_goNight 76 = .ok (.aload_n 0, 1) := by decide +kernel
theorem dX12_goNight_77 : decode cX12_goNight 77 = .ok (.getfield 52, 3) := by decide +kernel
theorem dX12_goNight_80 : decode cX12_goNight 80 = .ok (.invokestatic 398, 3) := by decide +kernel
theorem dX12_goNight_83 : decode cX12_goNight 83 = .ok (.istore_n 3, 1) := by decide +kernel
theorem dX12_goNight_84 : decode cX12_goNight 84 = .ok (.goto 23, 3) := by decide +kernel
theorem dX12_goNight_87 : decode cX12_goNight 87 = .ok (.aload_n 0, 1) := by decide +kernel
theorem dX12_goNight_88 : decode cX12_goNight 88 = .ok (.aload_n 0, 1) := by decide +kernel
theorem dX12_goNight_89 : decode cX12_goNight 89 = .ok (.getfield 52, 3) := by decide +kernel
theorem dX12_goNight_92 : decode cX12_goNight 92 = .ok (.iload_n 2, 1) := by decide +kernel
theorem dX12_goNight_93 : decode cX12_goNight 93 = .ok (.aload_n 0, 1) := by decide +kernel
theorem dX12_goNight_94 : decode cX12_goNight 94 = .ok (.iload_n 2, 1) := by decide +kernel
theorem dX12_goNight_95 : decode cX12_goNight 95 = .ok (.invokestatic 333, 3) := by decide +kernel
theorem dX12_goNight_98 : decode cX12_goNight 98 = .ok (.invokevirtual 416, 3) := by decide +kernel
theorem dX12_goNight_101 : decode cX12_goNight 101 = .ok (.invokestatic 422, 3) := by decide +kernel
theorem dX12_goNight_104 : decode cX12_goNight 104 = .ok (.invokevirtual 382, 3) := by decide +kernel
theorem dX12_goNight_107 : decode cX12_goNight 107 = .ok (.aload_n 0, 1) := by decide +kernel
theorem dX12_goNight_108 : decode cX12_goNight 108 = .ok (.getfield 52, 3) := by decide +kernel
theorem dX12_goNight_111 : decode cX12_goNight 111 = .ok (.iconst 3, 1) := by decide +kernel
theorem dX12_goNight_112 : decode cX12_goNight 112 = .ok (.iaload, 1) := by decide +kernel
theorem dX12_goNight_113 : decode cX12_goNight 113 = .ok (.iconst 1, 1) := by decide +kernel
theorem dX12_goNight_114 : decode cX12_goNight 114 = .ok (.if_icmp .ne 4, 3) := by decide +kernel
theorem dX12_goNight_117 : decode cX12_goNight 117 = .ok (.return_, 1) := by decide +kernel
theorem dX12_goNight_118 : decode cX12_goNight 118 = .ok (.aload_n 0, 1) := by decide +kernel
theorem dX12_goNight_119 : decode cX12_goNight 119 = .ok (.aload_n 0, 1) := by decide +kernel
theorem dX12_goNight_120 : decode cX12_goNight 120 = .ok (.getfield 52, 3) := by decide +kernel
theorem dX12_goNight_123 : decode cX12_goNight 123 = .ok (.iconst 0, 1) := by decide +kernel
theorem dX12_goNight_124 : decode cX12_goNight 124 = .ok (.iaload, 1) := by decide +kernel
theorem dX12_goNight_125 : decode cX12_goNight 125 = .ok (.aload_n 0, 1) := by decide +kernel
theorem dX12_goNight_126 : decode cX12_goNight 126 = .ok (.getfield 52, 3) := by decide +kernel
theorem dX12_goNight_129 : decode cX12_goNight 129 = .ok (.iconst 1, 1) := by decide +kernel
theorem dX12_goNight_130 : decode cX12_goNight 130 = .ok (.iaload, 1) := by decide +kernel
theorem dX12_goNight_131 : decode cX12_goNight 131 = .ok (.aload_n 0, 1) := by decide +kernel
theorem dX12_goNight_132 : decode cX12_goNight 132 = .ok (.getfield 52, 3) := by decide +kernel
theorem dX12_goNight_135 : decode cX12_goNight 135 = .ok (.iconst 4, 1) := by decide +kernel
theorem dX12_goNight_136 : decode cX12_goNight 136 = .ok (.iaload, 1) := by decide +kernel
theorem dX12_goNight_137 : decode cX12_goNight 137 = .ok (.invokevirtual 425, 3) := by decide +kernel
theorem dX12_goNight_140 : decode cX12_goNight 140 = .ok (.aload_n 0, 1) := by decide +kernel
theorem dX12_goNight_141 : decode cX12_goNight 141 = .ok (.invokevirtual 379, 3) := by decide +kernel
theorem dX12_goNight_144 : decode cX12_goNight 144 = .ok (.aload_n 0, 1) := by decide +kernel
theorem dX12_goNight_145 : decode cX12_goNight 145 = .ok (.getfield 429, 3) := by decide +kernel
theorem dX12_goNight_148 : decode cX12_goNight 148 = .ok (.iconst (-1), 1) := by decide +kernel
theorem dX12_goNight_149 : decode cX12_goNight 149 = .ok (.if_icmp .ne 14, 3) := by decide +kernel
theorem dX12_goNight_152 : decode cX12_goNight 152 = .ok (.aload_n 0, 1) := by decide +kernel
theorem dX12_goNight_153 : decode cX12_goNight 153 = .ok (.getfield 52, 3) := by decide +kernel
theorem dX12_goNight_156 : decode cX12_goNight 156 = .ok (.invokestatic 398, 3) := by decide +kernel
theorem dX12_goNight_159 : decode cX12_goNight 159 = .ok (.istore_n 3, 1) := by decide +kernel
theorem dX12_goNight_160 : decode cX12_goNight 160 = .ok (.goto 35, 3) := by decide +kernel
theorem dX12_goNight_163 : decode cX12_goNight 163 = .ok (.aload_n 0, 1) := by decide +kernel
theorem dX12_goNight_164 : decode cX12_goNight 164 = .ok (.aload_n 0, 1) := by decide +kernel
theorem dX12_goNight_165 : decode cX12_goNight 165 = .ok (.getfield 52, 3) := by decide +kernel
theorem dX12_goNight_168 : decode cX12_goNight 168 = .ok (.aload_n 0, 1) := by decide +kernel
theorem dX12_goNight_169 : decode cX12_goNight 169 = .ok (.getfield 429, 3) := by decide +kernel
theorem dX12_goNight_172 : decode cX12_goNight 172 = .ok (.bipush 100, 2) := by decide +kernel
theorem dX12_goNight_174 : decode cX12_goNight 174 = .ok (.idiv, 1) := by decide +kernel
theorem dX12_goNight_175 : decode cX12_goNight 175 = .ok (.aload_n 0, 1) := by decide +kernel
theorem dX12_goNight_176 : decode cX12_goNight 176 = .ok (.getfield 429, 3) := by decide +kernel
theorem dX12_goNight_179 : decode cX12_goNight 179 = .ok (.bipush 10, 2) := by decide +kernel
theorem dX12_goNight_181 : decode cX12_goNight 181 = .ok (.idiv, 1) := by decide +kernel
theorem dX12_goNight_182 : decode cX12_goNight 182 = .ok (.bipush 10, 2) := by decide +kernel
theorem dX12_goNight_184 : decode cX12_goNight 184 = .ok (.irem, 1) := by decide +kernel
theorem dX12_goNight_185 : decode cX12_goNight 185 = .ok (.aload_n 0, 1) := by decide +kernel
theorem dX12_goNight_186 : decode cX12_goNight 186 = .ok (.getfield 429, 3) := by decide +kernel
theorem dX12_goNight_189 : decode cX12_goNight 189 = .ok (.bipush 10, 2) := by decide +kernel
theorem dX12_goNight_191 : decode cX12_goNight 191 = .ok (.irem, 1) := by decide +kernel
theorem dX12_goNight_192 : decode cX12_goNight 192 = .ok (.invokevirtual 394, 3) := by decide +kernel
theorem dX12_goNight_195 : decode cX12_goNight 195 = .ok (.return_, 1) := by decide +kernel
theorem dX12_log_0 : decode cX12_log 0 = .ok (.aload_n 0, 1) := by decide +kernel
theorem dX12_log_1 : decode cX12_log 1 = .ok (.iconst 0, 1) := by decide +kernel
theorem dX12_log_2 : decode cX12_log 2 = .ok (.putfield 94, 3) := by decide +kernel
theorem dX12_log_5 : decode cX12_log 5 = .ok (.iload_n 1, 1) := by decide +kernel
theorem dX12_log_6 : decode cX12_log 6 = .ok (.i2l, 1) := by decide +kernel
theorem dX12_log_7 : decode cX12_log 7 = .ok (.lconst 0, 1) := by decide +kernel
theorem dX12_log_8 : decode cX12_log 8 = .ok (.aload_n 0, 1) := by decide +kernel
theorem dX12_log_9 : decode cX12_log 9 = .ok (.getfield 52, 3) := by decide +kernel
theorem dX12_log_12 : decode cX12_log 12 = .ok (.bipush 8, 2) := by decide +kernel
theorem dX12_log_14 : decode cX12_log 14 = .ok (.iaload, 1) := by decide +kernel
theorem dX12_log_15 : decode cX12_log 15 = .ok (.iconst 1, 1) := by decide +kernel
theorem dX12_log_16 : decode cX12_log 16 = .ok (.isub, 1) := by decide +kernel
theorem dX12_log_17 : decode cX12_log 17 = .ok (.i2l, 1) := by decide +kernel
theorem dX12_log_18 : decode cX12_log 18 = .ok (.invokestatic 215, 3) := by decide +kernel
theorem dX12_log_21 : decode cX12_log 21 = .ok (.ifCond .eq 41, 3) := by decide +kernel
theorem dX12_log_24 : decode cX12_log 24 = .ok (.iload_n 2, 1) := by decide +kernel
theorem dX12_log_25 : decode cX12_log 25 = .ok (.i2l, 1) := by decide +kernel
theorem dX12_log_26 : decode cX12_log 26 = .ok (.lconst 0, 1) := by decide +kernel
theorem dX12_log_27 : decode cX12_log 27 = .ok (.ldc2_w 437, 3) := by decide +kernel
theorem dX12_log_30 : decode cX12_log 30 = .ok (.invokestatic 215, 3) := by decide +kernel
theorem dX12_log_33 : decode cX12_log 33 = .ok (.ifCond .eq 29, 3) := by decide +kernel
theorem dX12_log_36 : decode cX12_log 36 = .ok (.aload_n 0, 1) := by decide +kernel
theorem dX12_log_37 : decode cX12_log 37 = .ok (.getfield 52, 3) := by decide +kernel
theorem dX12_log_40 : decode cX12_log 40 = .ok (.bipush 9, 2) := by decide +kernel
theorem dX12_log_42 : decode cX12_log 42 = .ok (.iconst 4, 1) := by decide +kernel
theorem dX12_log_43 : decode cX12_log 43 = .ok (.aload_n 0, 1) := by decide +kernel
theorem dX12_log_44 : decode cX12_log 44 = .ok (.getfield 52, 3) := by decide +kernel
theorem dX12_log_47 : decode cX12_log 47 = .ok (.bipush 8, 2) := by decide +kernel
theorem dX12_log_49 : decode cX12_log 49 = .ok (.iaload, 1) := by decide +kernel
theorem dX12_log_50 : decode cX12_log 50 = .ok (.iconst 1, 1) := by decide +kernel
theorem dX12_log_51 : decode cX12_log 51 = .ok (.isub, 1) := by decide +kernel
theorem dX12_log_52 : decode cX12_log 52 = .ok (.iload_n 1, 1) := by decide +kernel
theorem dX12_log_53 : decode cX12_log 53 = .ok (.isub, 1) := by decide +kernel
theorem dX12_log_54 : decode cX12_log 54 = .ok (.imul, 1) := by decide +kernel
theorem dX12_log_55 : decode cX12_log 55 = .ok (.iadd, 1) := by decide +kernel
theorem dX12_log_56 : decode cX12_log 56 = .ok (.iload_n 2, 1) := by decide +kernel
theorem dX12_log_57 : decode cX12_log 57 = .ok (.iadd, 1) := by decide +kernel
theorem dX12_log_58 : decode cX12_log 58 = .ok (.iaload, 1) := by decide +kernel
theorem dX12_log_59 : decode cX12_log 59 = .ok (.goto 6, 3) := by decide +kernel
theorem dX12_log_62 : decode cX12_log 62 = .ok (.ldc_w 439, 3) := by decide +kernel
theorem dX12_log_65 : decode cX12_log 65 = .ok (.ireturn, 1) := by decide +kernel
theorem dX12_nthOf_0 : decode cX12_nthOf 0 = .ok (.iconst 0, 1) := by decide +kernel
theorem dX12_nthOf_1 : decode cX12_nthOf 1 = .ok (.istore_n 2, 1) := by decide +kernel
theorem dX12_nthOf_2 : decode cX12_nthOf 2 = .ok (.iload_n 1, 1) := by decide +kernel
theorem dX12_nthOf_3 : decode cX12_nthOf 3 = .ok (.istore_n 3, 1) := by decide +kernel
theorem dX12_nthOf_4 : decode cX12_nthOf 4 = .ok (.iload_n 0, 1) := by decide +kernel
theorem dX12_nthOf_5 : decode cX12_nthOf 5 = .ok (.iload_n 2, 1) := by decide +kernel
theorem dX12_nthOf_6 : decode cX12_nthOf 6 = .ok (.invokestatic 227, 3) := by decide +kernel
theorem dX12_nthOf_9 : decode cX12_nthOf 9 = .ok (.ifCond .eq 7, 3) := by decide +kernel
theorem dX12_nthOf_12 : decode cX12_nthOf 12 = .ok (.iload_n 3, 1) := by decide +kernel
theorem dX12_nthOf_13 : decode cX12_nthOf 13 = .ok (.ifCond .le 25, 3) := by decide +kernel
theorem dX12_nthOf_16 : decode cX12_nthOf 16 = .ok (.iload_n 3, 1) := by decide +kernel
theorem dX12_nthOf_17 : decode cX12_nthOf 17 = .ok (.iload_n 0, 1) := by decide +kernel
theorem dX12_nthOf_18 : decode cX12_nthOf 18 = .ok (.iload_n 2, 1) := by decide +kernel
theorem dX12_nthOf_19 : decode cX12_nthOf 19 = .ok (.invokestatic 227, 3) := by decide +kernel
theorem dX12_nthOf_22 : decode cX12_nthOf 22 = .ok (.ifCond .eq 7, 3) := by decide +kernel
theorem dX12_nthOf_25 : decode cX12_nthOf 25 = .ok (.iconst 1, 1) := by decide +kernel
theorem dX12_nthOf_26 : decode cX12_nthOf 26 = .ok (.goto 4, 3) := by decide +kernel
theorem dX12_nthOf_29 : decode cX12_nthOf 29 = .ok (.iconst 0, 1) := by decide +kernel
theorem dX12_nthOf_30 : decode cX12_nthOf 30 = .ok (.isub, 1) := by decide +kernel
theorem dX12_nthOf_31 : decode cX12_nthOf 31 = .ok (.istore_n 3, 1) := by decide +kernel
theorem dX12_nthOf_32 : decode cX12_nthOf 32 = .ok (.iinc 2 1, 3) := by decide +kernel
theorem dX12_nthOf_35 : decode cX12_nthOf 35 = .ok (.goto (-31), 3) := by decide +kernel
theorem dX12_nthOf_38 : decode cX12_nthOf 38 = .ok (.iload_n 2, 1) := by decide +kernel
theorem dX12_nthOf_39 : decode cX12_nthOf 39 = .ok (.ireturn, 1) := by decide +kernel
theorem wl_8_156 : (.methodLink RX12 416 yX12_draw : Cond) ∈ sg_tbl := tb_8 _ (List.mem_of_getElem? (i := 156) (by decide +kernel)) (by decide +kernel)
theorem wl_8_166 : (.methodLink RX12 422 yX12_nthOf : Cond) ∈ sg_tbl := tb_8 _ (List.mem_of_getElem? (i := 166) (by decide +kernel)) (by decide +kernel)
theorem wl_8_151 : (.constantLong RX12 432 (30) : Cond) ∈ sg_tbl := tb_8 _ (List.mem_of_getElem? (i := 151) (by decide +kernel)) (by decide +kernel)
theorem wl_8_152 : (.methodLink RX12 434 yX12_goNight : Cond) ∈ sg_tbl := tb_8 _ (List.mem_of_getElem? (i := 152) (by decide +kernel)) (by decide +kernel)
theorem wl_8_168 : (.code yX12_nthOf cX12_nthOf 4 (some .int) : Cond) ∈ sg_tbl := tb_8 _ (List.mem_of_getElem? (i := 168) (by decide +kernel)) (by decide +kernel)
theorem wl_8_167 : (.static yX12_nthOf : Cond) ∈ sg_tbl := tb_8 _ (List.mem_of_getElem? (i := 167) (by decide +kernel)) (by decide +kernel)
theorem wl_8_188 : (.code yX12_log cX12_log 3 (some .int) : Cond) ∈ sg_tbl := tb_8 _ (List.mem_of_getElem? (i := 188) (by decide +kernel)) (by decide +kernel)
theorem wl_8_186 : (.instanceMethod yX12_log : Cond) ∈ sg_tbl := tb_8 _ (List.mem_of_getElem? (i := 186) (by decide +kernel)) (by decide +kernel)
theorem wl_8_187 : (.selects RX12 yX12_log yX12_log : Cond) ∈ sg_tbl := tb_8 _ (List.mem_of_getElem? (i := 187) (by decide +kernel)) (by decide +kernel)
theorem wl_8_155 : (.code yX12_goNight cX12_goNight 4 none : Cond) ∈ sg_tbl := tb_8 _ (List.mem_of_getElem? (i := 155) (by decide +kernel)) (by decide +kernel)
theorem wl_8_154 : (.instanceMethod yX12_goNight : Cond) ∈ sg_tbl := tb_8 _ (List.mem_of_getElem? (i := 154) (by decide +kernel)) (by decide +kernel)
theorem wl_0_85 : (.selects RX12 yX12_goNight yX12_goNight : Cond) ∈ sg_tbl := tb_0 _ (List.mem_of_getElem? (i := 85) (by decide +kernel)) (by decide +kernel)
section
variable {p : Program} {l : Launch} {e : Env} {R : Room} {s : State} {m : MethodId} {args : Array Value} {below : List Frame} {meth : Method} {c : Code} {H : Heap} {locs : List Loc} {cells slots : Nat} {Q : State → Prop} {cc : ByteArray} {nL pc : Nat} {ls : Array Slot} {rest : List Value} {own : String} {D : va_G} {A : Nat → Prop} {tys : List (ClassId × FieldType)} {ad ks : List Nat} {P : sgPm} {H0 : Heap} {index : Nat} {base : Nat} {st0 : List Value} {a : Nat}

set_option maxHeartbeats 8000000 in
set_option maxRecDepth 100000 in
theorem m_X12_has_h (l : Launch) {D : va_G} {base : Nat} {tys : List (ClassId × FieldType)} {ad ks : List Nat} {P : sgPm} {Hx : Heap} (x0 : Int32) (x1 : Int32) : sgPi l (KT P) D vwCl base tys ad ks Hx yX12_has cX12_has 2 (some .boolean) ({ frames := 0, cells := 0, slots := 0, locals := 0 }) [.int x0, .int x1] (fun r : Int32 => iv 0 1 r ∧ (r = 1 ↔ sgHas x0 x1)) := by
  refine sg_ofP (Pq := fun Hx => va_Qi (fun r (_ : Unit) => (fun r : Int32 => iv 0 1 r ∧ (r = 1 ↔ sgHas x0 x1)) r) (fun _ t => t.heap = Hx) (fun _ : Nat => False)) (by decide +kernel) (Nat.le_of_ble_eq_true rfl) (fun p e s m below meth c X hr hlk hb hK hC hG ls hl => ?_)
  have hS : va_S (fun _ : Nat => False) s.heap s.heap [] := va_S.rf
  have hl : lv_has ls 2 [(0, .int x0), (1, .int x1)] := hl
  refine lv_iload_n X.1 X.2.1 dX12_has_0 rfl (lv_at hl 0 rfl) ?_
  refine lv_iload_n X.1 X.2.1 dX12_has_1 rfl (lv_at hl 1 rfl) ?_
  refine lv_ishr X.1 X.2.1 dX12_has_2 ?_
  refine lv_topi (fun f1 ef1 => ?_)
  refine lv_iconst (v := 1) X.1 X.2.1 dX12_has_3 (by decide +kernel) ?_
  refine lv_iand X.1 X.2.1 dX12_has_4 ?_
  refine lv_topi (fun f2 ef2 => ?_)
  refine lv_iconst (v := 1) X.1 X.2.1 dX12_has_5 (by decide +kernel) ?_
  refine lv_icmp_ne (tgt := 13) X.1 X.2.1 dX12_has_6 (by decide) (fun c3 => ?_) (fun c3 => ?_)
  · refine lv_iconst (v := 0) X.1 X.2.1 dX12_has_13 (by decide +kernel) ?_
    exact sg_zretP X hr (sg_zn (iv_of (iv_c 0 (a := 0) (b := 0) (by decide +kernel)) (a' := 0) (b' := 1) (by decide +kernel))) hlk hS ⟨(iv_of (iv_c 0 (a := 0) (b := 0) (by decide +kernel)) (a' := 0) (b' := 1) (by decide +kernel)), ⟨fun h => absurd h (by decide), fun h => absurd ((sg_has0 ef1 ef2).mpr h) c3⟩⟩ dX12_has_14
  · refine lv_iconst (v := 1) X.1 X.2.1 dX12_has_9 (by decide +kernel) ?_
    refine lv_goto (tgt := 14) X.1 X.2.1 dX12_has_10 (by decide) ?_
    exact sg_zretP X hr (sg_zn (iv_of (iv_c 1 (a := 1) (b := 1) (by decide +kernel)) (a' := 0) (b' := 1) (by decide +kernel))) hlk hS ⟨(iv_of (iv_c 1 (a := 1) (b := 1) (by decide +kernel)) (a' := 0) (b' := 1) (by decide +kernel)), ⟨fun _ => (sg_has0 ef1 ef2).mp c3, fun _ => rfl⟩⟩ dX12_has_14

theorem ca_X12_has_h   (X : CallFix p m c cc nL s args sg_tbl own) (hK : va_K D vwCl tys s) (hG : sgG (KT P) D vwCl (fun q : Nat => base ≤ q) tys ad ks H) (hC : sgC base s) (hA : ∀ q : Nat, A q → base ≤ q) (hS : va_S A s.heap H locs) (hb : base ≤ s.heap.size) (x0 : Int32) (x1 : Int32) (hl : Cond.methodLink own index yX12_has ∈ sg_tbl) (hsize : ls.size = nL) (hst : st0 = [.int x0, .int x1].reverse ++ rest) (hW : (rest.map fun v => v.category).sum ≤ 8) (hR : 1 ≤ R.frames ∧ 21 ≤ R.locals) (hf : cells ≤ R.cells ∧ slots ≤ R.slots) (hdg : decode cc pc = .ok (.invokestatic index, 3)) (kk : ∀ (r : Int32) (locs1 : List Loc), (fun r : Int32 => iv 0 1 r ∧ (r = 1 ↔ sgHas x0 x1)) r → va_S A s.heap H locs1 → W p l e R s m args below meth c H locs1 cells slots Q (F0 m (pc + 3) ls (.int r :: rest))) : W p l e R s m args below meth c H locs cells slots Q (F0 m pc ls st0) :=
  sg_callPSi X hK hG hC hA hS hb (m_X12_has_h l x0 x1) wl_7_176 wl_1_13 wl_7_175 (n := 2) (by decide +kernel) rfl rfl rfl hl hsize hst hW hR hf hdg kk

set_option maxHeartbeats 8000000 in
set_option maxRecDepth 100000 in
theorem m_J6_bitCount_0f7a4_p (l : Launch) {D : va_G} {base : Nat} {tys : List (ClassId × FieldType)} {ad ks : List Nat} {P : sgPm} {Hx : Heap} (x0 : Int32) : sgPi l (KT P) D vwCl base tys ad ks Hx yJ6_bitCount_0f7a4 cJ6_bitCount_0f7a4 1 (some .int) ({ frames := 0, cells := 0, slots := 0, locals := 0 }) [.int x0] (fun r : Int32 => iv 0 63 r ∧ r.toInt = (sg_pc 32 x0.toBitVec.toNat : Int)) := by
  refine sg_ofP (Pq := fun Hx => va_Qi (fun r (_ : Unit) => (fun r : Int32 => iv 0 63 r ∧ r.toInt = (sg_pc 32 x0.toBitVec.toNat : Int)) r) (fun _ t => t.heap = Hx) (fun _ : Nat => False)) (by decide +kernel) (Nat.le_of_ble_eq_true rfl) (fun p e s m below meth c X hr hlk hb hK hC hG ls hl => ?_)
  have hS : va_S (fun _ : Nat => False) s.heap s.heap [] := va_S.rf
  have hl : lv_has ls 1 [(0, .int x0)] := hl
  refine lv_iload_n X.1 X.2.1 dJ6_bitCount_0f7a4_0 rfl (lv_at hl 0 rfl) ?_
  refine lv_iload_n X.1 X.2.1 dJ6_bitCount_0f7a4_1 rfl (lv_at hl 0 rfl) ?_
  refine lv_iconst (v := 1) X.1 X.2.1 dJ6_bitCount_0f7a4_2 (by decide +kernel) ?_
  obtain ⟨f1, ef1⟩ : ∃ y : Int32, y = (x0.toUInt32 >>> ((1 : Int32).toUInt32 &&& Int32.toUInt32 31)).toInt32 := ⟨_, rfl⟩
  refine lv_iushr (v := f1) X.1 X.2.1 dJ6_bitCount_0f7a4_3 ef1.symm ?_
  refine lv_ldcw X.1 X.2.1 X.2.2.2.1 (X.2.2.2.2 _ wl_4_105) dJ6_bitCount_0f7a4_4 ?_
  refine lv_iand X.1 X.2.1 dJ6_bitCount_0f7a4_7 ?_
  refine lv_topi (fun f2 ef2 => ?_)
  refine lv_isub X.1 X.2.1 dJ6_bitCount_0f7a4_8 ?_
  refine lv_topi (fun f3 ef3 => ?_)
  refine lv_istore_n (lv' := [(0, .int f3)]) X.1 X.2.1 dJ6_bitCount_0f7a4_9 rfl hl (by decide) rfl (fun ls hl => ?_)
  refine lv_iload_n X.1 X.2.1 dJ6_bitCount_0f7a4_10 rfl (lv_at hl 0 rfl) ?_
  refine lv_ldcw X.1 X.2.1 X.2.2.2.1 (X.2.2.2.2 _ wl_4_106) dJ6_bitCount_0f7a4_11 ?_
  refine lv_iand X.1 X.2.1 dJ6_bitCount_0f7a4_14 ?_
  refine lv_topi (fun f4 ef4 => ?_)
  refine lv_iload_n X.1 X.2.1 dJ6_bitCount_0f7a4_15 rfl (lv_at hl 0 rfl) ?_
  refine lv_iconst (v := 2) X.1 X.2.1 dJ6_bitCount_0f7a4_16 (by decide +kernel) ?_
  obtain ⟨f5, ef5⟩ : ∃ y : Int32, y = (f3.toUInt32 >>> ((2 : Int32).toUInt32 &&& Int32.toUInt32 31)).toInt32 := ⟨_, rfl⟩
  refine lv_iushr (v := f5) X.1 X.2.1 dJ6_bitCount_0f7a4_17 ef5.symm ?_
  refine lv_ldcw X.1 X.2.1 X.2.2.2.1 (X.2.2.2.2 _ wl_4_106) dJ6_bitCount_0f7a4_18 ?_
  refine lv_iand X.1 X.2.1 dJ6_bitCount_0f7a4_21 ?_
  refine lv_topi (fun f6 ef6 => ?_)
  refine lv_iadd X.1 X.2.1 dJ6_bitCount_0f7a4_22 ?_
  refine lv_topi (fun f7 ef7 => ?_)
  refine lv_istore_n (lv' := [(0, .int f7)]) X.1 X.2.1 dJ6_bitCount_0f7a4_23 rfl hl (by decide) rfl (fun ls hl => ?_)
  refine lv_iload_n X.1 X.2.1 dJ6_bitCount_0f7a4_24 rfl (lv_at hl 0 rfl) ?_
  refine lv_iload_n X.1 X.2.1 dJ6_bitCount_0f7a4_25 rfl (lv_at hl 0 rfl) ?_
  refine lv_iconst (v := 4) X.1 X.2.1 dJ6_bitCount_0f7a4_26 (by decide +kernel) ?_
  obtain ⟨f8, ef8⟩ : ∃ y : Int32, y = (f7.toUInt32 >>> ((4 : Int32).toUInt32 &&& Int32.toUInt32 31)).toInt32 := ⟨_, rfl⟩
  refine lv_iushr (v := f8) X.1 X.2.1 dJ6_bitCount_0f7a4_27 ef8.symm ?_
  refine lv_iadd X.1 X.2.1 dJ6_bitCount_0f7a4_28 ?_
  refine lv_topi (fun f9 ef9 => ?_)
  refine lv_ldcw X.1 X.2.1 X.2.2.2.1 (X.2.2.2.2 _ wl_4_107) dJ6_bitCount_0f7a4_29 ?_
  refine lv_iand X.1 X.2.1 dJ6_bitCount_0f7a4_32 ?_
  refine lv_topi (fun f10 ef10 => ?_)
  refine lv_istore_n (lv' := [(0, .int f10)]) X.1 X.2.1 dJ6_bitCount_0f7a4_33 rfl hl (by decide) rfl (fun ls hl => ?_)
  refine lv_iload_n X.1 X.2.1 dJ6_bitCount_0f7a4_34 rfl (lv_at hl 0 rfl) ?_
  refine lv_iload_n X.1 X.2.1 dJ6_bitCount_0f7a4_35 rfl (lv_at hl 0 rfl) ?_
  refine lv_bipush (v := 8) X.1 X.2.1 dJ6_bitCount_0f7a4_36 (by decide +kernel) ?_
  obtain ⟨f11, ef11⟩ : ∃ y : Int32, y = (f10.toUInt32 >>> ((8 : Int32).toUInt32 &&& Int32.toUInt32 31)).toInt32 := ⟨_, rfl⟩
  refine lv_iushr (v := f11) X.1 X.2.1 dJ6_bitCount_0f7a4_38 ef11.symm ?_
  refine lv_iadd X.1 X.2.1 dJ6_bitCount_0f7a4_39 ?_
  refine lv_topi (fun f12 ef12 => ?_)
  refine lv_istore_n (lv' := [(0, .int f12)]) X.1 X.2.1 dJ6_bitCount_0f7a4_40 rfl hl (by decide) rfl (fun ls hl => ?_)
  refine lv_iload_n X.1 X.2.1 dJ6_bitCount_0f7a4_41 rfl (lv_at hl 0 rfl) ?_
  refine lv_iload_n X.1 X.2.1 dJ6_bitCount_0f7a4_42 rfl (lv_at hl 0 rfl) ?_
  refine lv_bipush (v := 16) X.1 X.2.1 dJ6_bitCount_0f7a4_43 (by decide +kernel) ?_
  obtain ⟨f13, ef13⟩ : ∃ y : Int32, y = (f12.toUInt32 >>> ((16 : Int32).toUInt32 &&& Int32.toUInt32 31)).toInt32 := ⟨_, rfl⟩
  refine lv_iushr (v := f13) X.1 X.2.1 dJ6_bitCount_0f7a4_45 ef13.symm ?_
  refine lv_iadd X.1 X.2.1 dJ6_bitCount_0f7a4_46 ?_
  refine lv_topi (fun f14 ef14 => ?_)
  refine lv_istore_n (lv' := [(0, .int f14)]) X.1 X.2.1 dJ6_bitCount_0f7a4_47 rfl hl (by decide) rfl (fun ls hl => ?_)
  refine lv_iload_n X.1 X.2.1 dJ6_bitCount_0f7a4_48 rfl (lv_at hl 0 rfl) ?_
  refine lv_bipush (v := 63) X.1 X.2.1 dJ6_bitCount_0f7a4_49 (by decide +kernel) ?_
  refine lv_iand X.1 X.2.1 dJ6_bitCount_0f7a4_51 ?_
  refine lv_topi (fun f15 ef15 => ?_)
  exact sg_iretP X hr hlk hS (sg_bc ef1 ef2 ef3 ef4 ef5 ef6 ef7 ef8 ef9 ef10 ef11 ef12 ef13 ef14 ef15) dJ6_bitCount_0f7a4_52

theorem ca_J6_bitCount_0f7a4_p   (X : CallFix p m c cc nL s args sg_tbl own) (hK : va_K D vwCl tys s) (hG : sgG (KT P) D vwCl (fun q : Nat => base ≤ q) tys ad ks H) (hC : sgC base s) (hA : ∀ q : Nat, A q → base ≤ q) (hS : va_S A s.heap H locs) (hb : base ≤ s.heap.size) (x0 : Int32) (hl : Cond.methodLink own index yJ6_bitCount_0f7a4 ∈ sg_tbl) (hsize : ls.size = nL) (hst : st0 = [.int x0].reverse ++ rest) (hW : (rest.map fun v => v.category).sum ≤ 8) (hR : 1 ≤ R.frames ∧ 20 ≤ R.locals) (hf : cells ≤ R.cells ∧ slots ≤ R.slots) (hdg : decode cc pc = .ok (.invokestatic index, 3)) (kk : ∀ (r : Int32) (locs1 : List Loc), (fun r : Int32 => iv 0 63 r ∧ r.toInt = (sg_pc 32 x0.toBitVec.toNat : Int)) r → va_S A s.heap H locs1 → W p l e R s m args below meth c H locs1 cells slots Q (F0 m (pc + 3) ls (.int r :: rest))) : W p l e R s m args below meth c H locs cells slots Q (F0 m pc ls st0) :=
  sg_callPSi X hK hG hC hA hS hb (m_J6_bitCount_0f7a4_p l x0) wl_4_104 wl_1_26 wl_4_103 (n := 1) (by decide +kernel) rfl rfl rfl hl hsize hst hW hR hf hdg kk

set_option maxHeartbeats 8000000 in
set_option maxRecDepth 100000 in
theorem m_X12_nthOf (l : Launch) {D : va_G} {base : Nat} {tys : List (ClassId × FieldType)} {ad ks : List Nat} {P : sgPm} (x0 : Int32) (x1 : Int32) (hnz : ¬ x0 = 0) : sgMi l (KT P) D vwCl base tys ad ks yX12_nthOf cX12_nthOf 4 (some .int) ({ frames := 1, cells := 0, slots := 0, locals := 21 }) [.int x0, .int x1] (fun r : Int32 => True) := by
  refine sg_ofW (by decide +kernel) (Nat.le_of_ble_eq_true rfl) (fun p e s m below meth c X hr hlk hb hK hC hG ls hl => ?_)
  have hS : va_S (fun q : Nat => base ≤ q) s.heap s.heap [] := va_S.rf
  have hl : lv_has ls 4 [(0, .int x0), (1, .int x1)] := hl
  refine lv_iconst (v := 0) X.1 X.2.1 dX12_nthOf_0 (by decide +kernel) ?_
  refine lv_istore_n (lv' := [(2, .int 0), (0, .int x0), (1, .int x1)]) X.1 X.2.1 dX12_nthOf_1 rfl hl (by decide) rfl (fun ls hl => ?_)
  refine lv_iload_n X.1 X.2.1 dX12_nthOf_2 rfl (lv_at hl 2 rfl) ?_
  refine lv_istore_n (lv' := [(3, .int x1), (2, .int 0), (0, .int x0), (1, .int x1)]) X.1 X.2.1 dX12_nthOf_3 rfl hl (by decide) rfl (fun ls hl => ?_)
  have B1_4 : ∀ (N : Nat) (locs : List Loc) (ls : Array Slot) (z1_2 : Int32) (z1_3 : Int32), va_S (fun q : Nat => base ≤ q) s.heap s.heap locs → lv_has ls 4 [(0, .int x0), (2, .int z1_2), (3, .int z1_3)] → nth_M x0 z1_3 z1_2 + 1 ≤ N → W p l e (headSpec (Cond.code yX12_nthOf cX12_nthOf 4 (some .int) :: sg_tbl) ({ frames := 1, cells := 0, slots := 0, locals := 21 })).room s m #[.int x0, .int x1] below meth c s.heap locs 0 0 (MQ below (va_Qi (fun r (_ : Unit) => (fun r : Int32 => True) r) (fun _ => sgB (KT P) D vwCl base tys ad ks) (fun q : Nat => base ≤ q)) #[.int x0, .int x1] s 0 0 (fun q : Nat => base ≤ q)) (F0 m 4 ls []) := by
    intro N; induction N with
    | zero =>
      intro locs ls z1_2 z1_3 hS hl hN
      exact absurd hN (by have := (Nat.succ_pos (nth_M x0 z1_3 z1_2)); omega)
    | succ N ih1 =>
      intro locs ls z1_2 z1_3 hS hl hN1
      refine lv_iload_n X.1 X.2.1 dX12_nthOf_4 rfl (lv_at hl 0 rfl) ?_
      refine lv_iload_n X.1 X.2.1 dX12_nthOf_5 rfl (lv_at hl 1 rfl) ?_
      refine ca_X12_has_h X hK hG hC (fun _ h => h) hS hb x0 z1_2 wl_7_174 hl.1 (rest := []) rfl (Nat.le_of_ble_eq_true rfl) ⟨Nat.le_of_ble_eq_true rfl, Nat.le_of_ble_eq_true rfl⟩ ⟨Nat.le_of_ble_eq_true rfl, Nat.le_of_ble_eq_true rfl⟩ dX12_nthOf_6 (fun f2 locs hf2 hS => ?_)
      refine lv_if_eq (tgt := 16) X.1 X.2.1 dX12_nthOf_9 (by decide) (fun c3 => ?_) (fun c3 => ?_)
      · have hsq4 : ¬ sgHas x0 z1_2 := sg_hasf hf2.1 hf2.2 c3
        refine lv_iload_n X.1 X.2.1 dX12_nthOf_16 rfl (lv_at hl 2 rfl) ?_
        refine lv_iload_n X.1 X.2.1 dX12_nthOf_17 rfl (lv_at hl 0 rfl) ?_
        refine lv_iload_n X.1 X.2.1 dX12_nthOf_18 rfl (lv_at hl 1 rfl) ?_
        refine ca_X12_has_h X hK hG hC (fun _ h => h) hS hb x0 z1_2 wl_7_174 hl.1 (rest := [.int z1_3]) rfl (Nat.le_of_ble_eq_true rfl) ⟨Nat.le_of_ble_eq_true rfl, Nat.le_of_ble_eq_true rfl⟩ ⟨Nat.le_of_ble_eq_true rfl, Nat.le_of_ble_eq_true rfl⟩ dX12_nthOf_19 (fun f6 locs hf6 hS => ?_)
        refine lv_if_eq (tgt := 29) X.1 X.2.1 dX12_nthOf_22 (by decide) (fun c7 => ?_) (fun c7 => ?_)
        · have hsq8 : ¬ sgHas x0 z1_2 := sg_hasf hf6.1 hf6.2 c7
          refine lv_iconst (v := 0) X.1 X.2.1 dX12_nthOf_29 (by decide +kernel) ?_
          refine lv_isub X.1 X.2.1 dX12_nthOf_30 ?_
          refine lv_topi (fun f10 ef10 => ?_)
          refine lv_istore_n (lv' := [(3, .int f10), (0, .int x0), (2, .int z1_2)]) X.1 X.2.1 dX12_nthOf_31 rfl hl (by decide) rfl (fun ls hl => ?_)
          obtain ⟨y11, ey11⟩ : ∃ y : Int32, y = z1_2 + Int32.ofInt 1 := ⟨_, rfl⟩
          refine lv_iinc (v := y11) (lv' := [(2, .int y11), (3, .int f10), (0, .int x0)]) X.1 X.2.1 dX12_nthOf_32 hl (k := 2) rfl ey11.symm (by decide) rfl (fun ls hl => ?_)
          refine lv_goto (tgt := 4) X.1 X.2.1 dX12_nthOf_35 (by decide) ?_
          have nd1 : nth_M x0 f10 y11 < nth_M x0 z1_3 z1_2 := by first | exact nth_dec1 (by assumption) (by assumption) (by assumption) (by assumption) | exact nth_dec2 hnz (by assumption) (by assumption) (by assumption) | exact absurd (by assumption : sgHas x0 z1_2) (by assumption)
          exact ih1 _ _ y11 f10 hS (lv_sub hl [2, 0, 1] rfl) (by omega)
        · have hsq9 : sgHas x0 z1_2 := sg_hast hf6.1 hf6.2 c7
          refine lv_iconst (v := 1) X.1 X.2.1 dX12_nthOf_25 (by decide +kernel) ?_
          refine lv_goto (tgt := 30) X.1 X.2.1 dX12_nthOf_26 (by decide) ?_
          refine lv_isub X.1 X.2.1 dX12_nthOf_30 ?_
          refine lv_topi (fun f12 ef12 => ?_)
          refine lv_istore_n (lv' := [(3, .int f12), (0, .int x0), (2, .int z1_2)]) X.1 X.2.1 dX12_nthOf_31 rfl hl (by decide) rfl (fun ls hl => ?_)
          obtain ⟨y13, ey13⟩ : ∃ y : Int32, y = z1_2 + Int32.ofInt 1 := ⟨_, rfl⟩
          refine lv_iinc (v := y13) (lv' := [(2, .int y13), (3, .int f12), (0, .int x0)]) X.1 X.2.1 dX12_nthOf_32 hl (k := 2) rfl ey13.symm (by decide) rfl (fun ls hl => ?_)
          refine lv_goto (tgt := 4) X.1 X.2.1 dX12_nthOf_35 (by decide) ?_
          have nd1 : nth_M x0 f12 y13 < nth_M x0 z1_3 z1_2 := by first | exact nth_dec1 (by assumption) (by assumption) (by assumption) (by assumption) | exact nth_dec2 hnz (by assumption) (by assumption) (by assumption) | exact absurd (by assumption : sgHas x0 z1_2) (by assumption)
          exact ih1 _ _ y13 f12 hS (lv_sub hl [2, 0, 1] rfl) (by omega)
      · have hsq5 : sgHas x0 z1_2 := sg_hast hf2.1 hf2.2 c3
        refine lv_iload_n X.1 X.2.1 dX12_nthOf_12 rfl (lv_at hl 2 rfl) ?_
        refine lv_if_le (tgt := 38) X.1 X.2.1 dX12_nthOf_13 (by decide) (fun c14 => ?_) (fun c14 => ?_)
        · refine lv_iload_n X.1 X.2.1 dX12_nthOf_38 rfl (lv_at hl 1 rfl) ?_
          exact sg_iret X hr hlk hb hK hC hG hS trivial dX12_nthOf_39
        · refine lv_iload_n X.1 X.2.1 dX12_nthOf_16 rfl (lv_at hl 2 rfl) ?_
          refine lv_iload_n X.1 X.2.1 dX12_nthOf_17 rfl (lv_at hl 0 rfl) ?_
          refine lv_iload_n X.1 X.2.1 dX12_nthOf_18 rfl (lv_at hl 1 rfl) ?_
          refine ca_X12_has_h X hK hG hC (fun _ h => h) hS hb x0 z1_2 wl_7_174 hl.1 (rest := [.int z1_3]) rfl (Nat.le_of_ble_eq_true rfl) ⟨Nat.le_of_ble_eq_true rfl, Nat.le_of_ble_eq_true rfl⟩ ⟨Nat.le_of_ble_eq_true rfl, Nat.le_of_ble_eq_true rfl⟩ dX12_nthOf_19 (fun f15 locs hf15 hS => ?_)
          refine lv_if_eq (tgt := 29) X.1 X.2.1 dX12_nthOf_22 (by decide) (fun c16 => ?_) (fun c16 => ?_)
          · have hsq17 : ¬ sgHas x0 z1_2 := sg_hasf hf15.1 hf15.2 c16
            refine lv_iconst (v := 0) X.1 X.2.1 dX12_nthOf_29 (by decide +kernel) ?_
            refine lv_isub X.1 X.2.1 dX12_nthOf_30 ?_
            refine lv_topi (fun f19 ef19 => ?_)
            refine lv_istore_n (lv' := [(3, .int f19), (0, .int x0), (2, .int z1_2)]) X.1 X.2.1 dX12_nthOf_31 rfl hl (by decide) rfl (fun ls hl => ?_)
            obtain ⟨y20, ey20⟩ : ∃ y : Int32, y = z1_2 + Int32.ofInt 1 := ⟨_, rfl⟩
            refine lv_iinc (v := y20) (lv' := [(2, .int y20), (3, .int f19), (0, .int x0)]) X.1 X.2.1 dX12_nthOf_32 hl (k := 2) rfl ey20.symm (by decide) rfl (fun ls hl => ?_)
            refine lv_goto (tgt := 4) X.1 X.2.1 dX12_nthOf_35 (by decide) ?_
            have nd1 : nth_M x0 f19 y20 < nth_M x0 z1_3 z1_2 := by first | exact nth_dec1 (by assumption) (by assumption) (by assumption) (by assumption) | exact nth_dec2 hnz (by assumption) (by assumption) (by assumption) | exact absurd (by assumption : sgHas x0 z1_2) (by assumption)
            exact ih1 _ _ y20 f19 hS (lv_sub hl [2, 0, 1] rfl) (by omega)
          · have hsq18 : sgHas x0 z1_2 := sg_hast hf15.1 hf15.2 c16
            refine lv_iconst (v := 1) X.1 X.2.1 dX12_nthOf_25 (by decide +kernel) ?_
            refine lv_goto (tgt := 30) X.1 X.2.1 dX12_nthOf_26 (by decide) ?_
            refine lv_isub X.1 X.2.1 dX12_nthOf_30 ?_
            refine lv_topi (fun f21 ef21 => ?_)
            refine lv_istore_n (lv' := [(3, .int f21), (0, .int x0), (2, .int z1_2)]) X.1 X.2.1 dX12_nthOf_31 rfl hl (by decide) rfl (fun ls hl => ?_)
            obtain ⟨y22, ey22⟩ : ∃ y : Int32, y = z1_2 + Int32.ofInt 1 := ⟨_, rfl⟩
            refine lv_iinc (v := y22) (lv' := [(2, .int y22), (3, .int f21), (0, .int x0)]) X.1 X.2.1 dX12_nthOf_32 hl (k := 2) rfl ey22.symm (by decide) rfl (fun ls hl => ?_)
            refine lv_goto (tgt := 4) X.1 X.2.1 dX12_nthOf_35 (by decide) ?_
            have nd1 : nth_M x0 f21 y22 < nth_M x0 z1_3 z1_2 := by first | exact nth_dec1 (by assumption) (by assumption) (by assumption) (by assumption) | exact nth_dec2 hnz (by assumption) (by assumption) (by assumption) | exact absurd (by assumption : sgHas x0 z1_2) (by assumption)
            exact ih1 _ _ y22 f21 hS (lv_sub hl [2, 0, 1] rfl) (by omega)
  exact B1_4 _ _ _ 0 x1 hS (lv_sub hl [2, 1, 0] rfl) (Nat.le_refl _)

theorem ca_X12_nthOf   (X : CallFix p m c cc nL s args sg_tbl own) (hK : va_K D vwCl tys s) (hG : sgG (KT P) D vwCl (fun q : Nat => base ≤ q) tys ad ks H) (hC : sgC base s) (hS : va_S (fun q : Nat => base ≤ q) s.heap H locs) (hb : base ≤ s.heap.size) (x0 : Int32) (x1 : Int32) (hnz : ¬ x0 = 0) (hl : Cond.methodLink own index yX12_nthOf ∈ sg_tbl) (hsize : ls.size = nL) (hst : st0 = [.int x0, .int x1].reverse ++ rest) (hW : (rest.map fun v => v.category).sum ≤ 8) (hR : 2 ≤ R.frames ∧ 44 ≤ R.locals) (hf : cells ≤ R.cells ∧ slots ≤ R.slots) (hdg : decode cc pc = .ok (.invokestatic index, 3)) (kk : ∀ (r : Int32) (H1 : Heap) (locs1 : List Loc), (fun r : Int32 => True) r → sgG (KT P) D vwCl (fun q : Nat => base ≤ q) tys ad ks H1 → va_S (fun q : Nat => base ≤ q) s.heap H1 locs1 → W p l e R s m args below meth c H1 locs1 cells slots Q (F0 m (pc + 3) ls (.int r :: rest))) : W p l e R s m args below meth c H locs cells slots Q (F0 m pc ls st0) :=
  sg_callSi X hK hG hC hS hb (m_X12_nthOf l x0 x1 hnz) wl_8_168 wl_1_13 wl_8_167 (n := 2) (by decide +kernel) rfl rfl rfl hl hsize hst hW hR hf hdg kk

set_option maxHeartbeats 8000000 in
set_option maxRecDepth 100000 in
theorem m_X12_log (l : Launch) {D : va_G} {base : Nat} {tys : List (ClassId × FieldType)} {ad ks : List Nat} {P : sgPm} (a0 : Nat) (h0 : isK ad ks 12 a0) (x1 : Int32) (x2 : Int32) : sgMi l (KT P) D vwCl base tys ad ks yX12_log cX12_log 3 (some .int) ({ frames := 1, cells := 0, slots := 0, locals := 25 }) [.ref a0, .int x1, .int x2] (fun r : Int32 => True) := by
  refine sg_ofW (by decide +kernel) (Nat.le_of_ble_eq_true rfl) (fun p e s m below meth c X hr hlk hb hK hC hG ls hl => ?_)
  have hS : va_S (fun q : Nat => base ≤ q) s.heap s.heap [] := va_S.rf
  have hl : lv_has ls 3 [(0, .ref a0), (1, .int x1), (2, .int x2)] := hl
  refine lv_aload_n X.1 X.2.1 dX12_log_0 rfl (lv_at hl 0 rfl) ?_
  refine lv_iconst (v := 0) X.1 X.2.1 dX12_log_1 (by decide +kernel) ?_
  refine pf_X12_0 X hK hG hS h0 wl_6_178 ⟨_, rfl, (iv_top _)⟩ dX12_log_2 (fun H locs hG hS ku1 ru1 => ?_)
  refine lv_iload_n X.1 X.2.1 dX12_log_5 rfl (lv_at hl 1 rfl) ?_
  obtain ⟨g2, eg2⟩ : ∃ y : Int64, y = (x1 : Int32).toInt64 := ⟨_, rfl⟩
  refine lv_i2l (v := g2) X.1 X.2.1 dX12_log_6 eg2.symm ?_
  refine lv_lconst (v := 0) X.1 X.2.1 dX12_log_7 (by decide +kernel) ?_
  refine lv_aload_n X.1 X.2.1 dX12_log_8 rfl (lv_at hl 0 rfl) ?_
  refine gf_X12_32 X hK hG h0 wl_6_210 dX12_log_9 (fun q3 hq3 kq3 => ?_)
  refine lv_bipush (v := 8) X.1 X.2.1 dX12_log_12 (by decide +kernel) ?_
  refine sg_ialdE X hK hG hq3 (k := 54) rfl (iv_vpin (iv_c 8 (a := 8) (b := 8) (by decide +kernel)) (by decide +kernel)) (n0 := 8) (sg_cl (iv_c 8 (a := 8) (b := 8) (by decide +kernel)) (by decide +kernel)) dX12_log_14 (fun f4 hf4 kf4 => ?_)
  have hf4 := sg_nw_now hf4
  have of4 := hf4
  have hf4 : iv 0 60 f4 := sg_sp_now hf4 (iv_c 8 (a := 8) (b := 8) (by decide +kernel)) (by decide +kernel) rfl
  refine lv_iconst (v := 1) X.1 X.2.1 dX12_log_15 (by decide +kernel) ?_
  refine lv_isub X.1 X.2.1 dX12_log_16 ?_
  refine lv_topi (fun f5 ef5 => ?_)
  obtain ⟨g6, eg6⟩ : ∃ y : Int64, y = (f5 : Int32).toInt64 := ⟨_, rfl⟩
  refine lv_i2l (v := g6) X.1 X.2.1 dX12_log_17 eg6.symm ?_
  refine ca_X12_isIn X hK hG hC (fun _ h => h) hS hb g2 0 g6 wl_7_119 hl.1 (rest := []) rfl (Nat.le_of_ble_eq_true rfl) ⟨Nat.le_of_ble_eq_true rfl, Nat.le_of_ble_eq_true rfl⟩ ⟨Nat.le_of_ble_eq_true rfl, Nat.le_of_ble_eq_true rfl⟩ dX12_log_18 (fun f7 locs hf7 hS => ?_)
  have B9_62 : ∀ (locs : List Loc) (ls : Array Slot), va_S (fun q : Nat => base ≤ q) s.heap H locs → lv_has ls 3 [] → W p l e (headSpec (Cond.code yX12_log cX12_log 3 (some .int) :: sg_tbl) ({ frames := 1, cells := 0, slots := 0, locals := 25 })).room s m #[.ref a0, .int x1, .int x2] below meth c H locs 0 0 (MQ below (va_Qi (fun r (_ : Unit) => (fun r : Int32 => True) r) (fun _ => sgB (KT P) D vwCl base tys ad ks) (fun q : Nat => base ≤ q)) #[.ref a0, .int x1, .int x2] s 0 0 (fun q : Nat => base ≤ q)) (F0 m 62 ls []) := by
    intro locs ls hS hl
    refine lv_ldcw X.1 X.2.1 X.2.2.2.1 (X.2.2.2.2 _ wl_8_190) dX12_log_62 ?_
    exact sg_iret X hr hlk hb hK hC hG hS trivial dX12_log_65
  refine lv_if_eq (tgt := 62) X.1 X.2.1 dX12_log_21 (by decide) (fun c8 => ?_) (fun c8 => ?_)
  · exact B9_62 _ _ hS (lv_sub hl [] rfl)
  · have ilq10 : x1.toInt ≤ f5.toInt := sg_isinI (hf7.2 c8) eg2 eg6
    refine lv_iload_n X.1 X.2.1 dX12_log_24 rfl (lv_at hl 2 rfl) ?_
    obtain ⟨g11, eg11⟩ : ∃ y : Int64, y = (x2 : Int32).toInt64 := ⟨_, rfl⟩
    refine lv_i2l (v := g11) X.1 X.2.1 dX12_log_25 eg11.symm ?_
    refine lv_lconst (v := 0) X.1 X.2.1 dX12_log_26 (by decide +kernel) ?_
    refine lv_ldc2 X.1 X.2.1 X.2.2.2.1 (X.2.2.2.2 _ wl_8_189) dX12_log_27 ?_
    refine ca_X12_isIn X hK hG hC (fun _ h => h) hS hb g11 0 3 wl_7_119 hl.1 (rest := []) rfl (Nat.le_of_ble_eq_true rfl) ⟨Nat.le_of_ble_eq_true rfl, Nat.le_of_ble_eq_true rfl⟩ ⟨Nat.le_of_ble_eq_true rfl, Nat.le_of_ble_eq_true rfl⟩ dX12_log_30 (fun f12 locs hf12 hS => ?_)
    refine lv_if_eq (tgt := 62) X.1 X.2.1 dX12_log_33 (by decide) (fun c13 => ?_) (fun c13 => ?_)
    · exact B9_62 _ _ hS (lv_sub hl [] rfl)
    · refine lv_aload_n X.1 X.2.1 dX12_log_36 rfl (lv_at hl 0 rfl) ?_
      refine gg_X12_32 X hK hG h0 wl_6_210 kq3 dX12_log_37 ?_
      refine lv_bipush (v := 9) X.1 X.2.1 dX12_log_40 (by decide +kernel) ?_
      refine lv_iconst (v := 4) X.1 X.2.1 dX12_log_42 (by decide +kernel) ?_
      refine lv_aload_n X.1 X.2.1 dX12_log_43 rfl (lv_at hl 0 rfl) ?_
      refine gg_X12_32 X hK hG h0 wl_6_210 kq3 dX12_log_44 ?_
      refine lv_bipush (v := 8) X.1 X.2.1 dX12_log_47 (by decide +kernel) ?_
      refine sg_ialdK X hK hG hq3 (k := 54) rfl (iv_vpin (iv_c 8 (a := 8) (b := 8) (by decide +kernel)) (by decide +kernel)) (n0 := 8) (sg_cl (iv_c 8 (a := 8) (b := 8) (by decide +kernel)) (by decide +kernel)) kf4 dX12_log_49 ?_
      refine lv_iconst (v := 1) X.1 X.2.1 dX12_log_50 (by decide +kernel) ?_
      refine lv_isub X.1 X.2.1 dX12_log_51 ?_
      refine lv_topi (fun f15 ef15 => ?_)
      refine lv_iload_n X.1 X.2.1 dX12_log_52 rfl (lv_at hl 1 rfl) ?_
      refine lv_isub X.1 X.2.1 dX12_log_53 ?_
      refine lv_topi (fun f16 ef16 => ?_)
      have bq17 : 0 ≤ f4.toInt ∧ f4.toInt ≤ 60 := hf4
      have xf15 : f15.toInt = f4.toInt - 1 := sg_dec (k := 1) ef15 hf4 (by decide +kernel)
      have bq18 : 0 ≤ x1.toInt ∧ x1.toInt ≤ 59 := (sg_isin (a := 0) (b := 59) (hf7.2 c8) eg2 (by decide +kernel) (sg_lbu eg6 (iv_sub (a' := (-1)) (b' := 59) ef5 hf4 (iv_c 1 (a := 1) (b := 1) (by decide +kernel)) (by decide +kernel))))
      have xf16 : f16.toInt = f15.toInt - x1.toInt := sg_exsub ef16 (iv_sub (a' := (-1)) (b' := 59) ef15 hf4 (iv_c 1 (a := 1) (b := 1) (by decide +kernel)) (by decide +kernel)) (sg_isin (a := 0) (b := 59) (hf7.2 c8) eg2 (by decide +kernel) (sg_lbu eg6 (iv_sub (a' := (-1)) (b' := 59) ef5 hf4 (iv_c 1 (a := 1) (b := 1) (by decide +kernel)) (by decide +kernel)))) (by decide +kernel) rfl rfl
      have xf5 : f5.toInt = f4.toInt - 1 := sg_dec (k := 1) ef5 hf4 (by decide +kernel)
      have hw54 : iv 0 59 f16 := ⟨by omega, by omega⟩
      refine lv_imul X.1 X.2.1 dX12_log_54 ?_
      refine lv_topi (fun f19 ef19 => ?_)
      refine lv_iadd X.1 X.2.1 dX12_log_55 ?_
      refine lv_topi (fun f20 ef20 => ?_)
      refine lv_iload_n X.1 X.2.1 dX12_log_56 rfl (lv_at hl 2 rfl) ?_
      refine lv_iadd X.1 X.2.1 dX12_log_57 ?_
      refine lv_topi (fun f21 ef21 => ?_)
      refine al_54 X hK hG hq3 (iv_vpin (iv_add (a' := 9) (b' := 248) ef21 (iv_add (a' := 9) (b' := 245) ef20 (iv_c 9 (a := 9) (b := 9) (by decide +kernel)) (iv_mul (a' := 0) (b' := 236) ef19 (iv_c 4 (a := 4) (b := 4) (by decide +kernel)) hw54 (by decide +kernel)) (by decide +kernel)) (sg_isin (a := 0) (b := 3) (hf12.2 c13) eg11 (by decide +kernel) (by decide +kernel)) (by decide +kernel)) (by decide +kernel)) dX12_log_58 (fun f22 hf22 => ?_)
      have hf22 := sg_nw_now hf22
      have of22 := hf22
      have hf22 : iv (-2147483648) 2147483647 f22 := sg_spa_now hf22
      refine lv_goto (tgt := 65) X.1 X.2.1 dX12_log_59 (by decide) ?_
      exact sg_iret X hr hlk hb hK hC hG hS trivial dX12_log_65

theorem ca_X12_log   (X : CallFix p m c cc nL s args sg_tbl own) (hK : va_K D vwCl tys s) (hG : sgG (KT P) D vwCl (fun q : Nat => base ≤ q) tys ad ks H) (hC : sgC base s) (hS : va_S (fun q : Nat => base ≤ q) s.heap H locs) (hb : base ≤ s.heap.size) (a0 : Nat) (h0 : isK ad ks 12 a0) (x1 : Int32) (x2 : Int32) (hl : Cond.methodLink own index yX12_log ∈ sg_tbl) (hsize : ls.size = nL) (hst : st0 = [.int x1, .int x2].reverse ++ .ref a0 :: rest) (hW : (rest.map fun v => v.category).sum ≤ 8) (hR : 2 ≤ R.frames ∧ 47 ≤ R.locals) (hf : cells ≤ R.cells ∧ slots ≤ R.slots) (hdg : decode cc pc = .ok (.invokevirtual index, 3)) (kk : ∀ (r : Int32) (H1 : Heap) (locs1 : List Loc), (fun r : Int32 => True) r → sgG (KT P) D vwCl (fun q : Nat => base ≤ q) tys ad ks H1 → va_S (fun q : Nat => base ≤ q) s.heap H1 locs1 → W p l e R s m args below meth c H1 locs1 cells slots Q (F0 m (pc + 3) ls (.int r :: rest))) : W p l e R s m args below meth c H locs cells slots Q (F0 m pc ls st0) :=
  sg_callVi X hK hG hC hS hb (m_X12_log l a0 h0 x1 x2) h0 (k := 12) (ci := 12) rfl (C := RX12) (T := TX12) (N := 53) rfl wl_8_188 wl_1_13 wl_8_186 wl_8_187 (n := 2) (by decide +kernel) rfl rfl rfl hl hsize hst hW hR hf hdg kk

set_option maxHeartbeats 8000000 in
set_option maxRecDepth 100000 in
theorem m_X12_goNight_1 (l : Launch) {D : va_G} {base : Nat} {tys : List (ClassId × FieldType)} {ad ks : List Nat} {P : sgPm} (hp4 : P.2.2.2.2.1 = true) (hp10 : sgPin P = none) (a0 : Nat) (h0 : isK ad ks 12 a0) (hN : sgN P + 3 ≤ 1000000000) : Met l yX12_goNight (Cond.code yX12_goNight cX12_goNight 4 none :: sg_tbl) ({ frames := 36, cells := 0, slots := 0, locals := 845 }) (va_Pc [.ref a0] (sgB (KT P) D vwCl base tys ad ks)) (va_Qv (fun (_ : Unit) => True) (fun _ => sgB (KT (sgAt P (sgN P + 3))) D vwCl base tys ad ks) (fun q : Nat => base ≤ q)) 0 0 (fun q : Nat => base ≤ q) := by
  refine sg_ofW (by decide +kernel) (Nat.le_of_ble_eq_true rfl) (fun p e s m below meth c X hr hlk hb hK hC hG ls hl => ?_)
  have hS : va_S (fun q : Nat => base ≤ q) s.heap s.heap [] := va_S.rf
  have hl : lv_has ls 4 [(0, .ref a0)] := hl
  refine lv_aload_n X.1 X.2.1 dX12_goNight_0 rfl (lv_at hl 0 rfl) ?_
  refine gf_X12_32 X hK hG h0 wl_6_210 dX12_goNight_1 (fun q1 hq1 kq1 => ?_)
  refine lv_iconst (v := 2) X.1 X.2.1 dX12_goNight_4 (by decide +kernel) ?_
  refine al_54 X hK hG hq1 (iv_vpin (iv_c 2 (a := 2) (b := 2) (by decide +kernel)) (by decide +kernel)) dX12_goNight_5 (fun f2 hf2 => ?_)
  have hf2 := sg_nw_now hf2
  have of2 := hf2
  have hf2 : iv 0 1 f2 := sg_sp_now hf2 (iv_c 2 (a := 2) (b := 2) (by decide +kernel)) (by decide +kernel) rfl
  refine lv_iconst (v := 1) X.1 X.2.1 dX12_goNight_6 (by decide +kernel) ?_
  have B4_22 : ∀ (H : Heap) (locs : List Loc) (ls : Array Slot) (n4 : Nat), sgN P ≤ n4 → (n4 : Int) ≤ sgN P + 1 → sgG (KT (sgAt P n4)) D vwCl (fun q : Nat => base ≤ q) tys ad ks H → va_S (fun q : Nat => base ≤ q) s.heap H locs → lv_has ls 4 [(0, .ref a0)] → W p l e (headSpec (Cond.code yX12_goNight cX12_goNight 4 none :: sg_tbl) ({ frames := 36, cells := 0, slots := 0, locals := 845 })).room s m #[.ref a0] below meth c H locs 0 0 (MQ below (va_Qv (fun (_ : Unit) => True) (fun _ => sgB (KT (sgAt P (sgN P + 3))) D vwCl base tys ad ks) (fun q : Nat => base ≤ q)) #[.ref a0] s 0 0 (fun q : Nat => base ≤ q)) (F0 m 22 ls []) := by
    intro H locs ls n4 jn4 jo4 hG hS hl
    refine lv_aload_n X.1 X.2.1 dX12_goNight_22 rfl (lv_at hl 0 rfl) ?_
    refine lv_bipush (v := 100) X.1 X.2.1 dX12_goNight_23 (by decide +kernel) ?_
    refine ca_X12_draw X hK hG hC hS hb a0 h0 100 (iv_of (iv_c 100 (a := 100) (b := 100) (by decide +kernel)) (a' := 1) (b' := 100) (by decide +kernel)) wl_8_156 hl.1 (rest := []) rfl (Nat.le_of_ble_eq_true rfl) ⟨Nat.le_of_ble_eq_true rfl, Nat.le_of_ble_eq_true rfl⟩ ⟨Nat.le_of_ble_eq_true rfl, Nat.le_of_ble_eq_true rfl⟩ dX12_goNight_25 (fun f5 H locs hf5 hG hS => ?_)
    refine lv_aload_n X.1 X.2.1 dX12_goNight_28 rfl (lv_at hl 0 rfl) ?_
    refine gf_X12_35 X hK hG h0 wl_6_213 dX12_goNight_29 (fun f6 hf6 kf6 => ?_)
    refine lv_icmp_ge (tgt := 39) X.1 X.2.1 dX12_goNight_32 (by decide) (fun c7 => ?_) (fun c7 => ?_)
    · refine lv_iconst (v := 0) X.1 X.2.1 dX12_goNight_39 (by decide +kernel) ?_
      refine lv_istore_n (lv' := [(1, .int 0), (0, .ref a0)]) X.1 X.2.1 dX12_goNight_40 rfl hl (by decide) rfl (fun ls hl => ?_)
      refine lv_aload_n X.1 X.2.1 dX12_goNight_41 rfl (lv_at hl 1 rfl) ?_
      refine lv_aload_n X.1 X.2.1 dX12_goNight_42 rfl (lv_at hl 1 rfl) ?_
      refine gf_X12_32 X hK hG h0 wl_6_210 dX12_goNight_43 (fun q8 hq8 kq8 => ?_)
      refine lv_iconst (v := 0) X.1 X.2.1 dX12_goNight_46 (by decide +kernel) ?_
      refine al_54 X hK hG hq8 (iv_vpin (iv_c 0 (a := 0) (b := 0) (by decide +kernel)) (by decide +kernel)) dX12_goNight_47 (fun f9 hf9 => ?_)
      have hf9 := sg_nw_now hf9
      have of9 := hf9
      have hf9 : iv (-2147483648) 2147483647 f9 := sg_sp_now hf9 (iv_c 0 (a := 0) (b := 0) (by decide +kernel)) (by decide +kernel) rfl
      refine lv_aload_n X.1 X.2.1 dX12_goNight_48 rfl (lv_at hl 1 rfl) ?_
      refine gg_X12_32 X hK hG h0 wl_6_210 kq8 dX12_goNight_49 ?_
      refine lv_iconst (v := 1) X.1 X.2.1 dX12_goNight_52 (by decide +kernel) ?_
      refine al_54 X hK hG hq8 (iv_vpin (iv_c 1 (a := 1) (b := 1) (by decide +kernel)) (by decide +kernel)) dX12_goNight_53 (fun f10 hf10 => ?_)
      have hf10 := sg_nw_now hf10
      have of10 := hf10
      have hf10 : iv (-2147483648) 2147483647 f10 := sg_sp_now hf10 (iv_c 1 (a := 1) (b := 1) (by decide +kernel)) (by decide +kernel) rfl
      refine lv_aload_n X.1 X.2.1 dX12_goNight_54 rfl (lv_at hl 1 rfl) ?_
      refine gg_X12_32 X hK hG h0 wl_6_210 kq8 dX12_goNight_55 ?_
      refine lv_iconst (v := 4) X.1 X.2.1 dX12_goNight_58 (by decide +kernel) ?_
      refine al_54 X hK hG hq8 (iv_vpin (iv_c 4 (a := 4) (b := 4) (by decide +kernel)) (by decide +kernel)) dX12_goNight_59 (fun f11 hf11 => ?_)
      have hf11 := sg_nw_now hf11
      have of11 := hf11
      have hf11 : iv 0 1000000000 f11 := sg_day hf11 (iv_c 4 (a := 4) (b := 4) (by decide +kernel))
      refine ca_X12_freeIn_1 X hK hG hC hS hb hp4 a0 h0 f9 f10 f11 (iv_of hf11 (a' := 0) (b' := 2147483647) (by decide +kernel)) wl_8_162 hl.1 (rest := []) rfl (Nat.le_of_ble_eq_true rfl) ⟨Nat.le_of_ble_eq_true rfl, Nat.le_of_ble_eq_true rfl⟩ ⟨Nat.le_of_ble_eq_true rfl, Nat.le_of_ble_eq_true rfl⟩ dX12_goNight_60 (fun f12 H locs hf12 hG hS => ?_)
      refine lv_istore_n (lv' := [(2, .int f12), (1, .int 0), (0, .ref a0)]) X.1 X.2.1 dX12_goNight_63 rfl hl (by decide) rfl (fun ls hl => ?_)
      refine lv_aload_n X.1 X.2.1 dX12_goNight_64 rfl (lv_at hl 2 rfl) ?_
      refine ca_X12_remember X hK hG hC hS hb a0 h0 wl_8_98 hl.1 (rest := []) rfl (Nat.le_of_ble_eq_true rfl) ⟨Nat.le_of_ble_eq_true rfl, Nat.le_of_ble_eq_true rfl⟩ ⟨Nat.le_of_ble_eq_true rfl, Nat.le_of_ble_eq_true rfl⟩ dX12_goNight_65 (fun H locs hG hS => ?_)
      refine lv_iload_n X.1 X.2.1 dX12_goNight_68 rfl (lv_at hl 1 rfl) ?_
      have B15_107 : ∀ (H : Heap) (locs : List Loc) (ls : Array Slot) (n15 : Nat), n4 ≤ n15 → (n15 : Int) ≤ sgN P + 2 → sgG (KT (sgAt P n15)) D vwCl (fun q : Nat => base ≤ q) tys ad ks H → va_S (fun q : Nat => base ≤ q) s.heap H locs → lv_has ls 4 [(0, .ref a0)] → W p l e (headSpec (Cond.code yX12_goNight cX12_goNight 4 none :: sg_tbl) ({ frames := 36, cells := 0, slots := 0, locals := 845 })).room s m #[.ref a0] below meth c H locs 0 0 (MQ below (va_Qv (fun (_ : Unit) => True) (fun _ => sgB (KT (sgAt P (sgN P + 3))) D vwCl base tys ad ks) (fun q : Nat => base ≤ q)) #[.ref a0] s 0 0 (fun q : Nat => base ≤ q)) (F0 m 107 ls []) := by
        intro H locs ls n15 jn15 jo15 hG hS hl
        refine lv_aload_n X.1 X.2.1 dX12_goNight_107 rfl (lv_at hl 0 rfl) ?_
        refine gf_X12_32 X hK hG h0 wl_6_210 dX12_goNight_108 (fun q16 hq16 kq16 => ?_)
        refine lv_iconst (v := 3) X.1 X.2.1 dX12_goNight_111 (by decide +kernel) ?_
        refine al_54 X hK hG hq16 (iv_vpin (iv_c 3 (a := 3) (b := 3) (by decide +kernel)) (by decide +kernel)) dX12_goNight_112 (fun f17 hf17 => ?_)
        have hf17 := sg_nw_now hf17
        have of17 := hf17
        have hf17 : iv (-2147483648) 2147483647 f17 := sg_sp_now hf17 (iv_c 3 (a := 3) (b := 3) (by decide +kernel)) (by decide +kernel) rfl
        refine lv_iconst (v := 1) X.1 X.2.1 dX12_goNight_113 (by decide +kernel) ?_
        refine lv_icmp_ne (tgt := 118) X.1 X.2.1 dX12_goNight_114 (by decide) (fun c18 => ?_) (fun c18 => ?_)
        · refine lv_aload_n X.1 X.2.1 dX12_goNight_118 rfl (lv_at hl 0 rfl) ?_
          refine lv_aload_n X.1 X.2.1 dX12_goNight_119 rfl (lv_at hl 0 rfl) ?_
          refine gg_X12_32 X hK hG h0 wl_6_210 kq16 dX12_goNight_120 ?_
          refine lv_iconst (v := 0) X.1 X.2.1 dX12_goNight_123 (by decide +kernel) ?_
          refine al_54 X hK hG hq16 (iv_vpin (iv_c 0 (a := 0) (b := 0) (by decide +kernel)) (by decide +kernel)) dX12_goNight_124 (fun f19 hf19 => ?_)
          have hf19 := sg_nw_now hf19
          have of19 := hf19
          have hf19 : iv (-2147483648) 2147483647 f19 := sg_sp_now hf19 (iv_c 0 (a := 0) (b := 0) (by decide +kernel)) (by decide +kernel) rfl
          refine lv_aload_n X.1 X.2.1 dX12_goNight_125 rfl (lv_at hl 0 rfl) ?_
          refine gg_X12_32 X hK hG h0 wl_6_210 kq16 dX12_goNight_126 ?_
          refine lv_iconst (v := 1) X.1 X.2.1 dX12_goNight_129 (by decide +kernel) ?_
          refine al_54 X hK hG hq16 (iv_vpin (iv_c 1 (a := 1) (b := 1) (by decide +kernel)) (by decide +kernel)) dX12_goNight_130 (fun f20 hf20 => ?_)
          have hf20 := sg_nw_now hf20
          have of20 := hf20
          have hf20 : iv (-2147483648) 2147483647 f20 := sg_sp_now hf20 (iv_c 1 (a := 1) (b := 1) (by decide +kernel)) (by decide +kernel) rfl
          refine lv_aload_n X.1 X.2.1 dX12_goNight_131 rfl (lv_at hl 0 rfl) ?_
          refine gg_X12_32 X hK hG h0 wl_6_210 kq16 dX12_goNight_132 ?_
          refine lv_iconst (v := 4) X.1 X.2.1 dX12_goNight_135 (by decide +kernel) ?_
          refine al_54 X hK hG hq16 (iv_vpin (iv_c 4 (a := 4) (b := 4) (by decide +kernel)) (by decide +kernel)) dX12_goNight_136 (fun f21 hf21 => ?_)
          have hf21 := sg_nw_now hf21
          have of21 := hf21
          have hf21 : iv 0 1000000000 f21 := sg_day hf21 (iv_c 4 (a := 4) (b := 4) (by decide +kernel))
          refine ca_X12_layAdvice_1 X hK hG hC hS hb hp4 a0 h0 f19 f20 f21 (iv_of hf21 (a' := 0) (b' := 2147483647) (by decide +kernel)) wl_8_169 hl.1 (rest := []) rfl (Nat.le_of_ble_eq_true rfl) ⟨Nat.le_of_ble_eq_true rfl, Nat.le_of_ble_eq_true rfl⟩ ⟨Nat.le_of_ble_eq_true rfl, Nat.le_of_ble_eq_true rfl⟩ dX12_goNight_137 (fun H locs hG hS => ?_)
          refine lv_aload_n X.1 X.2.1 dX12_goNight_140 rfl (lv_at hl 0 rfl) ?_
          refine ca_X12_remember X hK hG hC hS hb a0 h0 wl_8_98 hl.1 (rest := []) rfl (Nat.le_of_ble_eq_true rfl) ⟨Nat.le_of_ble_eq_true rfl, Nat.le_of_ble_eq_true rfl⟩ ⟨Nat.le_of_ble_eq_true rfl, Nat.le_of_ble_eq_true rfl⟩ dX12_goNight_141 (fun H locs hG hS => ?_)
          refine lv_aload_n X.1 X.2.1 dX12_goNight_144 rfl (lv_at hl 0 rfl) ?_
          refine gf_X12_42 X hK hG h0 wl_6_220 dX12_goNight_145 (fun f24 hf24 kf24 => ?_)
          refine lv_iconst (v := (-1)) X.1 X.2.1 dX12_goNight_148 (by decide +kernel) ?_
          refine lv_icmp_ne (tgt := 163) X.1 X.2.1 dX12_goNight_149 (by decide) (fun c25 => ?_) (fun c25 => ?_)
          · refine lv_aload_n X.1 X.2.1 dX12_goNight_163 rfl (lv_at hl 0 rfl) ?_
            refine lv_aload_n X.1 X.2.1 dX12_goNight_164 rfl (lv_at hl 0 rfl) ?_
            refine gf_X12_32 X hK hG h0 wl_6_210 dX12_goNight_165 (fun q26 hq26 kq26 => ?_)
            refine lv_aload_n X.1 X.2.1 dX12_goNight_168 rfl (lv_at hl 0 rfl) ?_
            refine gg_X12_42 X hK hG h0 wl_6_220 kf24 dX12_goNight_169 ?_
            refine lv_bipush (v := 100) X.1 X.2.1 dX12_goNight_172 (by decide +kernel) ?_
            refine lv_idiv X.1 X.2.1 dX12_goNight_174 (iv_ne0 (iv_c 100 (a := 100) (b := 100) (by decide +kernel)) (by decide +kernel)) ?_
            refine lv_topi (fun f27 ef27 => ?_)
            refine lv_aload_n X.1 X.2.1 dX12_goNight_175 rfl (lv_at hl 0 rfl) ?_
            refine gg_X12_42 X hK hG h0 wl_6_220 kf24 dX12_goNight_176 ?_
            refine lv_bipush (v := 10) X.1 X.2.1 dX12_goNight_179 (by decide +kernel) ?_
            refine lv_idiv X.1 X.2.1 dX12_goNight_181 (iv_ne0 (iv_c 10 (a := 10) (b := 10) (by decide +kernel)) (by decide +kernel)) ?_
            refine lv_topi (fun f28 ef28 => ?_)
            refine lv_bipush (v := 10) X.1 X.2.1 dX12_goNight_182 (by decide +kernel) ?_
            refine lv_irem X.1 X.2.1 dX12_goNight_184 (iv_ne0 (iv_c 10 (a := 10) (b := 10) (by decide +kernel)) (by decide +kernel)) ?_
            refine lv_topi (fun f29 ef29 => ?_)
            refine lv_aload_n X.1 X.2.1 dX12_goNight_185 rfl (lv_at hl 0 rfl) ?_
            refine gg_X12_42 X hK hG h0 wl_6_220 kf24 dX12_goNight_186 ?_
            refine lv_bipush (v := 10) X.1 X.2.1 dX12_goNight_189 (by decide +kernel) ?_
            refine lv_irem X.1 X.2.1 dX12_goNight_191 (iv_ne0 (iv_c 10 (a := 10) (b := 10) (by decide +kernel)) (by decide +kernel)) ?_
            refine lv_topi (fun f30 ef30 => ?_)
            refine ca_X12_mows_1 X hK hG hC hS hb hp4 hp10 a0 h0 q26 hq26 f27 f29 f30 (show n15 + 1 ≤ 1000000000 from by omega) wl_8_125 hl.1 (rest := []) rfl (Nat.le_of_ble_eq_true rfl) ⟨Nat.le_of_ble_eq_true rfl, Nat.le_of_ble_eq_true rfl⟩ ⟨Nat.le_of_ble_eq_true rfl, Nat.le_of_ble_eq_true rfl⟩ dX12_goNight_192 (fun tg31 H locs htg31 hWg31 hS => ?_)
            have hG : sgG (KT (sgAt P (n15 + 1))) D vwCl _ tys ad ks _ := hWg31.2.2.2
            rw [htg31] at hG
            have hG : sgG (KT (sgAt P (sgN P + 3))) D vwCl _ tys ad ks _ := sg_moreN (P := (sgAt P (n15 + 1))) (show (n15 + 1) ≤ (sgN P + 3) from by omega) hG
            exact sg_vret2 X hr hlk hS (fun t ht hW => sg_post hb hK hC hG hS ht hW) dX12_goNight_195
          · refine lv_aload_n X.1 X.2.1 dX12_goNight_152 rfl (lv_at hl 0 rfl) ?_
            refine gf_X12_32 X hK hG h0 wl_6_210 dX12_goNight_153 (fun q32 hq32 kq32 => ?_)
            refine ca_X12_sits_1 X hK hG hC hS hb q32 hq32 (show n15 + 1 ≤ 1000000000 from by omega) wl_8_133 hl.1 (rest := []) rfl (Nat.le_of_ble_eq_true rfl) ⟨Nat.le_of_ble_eq_true rfl, Nat.le_of_ble_eq_true rfl⟩ ⟨Nat.le_of_ble_eq_true rfl, Nat.le_of_ble_eq_true rfl⟩ dX12_goNight_156 (fun f33 tf33 H locs htf33 hf33 hWf33 hS => ?_)
            have hG : sgG (KT (sgAt P (n15 + 1))) D vwCl _ tys ad ks _ := hWf33.2.2.2
            rw [htf33] at hG
            refine lv_istore_n (lv' := [(3, .int f33), (0, .ref a0)]) X.1 X.2.1 dX12_goNight_159 rfl hl (by decide) rfl (fun ls hl => ?_)
            refine lv_goto (tgt := 195) X.1 X.2.1 dX12_goNight_160 (by decide) ?_
            have hG : sgG (KT (sgAt P (sgN P + 3))) D vwCl _ tys ad ks _ := sg_moreN (P := (sgAt P (n15 + 1))) (show (n15 + 1) ≤ (sgN P + 3) from by omega) hG
            exact sg_vret2 X hr hlk hS (fun t ht hW => sg_post hb hK hC hG hS ht hW) dX12_goNight_195
        · have hG : sgG (KT (sgAt P (sgN P + 3))) D vwCl _ tys ad ks _ := sg_moreN (P := (sgAt P n15)) (show n15 ≤ (sgN P + 3) from by omega) hG
          exact sg_vret2 X hr hlk hS (fun t ht hW => sg_post hb hK hC hG hS ht hW) dX12_goNight_117
      refine lv_if_ne (tgt := 76) X.1 X.2.1 dX12_goNight_69 (by decide) (fun c14 => ?_) (fun c14 => ?_)
      · exact ((c14 (iv_one (iv_c 0 (a := 0) (b := 0) (by decide +kernel)) (iv_c 0 (a := 0) (b := 0) (by decide +kernel)) (by decide +kernel)))).elim
      · refine lv_iload_n X.1 X.2.1 dX12_goNight_72 rfl (lv_at hl 0 rfl) ?_
        refine lv_if_ne (tgt := 87) X.1 X.2.1 dX12_goNight_73 (by decide) (fun c34 => ?_) (fun c34 => ?_)
        · refine lv_aload_n X.1 X.2.1 dX12_goNight_87 rfl (lv_at hl 2 rfl) ?_
          refine lv_aload_n X.1 X.2.1 dX12_goNight_88 rfl (lv_at hl 2 rfl) ?_
          refine gf_X12_32 X hK hG h0 wl_6_210 dX12_goNight_89 (fun q35 hq35 kq35 => ?_)
          refine lv_iload_n X.1 X.2.1 dX12_goNight_92 rfl (lv_at hl 0 rfl) ?_
          refine lv_aload_n X.1 X.2.1 dX12_goNight_93 rfl (lv_at hl 2 rfl) ?_
          refine lv_iload_n X.1 X.2.1 dX12_goNight_94 rfl (lv_at hl 0 rfl) ?_
          refine ca_J6_bitCount_0f7a4_p X hK hG hC (fun _ h => h) hS hb f12 wl_8_68 hl.1 (rest := [.ref a0, .int f12, .ref q35, .ref a0]) rfl (Nat.le_of_ble_eq_true rfl) ⟨Nat.le_of_ble_eq_true rfl, Nat.le_of_ble_eq_true rfl⟩ ⟨Nat.le_of_ble_eq_true rfl, Nat.le_of_ble_eq_true rfl⟩ dX12_goNight_95 (fun f36 locs hf36 hS => ?_)
          refine ca_X12_draw X hK hG hC hS hb a0 h0 f36 (iv_of (sg_pcne hf36.2 c34 hf36.1) (a' := 1) (b' := 100) (by decide +kernel)) wl_8_156 hl.1 (rest := [.int f12, .ref q35, .ref a0]) rfl (Nat.le_of_ble_eq_true rfl) ⟨Nat.le_of_ble_eq_true rfl, Nat.le_of_ble_eq_true rfl⟩ ⟨Nat.le_of_ble_eq_true rfl, Nat.le_of_ble_eq_true rfl⟩ dX12_goNight_98 (fun f37 H locs hf37 hG hS => ?_)
          refine ca_X12_nthOf X hK hG hC hS hb f12 f37 c34 wl_8_166 hl.1 (rest := [.ref q35, .ref a0]) rfl (Nat.le_of_ble_eq_true rfl) ⟨Nat.le_of_ble_eq_true rfl, Nat.le_of_ble_eq_true rfl⟩ ⟨Nat.le_of_ble_eq_true rfl, Nat.le_of_ble_eq_true rfl⟩ dX12_goNight_101 (fun f38 H locs hf38 hG hS => ?_)
          refine ca_X12_grows_1 X hK hG hC hS hb hp4 hp10 a0 h0 q35 hq35 f38 wl_8_102 hl.1 (rest := []) rfl (Nat.le_of_ble_eq_true rfl) ⟨Nat.le_of_ble_eq_true rfl, Nat.le_of_ble_eq_true rfl⟩ ⟨Nat.le_of_ble_eq_true rfl, Nat.le_of_ble_eq_true rfl⟩ dX12_goNight_104 (fun H locs hG hS => ?_)
          exact B15_107 H _ _ n4 (by omega) (by omega) hG hS (lv_sub hl [2] rfl)
        · refine lv_aload_n X.1 X.2.1 dX12_goNight_76 rfl (lv_at hl 2 rfl) ?_
          refine gf_X12_32 X hK hG h0 wl_6_210 dX12_goNight_77 (fun q40 hq40 kq40 => ?_)
          refine ca_X12_sits_1 X hK hG hC hS hb q40 hq40 (show n4 + 1 ≤ 1000000000 from by omega) wl_8_133 hl.1 (rest := []) rfl (Nat.le_of_ble_eq_true rfl) ⟨Nat.le_of_ble_eq_true rfl, Nat.le_of_ble_eq_true rfl⟩ ⟨Nat.le_of_ble_eq_true rfl, Nat.le_of_ble_eq_true rfl⟩ dX12_goNight_80 (fun f41 tf41 H locs htf41 hf41 hWf41 hS => ?_)
          have hG : sgG (KT (sgAt P (n4 + 1))) D vwCl _ tys ad ks _ := hWf41.2.2.2
          rw [htf41] at hG
          refine lv_istore_n (lv' := [(3, .int f41), (2, .int f12), (1, .int 0), (0, .ref a0)]) X.1 X.2.1 dX12_goNight_83 rfl hl (by decide) rfl (fun ls hl => ?_)
          refine lv_goto (tgt := 107) X.1 X.2.1 dX12_goNight_84 (by decide) ?_
          exact B15_107 H _ _ (n4 + 1) (by omega) (by omega) hG hS (lv_sub hl [3] rfl)
    · refine lv_iconst (v := 1) X.1 X.2.1 dX12_goNight_35 (by decide +kernel) ?_
      refine lv_goto (tgt := 40) X.1 X.2.1 dX12_goNight_36 (by decide) ?_
      refine lv_istore_n (lv' := [(1, .int 1), (0, .ref a0)]) X.1 X.2.1 dX12_goNight_40 rfl hl (by decide) rfl (fun ls hl => ?_)
      refine lv_aload_n X.1 X.2.1 dX12_goNight_41 rfl (lv_at hl 1 rfl) ?_
      refine lv_aload_n X.1 X.2.1 dX12_goNight_42 rfl (lv_at hl 1 rfl) ?_
      refine gf_X12_32 X hK hG h0 wl_6_210 dX12_goNight_43 (fun q42 hq42 kq42 => ?_)
      refine lv_iconst (v := 0) X.1 X.2.1 dX12_goNight_46 (by decide +kernel) ?_
      refine al_54 X hK hG hq42 (iv_vpin (iv_c 0 (a := 0) (b := 0) (by decide +kernel)) (by decide +kernel)) dX12_goNight_47 (fun f43 hf43 => ?_)
      have hf43 := sg_nw_now hf43
      have of43 := hf43
      have hf43 : iv (-2147483648) 2147483647 f43 := sg_sp_now hf43 (iv_c 0 (a := 0) (b := 0) (by decide +kernel)) (by decide +kernel) rfl
      refine lv_aload_n X.1 X.2.1 dX12_goNight_48 rfl (lv_at hl 1 rfl) ?_
      refine gg_X12_32 X hK hG h0 wl_6_210 kq42 dX12_goNight_49 ?_
      refine lv_iconst (v := 1) X.1 X.2.1 dX12_goNight_52 (by decide +kernel) ?_
      refine al_54 X hK hG hq42 (iv_vpin (iv_c 1 (a := 1) (b := 1) (by decide +kernel)) (by decide +kernel)) dX12_goNight_53 (fun f44 hf44 => ?_)
      have hf44 := sg_nw_now hf44
      have of44 := hf44
      have hf44 : iv (-2147483648) 2147483647 f44 := sg_sp_now hf44 (iv_c 1 (a := 1) (b := 1) (by decide +kernel)) (by decide +kernel) rfl
      refine lv_aload_n X.1 X.2.1 dX12_goNight_54 rfl (lv_at hl 1 rfl) ?_
      refine gg_X12_32 X hK hG h0 wl_6_210 kq42 dX12_goNight_55 ?_
      refine lv_iconst (v := 4) X.1 X.2.1 dX12_goNight_58 (by decide +kernel) ?_
      refine al_54 X hK hG hq42 (iv_vpin (iv_c 4 (a := 4) (b := 4) (by decide +kernel)) (by decide +kernel)) dX12_goNight_59 (fun f45 hf45 => ?_)
      have hf45 := sg_nw_now hf45
      have of45 := hf45
      have hf45 : iv 0 1000000000 f45 := sg_day hf45 (iv_c 4 (a := 4) (b := 4) (by decide +kernel))
      refine ca_X12_freeIn_1 X hK hG hC hS hb hp4 a0 h0 f43 f44 f45 (iv_of hf45 (a' := 0) (b' := 2147483647) (by decide +kernel)) wl_8_162 hl.1 (rest := []) rfl (Nat.le_of_ble_eq_true rfl) ⟨Nat.le_of_ble_eq_true rfl, Nat.le_of_ble_eq_true rfl⟩ ⟨Nat.le_of_ble_eq_true rfl, Nat.le_of_ble_eq_true rfl⟩ dX12_goNight_60 (fun f46 H locs hf46 hG hS => ?_)
      refine lv_istore_n (lv' := [(2, .int f46), (1, .int 1), (0, .ref a0)]) X.1 X.2.1 dX12_goNight_63 rfl hl (by decide) rfl (fun ls hl => ?_)
      refine lv_aload_n X.1 X.2.1 dX12_goNight_64 rfl (lv_at hl 2 rfl) ?_
      refine ca_X12_remember X hK hG hC hS hb a0 h0 wl_8_98 hl.1 (rest := []) rfl (Nat.le_of_ble_eq_true rfl) ⟨Nat.le_of_ble_eq_true rfl, Nat.le_of_ble_eq_true rfl⟩ ⟨Nat.le_of_ble_eq_true rfl, Nat.le_of_ble_eq_true rfl⟩ dX12_goNight_65 (fun H locs hG hS => ?_)
      refine lv_iload_n X.1 X.2.1 dX12_goNight_68 rfl (lv_at hl 1 rfl) ?_
      have B49_107 : ∀ (H : Heap) (locs : List Loc) (ls : Array Slot) (n49 : Nat), n4 ≤ n49 → (n49 : Int) ≤ sgN P + 2 → sgG (KT (sgAt P n49)) D vwCl (fun q : Nat => base ≤ q) tys ad ks H → va_S (fun q : Nat => base ≤ q) s.heap H locs → lv_has ls 4 [(0, .ref a0)] → W p l e (headSpec (Cond.code yX12_goNight cX12_goNight 4 none :: sg_tbl) ({ frames := 36, cells := 0, slots := 0, locals := 845 })).room s m #[.ref a0] below meth c H locs 0 0 (MQ below (va_Qv (fun (_ : Unit) => True) (fun _ => sgB (KT (sgAt P (sgN P + 3))) D vwCl base tys ad ks) (fun q : Nat => base ≤ q)) #[.ref a0] s 0 0 (fun q : Nat => base ≤ q)) (F0 m 107 ls []) := by
        intro H locs ls n49 jn49 jo49 hG hS hl
        refine lv_aload_n X.1 X.2.1 dX12_goNight_107 rfl (lv_at hl 0 rfl) ?_
        refine gf_X12_32 X hK hG h0 wl_6_210 dX12_goNight_108 (fun q50 hq50 kq50 => ?_)
        refine lv_iconst (v := 3) X.1 X.2.1 dX12_goNight_111 (by decide +kernel) ?_
        refine al_54 X hK hG hq50 (iv_vpin (iv_c 3 (a := 3) (b := 3) (by decide +kernel)) (by decide +kernel)) dX12_goNight_112 (fun f51 hf51 => ?_)
        have hf51 := sg_nw_now hf51
        have of51 := hf51
        have hf51 : iv (-2147483648) 2147483647 f51 := sg_sp_now hf51 (iv_c 3 (a := 3) (b := 3) (by decide +kernel)) (by decide +kernel) rfl
        refine lv_iconst (v := 1) X.1 X.2.1 dX12_goNight_113 (by decide +kernel) ?_
        refine lv_icmp_ne (tgt := 118) X.1 X.2.1 dX12_goNight_114 (by decide) (fun c52 => ?_) (fun c52 => ?_)
        · refine lv_aload_n X.1 X.2.1 dX12_goNight_118 rfl (lv_at hl 0 rfl) ?_
          refine lv_aload_n X.1 X.2.1 dX12_goNight_119 rfl (lv_at hl 0 rfl) ?_
          refine gg_X12_32 X hK hG h0 wl_6_210 kq50 dX12_goNight_120 ?_
          refine lv_iconst (v := 0) X.1 X.2.1 dX12_goNight_123 (by decide +kernel) ?_
          refine al_54 X hK hG hq50 (iv_vpin (iv_c 0 (a := 0) (b := 0) (by decide +kernel)) (by decide +kernel)) dX12_goNight_124 (fun f53 hf53 => ?_)
          have hf53 := sg_nw_now hf53
          have of53 := hf53
          have hf53 : iv (-2147483648) 2147483647 f53 := sg_sp_now hf53 (iv_c 0 (a := 0) (b := 0) (by decide +kernel)) (by decide +kernel) rfl
          refine lv_aload_n X.1 X.2.1 dX12_goNight_125 rfl (lv_at hl 0 rfl) ?_
          refine gg_X12_32 X hK hG h0 wl_6_210 kq50 dX12_goNight_126 ?_
          refine lv_iconst (v := 1) X.1 X.2.1 dX12_goNight_129 (by decide +kernel) ?_
          refine al_54 X hK hG hq50 (iv_vpin (iv_c 1 (a := 1) (b := 1) (by decide +kernel)) (by decide +kernel)) dX12_goNight_130 (fun f54 hf54 => ?_)
          have hf54 := sg_nw_now hf54
          have of54 := hf54
          have hf54 : iv (-2147483648) 2147483647 f54 := sg_sp_now hf54 (iv_c 1 (a := 1) (b := 1) (by decide +kernel)) (by decide +kernel) rfl
          refine lv_aload_n X.1 X.2.1 dX12_goNight_131 rfl (lv_at hl 0 rfl) ?_
          refine gg_X12_32 X hK hG h0 wl_6_210 kq50 dX12_goNight_132 ?_
          refine lv_iconst (v := 4) X.1 X.2.1 dX12_goNight_135 (by decide +kernel) ?_
          refine al_54 X hK hG hq50 (iv_vpin (iv_c 4 (a := 4) (b := 4) (by decide +kernel)) (by decide +kernel)) dX12_goNight_136 (fun f55 hf55 => ?_)
          have hf55 := sg_nw_now hf55
          have of55 := hf55
          have hf55 : iv 0 1000000000 f55 := sg_day hf55 (iv_c 4 (a := 4) (b := 4) (by decide +kernel))
          refine ca_X12_layAdvice_1 X hK hG hC hS hb hp4 a0 h0 f53 f54 f55 (iv_of hf55 (a' := 0) (b' := 2147483647) (by decide +kernel)) wl_8_169 hl.1 (rest := []) rfl (Nat.le_of_ble_eq_true rfl) ⟨Nat.le_of_ble_eq_true rfl, Nat.le_of_ble_eq_true rfl⟩ ⟨Nat.le_of_ble_eq_true rfl, Nat.le_of_ble_eq_true rfl⟩ dX12_goNight_137 (fun H locs hG hS => ?_)
          refine lv_aload_n X.1 X.2.1 dX12_goNight_140 rfl (lv_at hl 0 rfl) ?_
          refine ca_X12_remember X hK hG hC hS hb a0 h0 wl_8_98 hl.1 (rest := []) rfl (Nat.le_of_ble_eq_true rfl) ⟨Nat.le_of_ble_eq_true rfl, Nat.le_of_ble_eq_true rfl⟩ ⟨Nat.le_of_ble_eq_true rfl, Nat.le_of_ble_eq_true rfl⟩ dX12_goNight_141 (fun H locs hG hS => ?_)
          refine lv_aload_n X.1 X.2.1 dX12_goNight_144 rfl (lv_at hl 0 rfl) ?_
          refine gf_X12_42 X hK hG h0 wl_6_220 dX12_goNight_145 (fun f58 hf58 kf58 => ?_)
          refine lv_iconst (v := (-1)) X.1 X.2.1 dX12_goNight_148 (by decide +kernel) ?_
          refine lv_icmp_ne (tgt := 163) X.1 X.2.1 dX12_goNight_149 (by decide) (fun c59 => ?_) (fun c59 => ?_)
          · refine lv_aload_n X.1 X.2.1 dX12_goNight_163 rfl (lv_at hl 0 rfl) ?_
            refine lv_aload_n X.1 X.2.1 dX12_goNight_164 rfl (lv_at hl 0 rfl) ?_
            refine gf_X12_32 X hK hG h0 wl_6_210 dX12_goNight_165 (fun q60 hq60 kq60 => ?_)
            refine lv_aload_n X.1 X.2.1 dX12_goNight_168 rfl (lv_at hl 0 rfl) ?_
            refine gg_X12_42 X hK hG h0 wl_6_220 kf58 dX12_goNight_169 ?_
            refine lv_bipush (v := 100) X.1 X.2.1 dX12_goNight_172 (by decide +kernel) ?_
            refine lv_idiv X.1 X.2.1 dX12_goNight_174 (iv_ne0 (iv_c 100 (a := 100) (b := 100) (by decide +kernel)) (by decide +kernel)) ?_
            refine lv_topi (fun f61 ef61 => ?_)
            refine lv_aload_n X.1 X.2.1 dX12_goNight_175 rfl (lv_at hl 0 rfl) ?_
            refine gg_X12_42 X hK hG h0 wl_6_220 kf58 dX12_goNight_176 ?_
            refine lv_bipush (v := 10) X.1 X.2.1 dX12_goNight_179 (by decide +kernel) ?_
            refine lv_idiv X.1 X.2.1 dX12_goNight_181 (iv_ne0 (iv_c 10 (a := 10) (b := 10) (by decide +kernel)) (by decide +kernel)) ?_
            refine lv_topi (fun f62 ef62 => ?_)
            refine lv_bipush (v := 10) X.1 X.2.1 dX12_goNight_182 (by decide +kernel) ?_
            refine lv_irem X.1 X.2.1 dX12_goNight_184 (iv_ne0 (iv_c 10 (a := 10) (b := 10) (by decide +kernel)) (by decide +kernel)) ?_
            refine lv_topi (fun f63 ef63 => ?_)
            refine lv_aload_n X.1 X.2.1 dX12_goNight_185 rfl (lv_at hl 0 rfl) ?_
            refine gg_X12_42 X hK hG h0 wl_6_220 kf58 dX12_goNight_186 ?_
            refine lv_bipush (v := 10) X.1 X.2.1 dX12_goNight_189 (by decide +kernel) ?_
            refine lv_irem X.1 X.2.1 dX12_goNight_191 (iv_ne0 (iv_c 10 (a := 10) (b := 10) (by decide +kernel)) (by decide +kernel)) ?_
            refine lv_topi (fun f64 ef64 => ?_)
            refine ca_X12_mows_1 X hK hG hC hS hb hp4 hp10 a0 h0 q60 hq60 f61 f63 f64 (show n49 + 1 ≤ 1000000000 from by omega) wl_8_125 hl.1 (rest := []) rfl (Nat.le_of_ble_eq_true rfl) ⟨Nat.le_of_ble_eq_true rfl, Nat.le_of_ble_eq_true rfl⟩ ⟨Nat.le_of_ble_eq_true rfl, Nat.le_of_ble_eq_true rfl⟩ dX12_goNight_192 (fun tg65 H locs htg65 hWg65 hS => ?_)
            have hG : sgG (KT (sgAt P (n49 + 1))) D vwCl _ tys ad ks _ := hWg65.2.2.2
            rw [htg65] at hG
            have hG : sgG (KT (sgAt P (sgN P + 3))) D vwCl _ tys ad ks _ := sg_moreN (P := (sgAt P (n49 + 1))) (show (n49 + 1) ≤ (sgN P + 3) from by omega) hG
            exact sg_vret2 X hr hlk hS (fun t ht hW => sg_post hb hK hC hG hS ht hW) dX12_goNight_195
          · refine lv_aload_n X.1 X.2.1 dX12_goNight_152 rfl (lv_at hl 0 rfl) ?_
            refine gf_X12_32 X hK hG h0 wl_6_210 dX12_goNight_153 (fun q66 hq66 kq66 => ?_)
            refine ca_X12_sits_1 X hK hG hC hS hb q66 hq66 (show n49 + 1 ≤ 1000000000 from by omega) wl_8_133 hl.1 (rest := []) rfl (Nat.le_of_ble_eq_true rfl) ⟨Nat.le_of_ble_eq_true rfl, Nat.le_of_ble_eq_true rfl⟩ ⟨Nat.le_of_ble_eq_true rfl, Nat.le_of_ble_eq_true rfl⟩ dX12_goNight_156 (fun f67 tf67 H locs htf67 hf67 hWf67 hS => ?_)
            have hG : sgG (KT (sgAt P (n49 + 1))) D vwCl _ tys ad ks _ := hWf67.2.2.2
            rw [htf67] at hG
            refine lv_istore_n (lv' := [(3, .int f67), (0, .ref a0)]) X.1 X.2.1 dX12_goNight_159 rfl hl (by decide) rfl (fun ls hl => ?_)
            refine lv_goto (tgt := 195) X.1 X.2.1 dX12_goNight_160 (by decide) ?_
            have hG : sgG (KT (sgAt P (sgN P + 3))) D vwCl _ tys ad ks _ := sg_moreN (P := (sgAt P (n49 + 1))) (show (n49 + 1) ≤ (sgN P + 3) from by omega) hG
            exact sg_vret2 X hr hlk hS (fun t ht hW => sg_post hb hK hC hG hS ht hW) dX12_goNight_195
        · have hG : sgG (KT (sgAt P (sgN P + 3))) D vwCl _ tys ad ks _ := sg_moreN (P := (sgAt P n49)) (show n49 ≤ (sgN P + 3) from by omega) hG
          exact sg_vret2 X hr hlk hS (fun t ht hW => sg_post hb hK hC hG hS ht hW) dX12_goNight_117
      refine lv_if_ne (tgt := 76) X.1 X.2.1 dX12_goNight_69 (by decide) (fun c48 => ?_) (fun c48 => ?_)
      · refine lv_aload_n X.1 X.2.1 dX12_goNight_76 rfl (lv_at hl 2 rfl) ?_
        refine gf_X12_32 X hK hG h0 wl_6_210 dX12_goNight_77 (fun q68 hq68 kq68 => ?_)
        refine ca_X12_sits_1 X hK hG hC hS hb q68 hq68 (show n4 + 1 ≤ 1000000000 from by omega) wl_8_133 hl.1 (rest := []) rfl (Nat.le_of_ble_eq_true rfl) ⟨Nat.le_of_ble_eq_true rfl, Nat.le_of_ble_eq_true rfl⟩ ⟨Nat.le_of_ble_eq_true rfl, Nat.le_of_ble_eq_true rfl⟩ dX12_goNight_80 (fun f69 tf69 H locs htf69 hf69 hWf69 hS => ?_)
        have hG : sgG (KT (sgAt P (n4 + 1))) D vwCl _ tys ad ks _ := hWf69.2.2.2
        rw [htf69] at hG
        refine lv_istore_n (lv' := [(3, .int f69), (2, .int f46), (1, .int 1), (0, .ref a0)]) X.1 X.2.1 dX12_goNight_83 rfl hl (by decide) rfl (fun ls hl => ?_)
        refine lv_goto (tgt := 107) X.1 X.2.1 dX12_goNight_84 (by decide) ?_
        exact B49_107 H _ _ (n4 + 1) (by omega) (by omega) hG hS (lv_sub hl [3] rfl)
      · exact ((iv_no (a := 1) (b := 0) (iv_eqm c48 (iv_c 1 (a := 1) (b := 1) (by decide +kernel)) (iv_c 0 (a := 0) (b := 0) (by decide +kernel)) (by decide +kernel)) (by decide +kernel))).elim
  refine lv_icmp_ne (tgt := 22) X.1 X.2.1 dX12_goNight_7 (by decide) (fun c3 => ?_) (fun c3 => ?_)
  · exact B4_22 s.heap _ _ (sgN P) (by omega) (by omega) hG hS (lv_sub hl [0] rfl)
  · refine lv_aload_n X.1 X.2.1 dX12_goNight_10 rfl (lv_at hl 0 rfl) ?_
    refine ca_X12_remember X hK hG hC hS hb a0 h0 wl_8_98 hl.1 (rest := []) rfl (Nat.le_of_ble_eq_true rfl) ⟨Nat.le_of_ble_eq_true rfl, Nat.le_of_ble_eq_true rfl⟩ ⟨Nat.le_of_ble_eq_true rfl, Nat.le_of_ble_eq_true rfl⟩ dX12_goNight_11 (fun H locs hG hS => ?_)
    refine lv_aload_n X.1 X.2.1 dX12_goNight_14 rfl (lv_at hl 0 rfl) ?_
    refine gf_X12_32 X hK hG h0 wl_6_210 dX12_goNight_15 (fun q71 hq71 kq71 => ?_)
    refine ca_X12_sits_1 X hK hG hC hS hb q71 hq71 (show sgN P + 1 ≤ 1000000000 from by omega) wl_8_133 hl.1 (rest := []) rfl (Nat.le_of_ble_eq_true rfl) ⟨Nat.le_of_ble_eq_true rfl, Nat.le_of_ble_eq_true rfl⟩ ⟨Nat.le_of_ble_eq_true rfl, Nat.le_of_ble_eq_true rfl⟩ dX12_goNight_18 (fun f72 tf72 H locs htf72 hf72 hWf72 hS => ?_)
    have hG : sgG (KT (sgAt P (sgN P + 1))) D vwCl _ tys ad ks _ := hWf72.2.2.2
    rw [htf72] at hG
    refine lv_istore_n (lv' := [(1, .int f72), (0, .ref a0)]) X.1 X.2.1 dX12_goNight_21 rfl hl (by decide) rfl (fun ls hl => ?_)
    exact B4_22 H _ _ (sgN P + 1) (by omega) (by omega) hG hS (lv_sub hl [1] rfl)

theorem ca_X12_goNight_1   (X : CallFix p m c cc nL s args sg_tbl own) (hK : va_K D vwCl tys s) (hG : sgG (KT P) D vwCl (fun q : Nat => base ≤ q) tys ad ks H) (hC : sgC base s) (hS : va_S (fun q : Nat => base ≤ q) s.heap H locs) (hb : base ≤ s.heap.size) (hp4 : P.2.2.2.2.1 = true) (hp10 : sgPin P = none) (a0 : Nat) (h0 : isK ad ks 12 a0) (hN : sgN P + 3 ≤ 1000000000) (hl : Cond.methodLink own index yX12_goNight ∈ sg_tbl) (hsize : ls.size = nL) (hst : st0 = [].reverse ++ .ref a0 :: rest) (hW : (rest.map fun v => v.category).sum ≤ 8) (hR : 37 ≤ R.frames ∧ 868 ≤ R.locals) (hf : cells ≤ R.cells ∧ slots ≤ R.slots) (hdg : decode cc pc = .ok (.invokevirtual index, 3)) (kk : ∀ (t : State) (H1 : Heap) (locs1 : List Loc), t.heap = H1 → (sgB (KT (sgAt P (sgN P + 3))) D vwCl base tys ad ks t) → va_S (fun q : Nat => base ≤ q) s.heap H1 locs1 → W p l e R s m args below meth c H1 locs1 cells slots Q (F0 m (pc + 3) ls rest)) : W p l e R s m args below meth c H locs cells slots Q (F0 m pc ls st0) :=
  sg_callV2v X hK hG hC hS hb (m_X12_goNight_1 l hp4 hp10 a0 h0 hN) h0 (k := 12) (ci := 12) rfl (C := RX12) (T := TX12) (N := 53) rfl wl_8_155 wl_1_13 wl_8_154 wl_0_85 (n := 0) (by decide +kernel) rfl rfl rfl hl hsize hst hW hR hf hdg kk

set_option maxHeartbeats 8000000 in
set_option maxRecDepth 100000 in
theorem m_X12_games_1 (l : Launch) {D : va_G} {base : Nat} {tys : List (ClassId × FieldType)} {ad ks : List Nat} {P : sgPm} (hp4 : P.2.2.2.2.1 = true) (hp10 : sgPin P = none) (a0 : Nat) (h0 : isK ad ks 12 a0) (x1 : Int32) (x2 : Int64) (hN : sgN P + 90 ≤ 1000000000) : Met l yX12_games (Cond.code yX12_games cX12_games 5 (some .int) :: sg_tbl) ({ frames := 37, cells := 0, slots := 0, locals := 868 }) (va_Pc [.ref a0, .int x1, .long x2] (sgB (KT P) D vwCl base tys ad ks)) (va_Qi (fun r (u : Int32) => u = r ∧ (fun r : Int32 => True) r) (fun u t => sgB (KT (sgAt P (sgN P + 90))) D vwCl base tys ad ks t) (fun q : Nat => base ≤ q)) 0 0 (fun q : Nat => base ≤ q) := by
  refine sg_ofW (by decide +kernel) (Nat.le_of_ble_eq_true rfl) (fun p e s m below meth c X hr hlk hb hK hC hG ls hl => ?_)
  have hS : va_S (fun q : Nat => base ≤ q) s.heap s.heap [] := va_S.rf
  have hl : lv_has ls 5 [(0, .ref a0), (1, .int x1), (2, .long x2)] := hl
  refine lv_aload_n X.1 X.2.1 dX12_games_0 rfl (lv_at hl 0 rfl) ?_
  refine lv_iconst (v := 0) X.1 X.2.1 dX12_games_1 (by decide +kernel) ?_
  refine pf_X12_0 X hK hG hS h0 wl_6_178 ⟨_, rfl, (iv_top _)⟩ dX12_games_2 (fun H locs hG hS ku1 ru1 => ?_)
  refine lv_aload_n X.1 X.2.1 dX12_games_5 rfl (lv_at hl 0 rfl) ?_
  refine lv_aload_n X.1 X.2.1 dX12_games_6 rfl (lv_at hl 0 rfl) ?_
  refine gf_X12_32 X hK hG h0 wl_6_210 dX12_games_7 (fun q2 hq2 kq2 => ?_)
  refine ca_X12_isOpen_1 X hK hG hC (fun _ h => h) hS hb hp4 a0 h0 q2 hq2 wl_8_94 hl.1 (rest := []) rfl (Nat.le_of_ble_eq_true rfl) ⟨Nat.le_of_ble_eq_true rfl, Nat.le_of_ble_eq_true rfl⟩ ⟨Nat.le_of_ble_eq_true rfl, Nat.le_of_ble_eq_true rfl⟩ dX12_games_10 (fun f3 locs hf3 hS => ?_)
  refine lv_if_eq (tgt := 28) X.1 X.2.1 dX12_games_13 (by decide) (fun c4 => ?_) (fun c4 => ?_)
  · refine lv_iconst (v := (-1)) X.1 X.2.1 dX12_games_28 (by decide +kernel) ?_
    have hG : sgG (KT (sgAt P (sgN P + 90))) D vwCl _ tys ad ks _ := sg_moreN (P := P) (show (sgN P) ≤ (sgN P + 90) from by omega) hG
    exact sg_iret2 X hr hlk hS trivial (fun t ht hW => sg_post hb hK hC hG hS ht hW) dX12_games_29
  · refine lv_iload_n X.1 X.2.1 dX12_games_16 rfl (lv_at hl 1 rfl) ?_
    obtain ⟨g5, eg5⟩ : ∃ y : Int64, y = (x1 : Int32).toInt64 := ⟨_, rfl⟩
    refine lv_i2l (v := g5) X.1 X.2.1 dX12_games_17 eg5.symm ?_
    refine lv_lconst (v := 1) X.1 X.2.1 dX12_games_18 (by decide +kernel) ?_
    refine lv_ldc2 X.1 X.2.1 X.2.2.2.1 (X.2.2.2.2 _ wl_8_151) dX12_games_19 ?_
    refine ca_X12_isIn X hK hG hC (fun _ h => h) hS hb g5 1 30 wl_7_119 hl.1 (rest := []) rfl (Nat.le_of_ble_eq_true rfl) ⟨Nat.le_of_ble_eq_true rfl, Nat.le_of_ble_eq_true rfl⟩ ⟨Nat.le_of_ble_eq_true rfl, Nat.le_of_ble_eq_true rfl⟩ dX12_games_22 (fun f6 locs hf6 hS => ?_)
    refine lv_if_ne (tgt := 30) X.1 X.2.1 dX12_games_25 (by decide) (fun c7 => ?_) (fun c7 => ?_)
    · refine lv_aload_n X.1 X.2.1 dX12_games_30 rfl (lv_at hl 0 rfl) ?_
      refine lv_lload_n X.1 X.2.1 dX12_games_31 rfl (lv_at hl 2 rfl) ?_
      refine pf_X12_40 X hK hG hS h0 wl_6_218 ⟨_, rfl⟩ dX12_games_32 (fun H locs hG hS ku8 ru8 => ?_)
      refine lv_iconst (v := 0) X.1 X.2.1 dX12_games_35 (by decide +kernel) ?_
      refine lv_istore (lv' := [(4, .int 0), (0, .ref a0), (1, .int x1), (2, .long x2)]) X.1 X.2.1 dX12_games_36 hl (by decide) rfl (fun ls hl => ?_)
      have B9_38 : ∀ (N : Nat) (H : Heap) (locs : List Loc) (ls : Array Slot) (z9_4 : Int32) (n9 : Nat), sgN P ≤ n9 → (n9 : Int) ≤ sgN P + 3 * z9_4.toInt → sgG (KT (sgAt P n9)) D vwCl (fun q : Nat => base ≤ q) tys ad ks H → va_S (fun q : Nat => base ≤ q) s.heap H locs → lv_has ls 5 [(0, .ref a0), (1, .int x1), (4, .int z9_4)] → iv 0 30 z9_4 → (31 - z9_4.toInt).toNat ≤ N → W p l e (headSpec (Cond.code yX12_games cX12_games 5 (some .int) :: sg_tbl) ({ frames := 37, cells := 0, slots := 0, locals := 868 })).room s m #[.ref a0, .int x1, .long x2] below meth c H locs 0 0 (MQ below (va_Qi (fun r (u : Int32) => u = r ∧ (fun r : Int32 => True) r) (fun u t => sgB (KT (sgAt P (sgN P + 90))) D vwCl base tys ad ks t) (fun q : Nat => base ≤ q)) #[.ref a0, .int x1, .long x2] s 0 0 (fun q : Nat => base ≤ q)) (F0 m 38 ls []) := by
        intro N; induction N with
        | zero =>
          intro H locs ls z9_4 n9 jn9 jo9 hG hS hl hz9_4 hN
          exact absurd hN (by have := iv_up hz9_4; omega)
        | succ N ih9 =>
          intro H locs ls z9_4 n9 jn9 jo9 hG hS hl hz9_4 hN9
          refine lv_iload X.1 X.2.1 dX12_games_38 (lv_at hl 2 rfl) ?_
          refine lv_iload_n X.1 X.2.1 dX12_games_40 rfl (lv_at hl 1 rfl) ?_
          have B11_63 : ∀ (locs : List Loc) (ls : Array Slot), va_S (fun q : Nat => base ≤ q) s.heap H locs → lv_has ls 5 [(0, .ref a0)] → W p l e (headSpec (Cond.code yX12_games cX12_games 5 (some .int) :: sg_tbl) ({ frames := 37, cells := 0, slots := 0, locals := 868 })).room s m #[.ref a0, .int x1, .long x2] below meth c H locs 0 0 (MQ below (va_Qi (fun r (u : Int32) => u = r ∧ (fun r : Int32 => True) r) (fun u t => sgB (KT (sgAt P (sgN P + 90))) D vwCl base tys ad ks t) (fun q : Nat => base ≤ q)) #[.ref a0, .int x1, .long x2] s 0 0 (fun q : Nat => base ≤ q)) (F0 m 63 ls []) := by
            intro locs ls hS hl
            refine lv_aload_n X.1 X.2.1 dX12_games_63 rfl (lv_at hl 0 rfl) ?_
            refine gf_X12_32 X hK hG h0 wl_6_210 dX12_games_64 (fun q12 hq12 kq12 => ?_)
            refine lv_iconst (v := 4) X.1 X.2.1 dX12_games_67 (by decide +kernel) ?_
            refine al_54 X hK hG hq12 (iv_vpin (iv_c 4 (a := 4) (b := 4) (by decide +kernel)) (by decide +kernel)) dX12_games_68 (fun f13 hf13 => ?_)
            have hf13 := sg_nw_now hf13
            have of13 := hf13
            have hf13 : iv 0 1000000000 f13 := sg_day hf13 (iv_c 4 (a := 4) (b := 4) (by decide +kernel))
            have hG : sgG (KT (sgAt P (sgN P + 90))) D vwCl _ tys ad ks _ := sg_moreN (P := (sgAt P n9)) (show n9 ≤ (sgN P + 90) from by have jb4 := hz9_4.1; have jc4 := hz9_4.2; omega) hG
            exact sg_iret2 X hr hlk hS trivial (fun t ht hW => sg_post hb hK hC hG hS ht hW) dX12_games_69
          refine lv_icmp_ge (tgt := 63) X.1 X.2.1 dX12_games_41 (by decide) (fun c10 => ?_) (fun c10 => ?_)
          · exact B11_63 _ _ hS (lv_sub hl [0] rfl)
          · refine lv_aload_n X.1 X.2.1 dX12_games_44 rfl (lv_at hl 0 rfl) ?_
            refine gf_X12_32 X hK hG h0 wl_6_210 dX12_games_45 (fun q14 hq14 kq14 => ?_)
            refine lv_iconst (v := 3) X.1 X.2.1 dX12_games_48 (by decide +kernel) ?_
            refine al_54 X hK hG hq14 (iv_vpin (iv_c 3 (a := 3) (b := 3) (by decide +kernel)) (by decide +kernel)) dX12_games_49 (fun f15 hf15 => ?_)
            have hf15 := sg_nw_now hf15
            have of15 := hf15
            have hf15 : iv (-2147483648) 2147483647 f15 := sg_sp_now hf15 (iv_c 3 (a := 3) (b := 3) (by decide +kernel)) (by decide +kernel) rfl
            refine lv_if_ne (tgt := 63) X.1 X.2.1 dX12_games_50 (by decide) (fun c16 => ?_) (fun c16 => ?_)
            · exact B11_63 _ _ hS (lv_sub hl [0] rfl)
            · refine lv_aload_n X.1 X.2.1 dX12_games_53 rfl (lv_at hl 0 rfl) ?_
              refine ca_X12_goNight_1 X hK hG hC hS hb hp4 hp10 a0 h0 (show n9 + 3 ≤ 1000000000 from by have jb4 := hz9_4.1; have jc4 := hz9_4.2; have jd4 : iv 0 29 z9_4 := (iv_lt (b' := 29) (iv_gt_of c10) hz9_4 (sg_isin (a := 1) (b := 30) (hf6.2 c7) eg5 (by decide +kernel) (by decide +kernel)) (by decide +kernel)); have je4 := jd4.2; omega) wl_8_152 hl.1 (rest := []) rfl (Nat.le_of_ble_eq_true rfl) ⟨Nat.le_of_ble_eq_true rfl, Nat.le_of_ble_eq_true rfl⟩ ⟨Nat.le_of_ble_eq_true rfl, Nat.le_of_ble_eq_true rfl⟩ dX12_games_54 (fun tg17 H locs htg17 hWg17 hS => ?_)
              have hG : sgG (KT (sgAt P (n9 + 3))) D vwCl _ tys ad ks _ := hWg17.2.2.2
              rw [htg17] at hG
              obtain ⟨y18, ey18⟩ : ∃ y : Int32, y = z9_4 + Int32.ofInt 1 := ⟨_, rfl⟩
              refine lv_iinc (v := y18) (lv' := [(4, .int y18), (0, .ref a0), (1, .int x1)]) X.1 X.2.1 dX12_games_57 hl (k := 2) rfl ey18.symm (by decide) rfl (fun ls hl => ?_)
              refine lv_goto (tgt := 38) X.1 X.2.1 dX12_games_60 (by decide) ?_
              have bq19 : 0 ≤ z9_4.toInt ∧ z9_4.toInt ≤ 29 := (iv_lt (b' := 29) (iv_gt_of c10) hz9_4 (sg_isin (a := 1) (b := 30) (hf6.2 c7) eg5 (by decide +kernel) (by decide +kernel)) (by decide +kernel))
              have xy18 : y18.toInt = z9_4.toInt + 1 := sg_inc (k := 1) ey18 (iv_lt (b' := 29) (iv_gt_of c10) hz9_4 (sg_isin (a := 1) (b := 30) (hf6.2 c7) eg5 (by decide +kernel) (by decide +kernel)) (by decide +kernel)) (by decide +kernel)
              exact ih9 H _ _ y18 (n9 + 3) (by omega) (by omega) hG hS (lv_sub hl [1, 2, 0] rfl) (iv_of (iv_add (a' := 1) (b' := 30) ey18 (iv_lt (b' := 29) (iv_gt_of c10) hz9_4 (sg_isin (a := 1) (b := 30) (hf6.2 c7) eg5 (by decide +kernel) (by decide +kernel)) (by decide +kernel)) (iv_c _ (a := 1) (b := 1) (by decide +kernel)) (by decide +kernel)) (a' := 0) (b' := 30) (by decide +kernel)) (iv_stepU ey18 (iv_lt (b' := 29) (iv_gt_of c10) hz9_4 (sg_isin (a := 1) (b := 30) (hf6.2 c7) eg5 (by decide +kernel) (by decide +kernel)) (by decide +kernel)) (by decide +kernel) hN9)
      have cq20 : (0 : Int32).toInt = 0 := by decide +kernel
      exact B9_38 _ H _ _ 0 (sgN P) (by omega) (by omega) hG hS (lv_sub hl [1, 2, 0] rfl) (iv_of (iv_c 0 (a := 0) (b := 0) (by decide +kernel)) (a' := 0) (b' := 30) (by decide +kernel)) (Nat.le_refl _)
    · refine lv_iconst (v := (-1)) X.1 X.2.1 dX12_games_28 (by decide +kernel) ?_
      have hG : sgG (KT (sgAt P (sgN P + 90))) D vwCl _ tys ad ks _ := sg_moreN (P := P) (show (sgN P) ≤ (sgN P + 90) from by omega) hG
      exact sg_iret2 X hr hlk hS trivial (fun t ht hW => sg_post hb hK hC hG hS ht hW) dX12_games_29

theorem ca_X12_games_1   (X : CallFix p m c cc nL s args sg_tbl own) (hK : va_K D vwCl tys s) (hG : sgG (KT P) D vwCl (fun q : Nat => base ≤ q) tys ad ks H) (hC : sgC base s) (hS : va_S (fun q : Nat => base ≤ q) s.heap H locs) (hb : base ≤ s.heap.size) (hp4 : P.2.2.2.2.1 = true) (hp10 : sgPin P = none) (a0 : Nat) (h0 : isK ad ks 12 a0) (x1 : Int32) (x2 : Int64) (hN : sgN P + 90 ≤ 1000000000) (hl : Cond.methodLink own index yX12_games ∈ sg_tbl) (hsize : ls.size = nL) (hst : st0 = [.int x1, .long x2].reverse ++ .ref a0 :: rest) (hW : (rest.map fun v => v.category).sum ≤ 8) (hR : 38 ≤ R.frames ∧ 892 ≤ R.locals) (hf : cells ≤ R.cells ∧ slots ≤ R.slots) (hdg : decode cc pc = .ok (.invokevirtual index, 3)) (kk : ∀ (r : Int32) (t : State) (H1 : Heap) (locs1 : List Loc), t.heap = H1 → (fun r : Int32 => True) r → (sgB (KT (sgAt P (sgN P + 90))) D vwCl base tys ad ks t) → va_S (fun q : Nat => base ≤ q) s.heap H1 locs1 → W p l e R s m args below meth c H1 locs1 cells slots Q (F0 m (pc + 3) ls (.int r :: rest))) : W p l e R s m args below meth c H locs cells slots Q (F0 m pc ls st0) :=
  sg_callV2i X hK hG hC hS hb (m_X12_games_1 l hp4 hp10 a0 h0 x1 x2 hN) h0 (k := 12) (ci := 12) rfl (C := RX12) (T := TX12) (N := 53) rfl wl_8_150 wl_1_13 wl_8_148 wl_8_149 (n := 2) (by decide +kernel) rfl rfl rfl hl hsize hst hW hR hf hdg kk
end
