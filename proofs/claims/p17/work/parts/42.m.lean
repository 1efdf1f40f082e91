abbrev cX12_areFew : ByteArray := prog_14_method_107_code
def yX12_areFew : MethodName := ⟨RX12, "areFew", "()Z"⟩
abbrev cX12_book : ByteArray := prog_14_method_112_code
def yX12_book : MethodName := ⟨RX12, "book", "(IZ)I"⟩
abbrev cX12_bytesIn : ByteArray := prog_14_method_6_code
def yX12_bytesIn : MethodName := ⟨RX12, "bytesIn", "(I)I"⟩
abbrev cX12_count : ByteArray := prog_14_method_128_code
def yX12_count : MethodName := ⟨RX12, "count", "(I)I"⟩
abbrev cX12_fit : ByteArray := prog_14_method_114_code
def yX12_fit : MethodName := ⟨RX12, "fit", "(I)I"⟩
abbrev cX12_isNight : ByteArray := prog_14_method_95_code
def yX12_isNight : MethodName := ⟨RX12, "isNight", "()Z"⟩
abbrev cX12_longest : ByteArray := prog_14_method_125_code
def yX12_longest : MethodName := ⟨RX12, "longest", "()I"⟩
abbrev cX12_meant : ByteArray := prog_14_method_99_code
def yX12_meant : MethodName := ⟨RX12, "meant", "()I"⟩
abbrev cX12_move : ByteArray := prog_14_method_77_code
def yX12_move : MethodName := ⟨RX12, "move", "(III)I"⟩
abbrev cX12_parts : ByteArray := prog_14_method_102_code
def yX12_parts : MethodName := ⟨RX12, "parts", "(I)I"⟩
abbrev cX12_rule : ByteArray := prog_14_method_51_code
def yX12_rule : MethodName := ⟨RX12, "rule", "(I)I"⟩
abbrev cX12_tells : ByteArray := prog_14_method_115_code
def yX12_tells : MethodName := ⟨RX12, "tells", "()I"⟩
theorem dX12_areFew_0 : decode cX12_areFew 0 = .ok (.iconst 0, 1) := by decide +kernel
theorem dX12_areFew_1 : decode cX12_areFew 1 = .ok (.istore_n 1, 1) := by decide +kernel
theorem dX12_areFew_2 : decode cX12_areFew 2 = .ok (.iload_n 1, 1) := by decide +kernel
theorem dX12_areFew_3 : decode cX12_areFew 3 = .ok (.aload_n 0, 1) := by decide +kernel
theorem dX12_areFew_4 : decode cX12_areFew 4 = .ok (.iconst (-1), 1) := by decide +kernel
theorem dX12_areFew_5 : decode cX12_areFew 5 = .ok (.invokevirtual 493, 3) := by decide +kernel
theorem dX12_areFew_8 : decode cX12_areFew 8 = .ok (.if_icmp .ge 24, 3) := by decide +kernel
theorem dX12_areFew_11 : decode cX12_areFew 11 = .ok (.aload_n 0, 1) := by decide +kernel
theorem dX12_areFew_12 : decode cX12_areFew 12 = .ok (.iload_n 1, 1) := by decide +kernel
theorem dX12_areFew_13 : decode cX12_areFew 13 = .ok (.invokevirtual 493, 3) := by decide +kernel
theorem dX12_areFew_16 : decode cX12_areFew 16 = .ok (.invokestatic 333, 3) := by decide +kernel
theorem dX12_areFew_19 : decode cX12_areFew 19 = .ok (.bipush 12, 2) := by decide +kernel
theorem dX12_areFew_21 : decode cX12_areFew 21 = .ok (.if_icmp .le 5, 3) := by decide +kernel
theorem dX12_areFew_24 : decode cX12_areFew 24 = .ok (.iconst 0, 1) := by decide +kernel
theorem dX12_areFew_25 : decode cX12_areFew 25 = .ok (.ireturn, 1) := by decide +kernel
theorem dX12_areFew_26 : decode cX12_areFew 26 = .ok (.iinc 1 1, 3) := by decide +kernel
theorem dX12_areFew_29 : decode cX12_areFew 29 = .ok (.goto (-27), 3) := by decide +kernel
theorem dX12_areFew_32 : decode cX12_areFew 32 = .ok (.iconst 1, 1) := by decide +kernel
theorem dX12_areFew_33 : decode cX12_areFew 33 = .ok (.ireturn, 1) := by decide +kernel
theorem dX12_book_0 : decode cX12_book 0 = .ok (.aload_n 0, 1) := by decide +kernel
theorem dX12_book_1 : decode cX12_book 1 = .ok (.iconst 0, 1) := by decide +kernel
theorem dX12_book_2 : decode cX12_book 2 = .ok (.putfield 94, 3) := by decide +kernel
theorem dX12_book_5 : decode cX12_book 5 = .ok (.aload_n 0, 1) := by decide +kernel
theorem dX12_book_6 : decode cX12_book 6 = .ok (.iload_n 1, 1) := by decide +kernel
theorem dX12_book_7 : decode cX12_book 7 = .ok (.invokevirtual 516, 3) := by decide +kernel
theorem dX12_book_10 : decode cX12_book 10 = .ok (.ifCond .eq 12, 3) := by decide +kernel
theorem dX12_book_13 : decode cX12_book 13 = .ok (.aload_n 0, 1) := by decide +kernel
theorem dX12_book_14 : decode cX12_book 14 = .ok (.getfield 308, 3) := by decide +kernel
theorem dX12_book_17 : decode cX12_book 17 = .ok (.bipush 12, 2) := by decide +kernel
theorem dX12_book_19 : decode cX12_book 19 = .ok (.if_icmp .ne 5, 3) := by decide +kernel
theorem dX12_book_22 : decode cX12_book 22 = .ok (.iconst (-1), 1) := by decide +kernel
theorem dX12_book_23 : decode cX12_book 23 = .ok (.ireturn, 1) := by decide +kernel
theorem dX12_book_24 : decode cX12_book 24 = .ok (.aload_n 0, 1) := by decide +kernel
theorem dX12_book_25 : decode cX12_book 25 = .ok (.getfield 84, 3) := by decide +kernel
theorem dX12_book_28 : decode cX12_book 28 = .ok (.aload_n 0, 1) := by decide +kernel
theorem dX12_book_29 : decode cX12_book 29 = .ok (.getfield 308, 3) := by decide +kernel
theorem dX12_book_32 : decode cX12_book 32 = .ok (.aload_n 0, 1) := by decide +kernel
theorem dX12_book_33 : decode cX12_book 33 = .ok (.aload_n 0, 1) := by decide +kernel
theorem dX12_book_34 : decode cX12_book 34 = .ok (.getfield 52, 3) := by decide +kernel
theorem dX12_book_37 : decode cX12_book 37 = .ok (.iconst 0, 1) := by decide +kernel
theorem dX12_book_38 : decode cX12_book 38 = .ok (.iaload, 1) := by decide +kernel
theorem dX12_book_39 : decode cX12_book 39 = .ok (.iload_n 1, 1) := by decide +kernel
theorem dX12_book_40 : decode cX12_book 40 = .ok (.invokevirtual 330, 3) := by decide +kernel
theorem dX12_book_43 : decode cX12_book 43 = .ok (.iastore, 1) := by decide +kernel
theorem dX12_book_44 : decode cX12_book 44 = .ok (.aload_n 0, 1) := by decide +kernel
theorem dX12_book_45 : decode cX12_book 45 = .ok (.getfield 87, 3) := by decide +kernel
theorem dX12_book_48 : decode cX12_book 48 = .ok (.aload_n 0, 1) := by decide +kernel
theorem dX12_book_49 : decode cX12_book 49 = .ok (.getfield 308, 3) := by decide +kernel
theorem dX12_book_52 : decode cX12_book 52 = .ok (.iload_n 2, 1) := by decide +kernel
theorem dX12_book_53 : decode cX12_book 53 = .ok (.bastore, 1) := by decide +kernel
theorem dX12_book_54 : decode cX12_book 54 = .ok (.aload_n 0, 1) := by decide +kernel
theorem dX12_book_55 : decode cX12_book 55 = .ok (.dup, 1) := by decide +kernel
theorem dX12_book_56 : decode cX12_book 56 = .ok (.getfield 308, 3) := by decide +kernel
theorem dX12_book_59 : decode cX12_book 59 = .ok (.iconst 1, 1) := by decide +kernel
theorem dX12_book_60 : decode cX12_book 60 = .ok (.iadd, 1) := by decide +kernel
theorem dX12_book_61 : decode cX12_book 61 = .ok (.putfield 308, 3) := by decide +kernel
theorem dX12_book_64 : decode cX12_book 64 = .ok (.aload_n 0, 1) := by decide +kernel
theorem dX12_book_65 : decode cX12_book 65 = .ok (.getfield 308, 3) := by decide +kernel
theorem dX12_book_68 : decode cX12_book 68 = .ok (.ireturn, 1) := by decide +kernel
theorem dX12_bytesIn_0 : decode cX12_bytesIn 0 = .ok (.iconst 0, 1) := by decide +kernel
theorem dX12_bytesIn_1 : decode cX12_bytesIn 1 = .ok (.istore_n 1, 1) := by decide +kernel
theorem dX12_bytesIn_2 : decode cX12_bytesIn 2 = .ok (.bipush 24, 2) := by decide +kernel
theorem dX12_bytesIn_4 : decode cX12_bytesIn 4 = .ok (.istore_n 2, 1) := by decide +kernel
theorem dX12_bytesIn_5 : decode cX12_bytesIn 5 = .ok (.iload_n 2, 1) := by decide +kernel
theorem dX12_bytesIn_6 : decode cX12_bytesIn 6 = .ok (.ifCond .lt 27, 3) := by decide +kernel
theorem dX12_bytesIn_9 : decode cX12_bytesIn 9 = .ok (.iload_n 1, 1) := by decide +kernel
theorem dX12_bytesIn_10 : decode cX12_bytesIn 10 = .ok (.iload_n 0, 1) := by decide +kernel
theorem dX12_bytesIn_11 : decode cX12_bytesIn 11 = .ok (.iload_n 2, 1) := by decide +kernel
theorem dX12_bytesIn_12 : decode cX12_bytesIn 12 = .ok (.ishr, 1) := by decide +kernel
theorem dX12_bytesIn_13 : decode cX12_bytesIn 13 = .ok (.sipush 255, 3) := by decide +kernel
theorem dX12_bytesIn_16 : decode cX12_bytesIn 16 = .ok (.iand, 1) := by decide +kernel
theorem dX12_bytesIn_17 : decode cX12_bytesIn 17 = .ok (.ifCond .eq 7, 3) := by decide +kernel
theorem dX12_bytesIn_20 : decode cX12_bytesIn 20 = .ok (.iconst 1, 1) := by decide +kernel
theorem dX12_bytesIn_21 : decode cX12_bytesIn 21 = .ok (.goto 4, 3) := by decide +kernel
theorem dX12_bytesIn_24 : decode cX12_bytesIn 24 = .ok (.iconst 0, 1) := by decide +kernel
theorem dX12_bytesIn_25 : decode cX12_bytesIn 25 = .ok (.iadd, 1) := by decide +kernel
theorem dX12_bytesIn_26 : decode cX12_bytesIn 26 = .ok (.istore_n 1, 1) := by decide +kernel
theorem dX12_bytesIn_27 : decode cX12_bytesIn 27 = .ok (.iinc 2 (-8), 3) := by decide +kernel
theorem dX12_bytesIn_30 : decode cX12_bytesIn 30 = .ok (.goto (-25), 3) := by decide +kernel
theorem dX12_bytesIn_33 : decode cX12_bytesIn 33 = .ok (.iload_n 1, 1) := by decide +kernel
theorem dX12_bytesIn_34 : decode cX12_bytesIn 34 = .ok (.ireturn, 1) := by decide +kernel
theorem dX12_count_0 : decode cX12_count 0 = .ok (.aload_n 0, 1) := by decide +kernel
theorem dX12_count_1 : decode cX12_count 1 = .ok (.iconst 0, 1) := by decide +kernel
theorem dX12_count_2 : decode cX12_count 2 = .ok (.putfield 94, 3) := by decide +kernel
theorem dX12_count_5 : decode cX12_count 5 = .ok (.iload_n 1, 1) := by decide +kernel
theorem dX12_count_6 : decode cX12_count 6 = .ok (.tableswitch 179 0 15 #[78, 83, 93, 98, 103, 108, 113, 120, 127, 134, 141, 149, 154, 159, 167, 172], 78) := by decide +kernel
theorem dX12_count_84 : decode cX12_count 84 = .ok (.aload_n 0, 1) := by decide +kernel
theorem dX12_count_85 : decode cX12_count 85 = .ok (.getfield 302, 3) := by decide +kernel
theorem dX12_count_88 : decode cX12_count 88 = .ok (.ireturn, 1) := by decide +kernel
theorem dX12_count_89 : decode cX12_count 89 = .ok (.aload_n 0, 1) := by decide +kernel
theorem dX12_count_90 : decode cX12_count 90 = .ok (.getfield 52, 3) := by decide +kernel
theorem dX12_count_93 : decode cX12_count 93 = .ok (.iconst 0, 1) := by decide +kernel
theorem dX12_count_94 : decode cX12_count 94 = .ok (.iaload, 1) := by decide +kernel
theorem dX12_count_95 : decode cX12_count 95 = .ok (.invokestatic 333, 3) := by decide +kernel
theorem dX12_count_98 : decode cX12_count 98 = .ok (.ireturn, 1) := by decide +kernel
theorem dX12_count_99 : decode cX12_count 99 = .ok (.aload_n 0, 1) := by decide +kernel
theorem dX12_count_100 : decode cX12_count 100 = .ok (.getfield 294, 3) := by decide +kernel
theorem dX12_count_103 : decode cX12_count 103 = .ok (.ireturn, 1) := by decide +kernel
theorem dX12_count_104 : decode cX12_count 104 = .ok (.aload_n 0, 1) := by decide +kernel
theorem dX12_count_105 : decode cX12_count 105 = .ok (.getfield 297, 3) := by decide +kernel
theorem dX12_count_108 : decode cX12_count 108 = .ok (.ireturn, 1) := by decide +kernel
theorem dX12_count_109 : decode cX12_count 109 = .ok (.aload_n 0, 1) := by decide +kernel
theorem dX12_count_110 : decode cX12_count 110 = .ok (.getfield 107, 3) := by decide +kernel
theorem dX12_count_113 : decode cX12_count 113 = .ok (.ireturn, 1) := by decide +kernel
theorem dX12_count_114 : decode cX12_count 114 = .ok (.aload_n 0, 1) := by decide +kernel
theorem dX12_count_115 : decode cX12_count 115 = .ok (.getfield 58, 3) := by decide +kernel
theorem dX12_count_118 : decode cX12_count 118 = .ok (.ireturn, 1) := by decide +kernel
theorem dX12_count_119 : decode cX12_count 119 = .ok (.aload_n 0, 1) := by decide +kernel
theorem dX12_count_120 : decode cX12_count 120 = .ok (.getfield 52, 3) := by decide +kernel
theorem dX12_count_123 : decode cX12_count 123 = .ok (.iconst 4, 1) := by decide +kernel
theorem dX12_count_124 : decode cX12_count 124 = .ok (.iaload, 1) := by decide +kernel
theorem dX12_count_125 : decode cX12_count 125 = .ok (.ireturn, 1) := by decide +kernel
theorem dX12_count_126 : decode cX12_count 126 = .ok (.aload_n 0, 1) := by decide +kernel
theorem dX12_count_127 : decode cX12_count 127 = .ok (.getfield 52, 3) := by decide +kernel
theorem dX12_count_130 : decode cX12_count 130 = .ok (.iconst 2, 1) := by decide +kernel
theorem dX12_count_131 : decode cX12_count 131 = .ok (.iaload, 1) := by decide +kernel
theorem dX12_count_132 : decode cX12_count 132 = .ok (.ireturn, 1) := by decide +kernel
theorem dX12_count_133 : decode cX12_count 133 = .ok (.aload_n 0, 1) := by decide +kernel
theorem dX12_count_134 : decode cX12_count 134 = .ok (.getfield 52, 3) := by decide +kernel
theorem dX12_count_137 : decode cX12_count 137 = .ok (.iconst 3, 1) := by decide +kernel
theorem dX12_count_138 : decode cX12_count 138 = .ok (.iaload, 1) := by decide +kernel
theorem dX12_count_139 : decode cX12_count 139 = .ok (.ireturn, 1) := by decide +kernel
theorem dX12_count_140 : decode cX12_count 140 = .ok (.aload_n 0, 1) := by decide +kernel
theorem dX12_count_141 : decode cX12_count 141 = .ok (.getfield 52, 3) := by decide +kernel
theorem dX12_count_144 : decode cX12_count 144 = .ok (.iconst 5, 1) := by decide +kernel
theorem dX12_count_145 : decode cX12_count 145 = .ok (.iaload, 1) := by decide +kernel
theorem dX12_count_146 : decode cX12_count 146 = .ok (.ireturn, 1) := by decide +kernel
theorem dX12_count_147 : decode cX12_count 147 = .ok (.aload_n 0, 1) := by decide +kernel
theorem dX12_count_148 : decode cX12_count 148 = .ok (.getfield 52, 3) := by decide +kernel
theorem dX12_count_151 : decode cX12_count 151 = .ok (.bipush 6, 2) := by decide +kernel
theorem dX12_count_153 : decode cX12_count 153 = .ok (.iaload, 1) := by decide +kernel
theorem dX12_count_154 : decode cX12_count 154 = .ok (.ireturn, 1) := by decide +kernel
theorem dX12_count_155 : decode cX12_count 155 = .ok (.aload_n 0, 1) := by decide +kernel
theorem dX12_count_156 : decode cX12_count 156 = .ok (.getfield 360, 3) := by decide +kernel
theorem dX12_count_159 : decode cX12_count 159 = .ok (.ireturn, 1) := by decide +kernel
theorem dX12_count_160 : decode cX12_count 160 = .ok (.aload_n 0, 1) := by decide +kernel
theorem dX12_count_161 : decode cX12_count 161 = .ok (.getfield 308, 3) := by decide +kernel
theorem dX12_count_164 : decode cX12_count 164 = .ok (.ireturn, 1) := by decide +kernel
theorem dX12_count_165 : decode cX12_count 165 = .ok (.aload_n 0, 1) := by decide +kernel
theorem dX12_count_166 : decode cX12_count 166 = .ok (.getfield 52, 3) := by decide +kernel
theorem dX12_count_169 : decode cX12_count 169 = .ok (.bipush 8, 2) := by decide +kernel
theorem dX12_count_171 : decode cX12_count 171 = .ok (.iaload, 1) := by decide +kernel
theorem dX12_count_172 : decode cX12_count 172 = .ok (.ireturn, 1) := by decide +kernel
theorem dX12_count_173 : decode cX12_count 173 = .ok (.aload_n 0, 1) := by decide +kernel
theorem dX12_count_174 : decode cX12_count 174 = .ok (.getfield 311, 3) := by decide +kernel
theorem dX12_count_177 : decode cX12_count 177 = .ok (.ireturn, 1) := by decide +kernel
theorem dX12_count_178 : decode cX12_count 178 = .ok (.aload_n 0, 1) := by decide +kernel
theorem dX12_count_179 : decode cX12_count 179 = .ok (.getfield 52, 3) := by decide +kernel
theorem dX12_count_182 : decode cX12_count 182 = .ok (.iconst 0, 1) := by decide +kernel
theorem dX12_count_183 : decode cX12_count 183 = .ok (.iaload, 1) := by decide +kernel
theorem dX12_count_184 : decode cX12_count 184 = .ok (.ireturn, 1) := by decide +kernel
theorem dX12_count_185 : decode cX12_count 185 = .ok (.ldc_w 439, 3) := by decide +kernel
theorem dX12_count_188 : decode cX12_count 188 = .ok (.ireturn, 1) := by decide +kernel
theorem dX12_fit_0 : decode cX12_fit 0 = .ok (.aload_n 0, 1) := by decide +kernel
theorem dX12_fit_1 : decode cX12_fit 1 = .ok (.iconst 0, 1) := by decide +kernel
theorem dX12_fit_2 : decode cX12_fit 2 = .ok (.putfield 94, 3) := by decide +kernel
theorem dX12_fit_5 : decode cX12_fit 5 = .ok (.aload_n 0, 1) := by decide +kernel
theorem dX12_fit_6 : decode cX12_fit 6 = .ok (.getfield 302, 3) := by decide +kernel
theorem dX12_fit_9 : decode cX12_fit 9 = .ok (.ifCond .eq 8, 3) := by decide +kernel
theorem dX12_fit_12 : decode cX12_fit 12 = .ok (.iload_n 1, 1) := by decide +kernel
theorem dX12_fit_13 : decode cX12_fit 13 = .ok (.iconst (-1), 1) := by decide +kernel
theorem dX12_fit_14 : decode cX12_fit 14 = .ok (.if_icmp .ge 5, 3) := by decide +kernel
theorem dX12_fit_17 : decode cX12_fit 17 = .ok (.iconst (-1), 1) := by decide +kernel
theorem dX12_fit_18 : decode cX12_fit 18 = .ok (.ireturn, 1) := by decide +kernel
theorem dX12_fit_19 : decode cX12_fit 19 = .ok (.iconst 0, 1) := by decide +kernel
theorem dX12_fit_20 : decode cX12_fit 20 = .ok (.istore_n 2, 1) := by decide +kernel
theorem dX12_fit_21 : decode cX12_fit 21 = .ok (.iconst 0, 1) := by decide +kernel
theorem dX12_fit_22 : decode cX12_fit 22 = .ok (.istore_n 3, 1) := by decide +kernel
theorem dX12_fit_23 : decode cX12_fit 23 = .ok (.iload_n 3, 1) := by decide +kernel
theorem dX12_fit_24 : decode cX12_fit 24 = .ok (.bipush 8, 2) := by decide +kernel
theorem dX12_fit_26 : decode cX12_fit 26 = .ok (.if_icmp .gt 54, 3) := by decide +kernel
theorem dX12_fit_29 : decode cX12_fit 29 = .ok (.iload_n 3, 1) := by decide +kernel
theorem dX12_fit_30 : decode cX12_fit 30 = .ok (.istore 4, 2) := by decide +kernel
theorem dX12_fit_32 : decode cX12_fit 32 = .ok (.iload 4, 2) := by decide +kernel
theorem dX12_fit_34 : decode cX12_fit 34 = .ok (.bipush 8, 2) := by decide +kernel
theorem dX12_fit_36 : decode cX12_fit 36 = .ok (.if_icmp .gt 38, 3) := by decide +kernel
theorem dX12_fit_39 : decode cX12_fit 39 = .ok (.aload_n 0, 1) := by decide +kernel
theorem dX12_fit_40 : decode cX12_fit 40 = .ok (.iload_n 3, 1) := by decide +kernel
theorem dX12_fit_41 : decode cX12_fit 41 = .ok (.iload 4, 2) := by decide +kernel
theorem dX12_fit_43 : decode cX12_fit 43 = .ok (.invokevirtual 519, 3) := by decide +kernel
theorem dX12_fit_46 : decode cX12_fit 46 = .ok (.ifCond .ne 6, 3) := by decide +kernel
theorem dX12_fit_49 : decode cX12_fit 49 = .ok (.goto 19, 3) := by decide +kernel
theorem dX12_fit_52 : decode cX12_fit 52 = .ok (.iload_n 2, 1) := by decide +kernel
theorem dX12_fit_53 : decode cX12_fit 53 = .ok (.iload_n 1, 1) := by decide +kernel
theorem dX12_fit_54 : decode cX12_fit 54 = .ok (.if_icmp .ne 11, 3) := by decide +kernel
theorem dX12_fit_57 : decode cX12_fit 57 = .ok (.bipush 10, 2) := by decide +kernel
theorem dX12_fit_59 : decode cX12_fit 59 = .ok (.iload_n 3, 1) := by decide +kernel
theorem dX12_fit_60 : decode cX12_fit 60 = .ok (.imul, 1) := by decide +kernel
theorem dX12_fit_61 : decode cX12_fit 61 = .ok (.iload 4, 2) := by decide +kernel
theorem dX12_fit_63 : decode cX12_fit 63 = .ok (.iadd, 1) := by decide +kernel
theorem dX12_fit_64 : decode cX12_fit 64 = .ok (.ireturn, 1) := by decide +kernel
theorem dX12_fit_65 : decode cX12_fit 65 = .ok (.iinc 2 1, 3) := by decide +kernel
theorem dX12_fit_68 : decode cX12_fit 68 = .ok (.iinc 4 1, 3) := by decide +kernel
theorem dX12_fit_71 : decode cX12_fit 71 = .ok (.goto (-39), 3) := by decide +kernel
theorem dX12_fit_74 : decode cX12_fit 74 = .ok (.iinc 3 1, 3) := by decide +kernel
theorem dX12_fit_77 : decode cX12_fit 77 = .ok (.goto (-54), 3) := by decide +kernel
theorem dX12_fit_80 : decode cX12_fit 80 = .ok (.iload_n 1, 1) := by decide +kernel
theorem dX12_fit_81 : decode cX12_fit 81 = .ok (.iconst (-1), 1) := by decide +kernel
theorem dX12_fit_82 : decode cX12_fit 82 = .ok (.if_icmp .ne 7, 3) := by decide +kernel
theorem dX12_fit_85 : decode cX12_fit 85 = .ok (.iload_n 2, 1) := by decide +kernel
theorem dX12_fit_86 : decode cX12_fit 86 = .ok (.goto 4, 3) := by decide +kernel
theorem dX12_fit_89 : decode cX12_fit 89 = .ok (.iconst (-1), 1) := by decide +kernel
theorem dX12_fit_90 : decode cX12_fit 90 = .ok (.ireturn, 1) := by decide +kernel
theorem dX12_isNight_0 : decode cX12_isNight 0 = .ok (.aload_n 0, 1) := by decide +kernel
theorem dX12_isNight_1 : decode cX12_isNight 1 = .ok (.aload_n 0, 1) := by decide +kernel
theorem dX12_isNight_2 : decode cX12_isNight 2 = .ok (.getfield 52, 3) := by decide +kernel
theorem dX12_isNight_5 : decode cX12_isNight 5 = .ok (.invokevirtual 363, 3) := by decide +kernel
theorem dX12_isNight_8 : decode cX12_isNight 8 = .ok (.ifCond .eq 16, 3) := by decide +kernel
theorem dX12_isNight_11 : decode cX12_isNight 11 = .ok (.aload_n 0, 1) := by decide +kernel
theorem dX12_isNight_12 : decode cX12_isNight 12 = .ok (.getfield 52, 3) := by decide +kernel
theorem dX12_isNight_15 : decode cX12_isNight 15 = .ok (.iconst 2, 1) := by decide +kernel
theorem dX12_isNight_16 : decode cX12_isNight 16 = .ok (.iaload, 1) := by decide +kernel
theorem dX12_isNight_17 : decode cX12_isNight 17 = .ok (.ifCond .ne 7, 3) := by decide +kernel
theorem dX12_isNight_20 : decode cX12_isNight 20 = .ok (.iconst 1, 1) := by decide +kernel
theorem dX12_isNight_21 : decode cX12_isNight 21 = .ok (.goto 4, 3) := by decide +kernel
theorem dX12_isNight_24 : decode cX12_isNight 24 = .ok (.iconst 0, 1) := by decide +kernel
theorem dX12_isNight_25 : decode cX12_isNight 25 = .ok (.ireturn, 1) := by decide +kernel
theorem dX12_longest_0 : decode cX12_longest 0 = .ok (.aload_n 0, 1) := by decide +kernel
theorem dX12_longest_1 : decode cX12_longest 1 = .ok (.iconst 0, 1) := by decide +kernel
theorem dX12_longest_2 : decode cX12_longest 2 = .ok (.putfield 94, 3) := by decide +kernel
theorem dX12_longest_5 : decode cX12_longest 5 = .ok (.aload_n 0, 1) := by decide +kernel
theorem dX12_longest_6 : decode cX12_longest 6 = .ok (.getfield 302, 3) := by decide +kernel
theorem dX12_longest_9 : decode cX12_longest 9 = .ok (.ifCond .ne 7, 3) := by decide +kernel
theorem dX12_longest_16 : decode cX12_longest 16 = .ok (.aload_n 0, 1) := by decide +kernel
theorem dX12_longest_17 : decode cX12_longest 17 = .ok (.getfield 52, 3) := by decide +kernel
theorem dX12_longest_20 : decode cX12_longest 20 = .ok (.iconst 0, 1) := by decide +kernel
theorem dX12_longest_21 : decode cX12_longest 21 = .ok (.iaload, 1) := by decide +kernel
theorem dX12_longest_22 : decode cX12_longest 22 = .ok (.aload_n 0, 1) := by decide +kernel
theorem dX12_longest_23 : decode cX12_longest 23 = .ok (.getfield 37, 3) := by decide +kernel
theorem dX12_longest_26 : decode cX12_longest 26 = .ok (.invokestatic 323, 3) := by decide +kernel
theorem dX12_longest_29 : decode cX12_longest 29 = .ok (.ireturn, 1) := by decide +kernel
theorem dX12_meant_0 : decode cX12_meant 0 = .ok (.aload_n 0, 1) := by decide +kernel
theorem dX12_meant_1 : decode cX12_meant 1 = .ok (.iconst 0, 1) := by decide +kernel
theorem dX12_meant_2 : decode cX12_meant 2 = .ok (.putfield 94, 3) := by decide +kernel
theorem dX12_meant_5 : decode cX12_meant 5 = .ok (.aload_n 0, 1) := by decide +kernel
theorem dX12_meant_6 : decode cX12_meant 6 = .ok (.getfield 302, 3) := by decide +kernel
theorem dX12_meant_9 : decode cX12_meant 9 = .ok (.ifCond .ne 7, 3) := by decide +kernel
theorem dX12_meant_16 : decode cX12_meant 16 = .ok (.aload_n 0, 1) := by decide +kernel
theorem dX12_meant_17 : decode cX12_meant 17 = .ok (.getfield 52, 3) := by decide +kernel
theorem dX12_meant_20 : decode cX12_meant 20 = .ok (.bipush 7, 2) := by decide +kernel
theorem dX12_meant_22 : decode cX12_meant 22 = .ok (.iaload, 1) := by decide +kernel
theorem dX12_meant_23 : decode cX12_meant 23 = .ok (.ireturn, 1) := by decide +kernel
theorem dX12_move_0 : decode cX12_move 0 = .ok (.aload_n 0, 1) := by decide +kernel
theorem dX12_move_1 : decode cX12_move 1 = .ok (.iconst 0, 1) := by decide +kernel
theorem dX12_move_2 : decode cX12_move 2 = .ok (.putfield 94, 3) := by decide +kernel
theorem dX12_move_5 : decode cX12_move 5 = .ok (.aload_n 0, 1) := by decide +kernel
theorem dX12_move_6 : decode cX12_move 6 = .ok (.iload_n 1, 1) := by decide +kernel
theorem dX12_move_7 : decode cX12_move 7 = .ok (.invokevirtual 440, 3) := by decide +kernel
theorem dX12_move_10 : decode cX12_move 10 = .ok (.ifCond .eq 51, 3) := by decide +kernel
theorem dX12_move_13 : decode cX12_move 13 = .ok (.iload_n 2, 1) := by decide +kernel
theorem dX12_move_14 : decode cX12_move 14 = .ok (.i2l, 1) := by decide +kernel
theorem dX12_move_15 : decode cX12_move 15 = .ok (.lconst 0, 1) := by decide +kernel
theorem dX12_move_16 : decode cX12_move 16 = .ok (.aload_n 0, 1) := by decide +kernel
theorem dX12_move_17 : decode cX12_move 17 = .ok (.getfield 49, 3) := by decide +kernel
theorem dX12_move_20 : decode cX12_move 20 = .ok (.iload_n 1, 1) := by decide +kernel
theorem dX12_move_21 : decode cX12_move 21 = .ok (.iaload, 1) := by decide +kernel
theorem dX12_move_22 : decode cX12_move 22 = .ok (.iconst 1, 1) := by decide +kernel
theorem dX12_move_23 : decode cX12_move 23 = .ok (.isub, 1) := by decide +kernel
theorem dX12_move_24 : decode cX12_move 24 = .ok (.i2l, 1) := by decide +kernel
theorem dX12_move_25 : decode cX12_move 25 = .ok (.invokestatic 215, 3) := by decide +kernel
theorem dX12_move_28 : decode cX12_move 28 = .ok (.ifCond .eq 33, 3) := by decide +kernel
theorem dX12_move_31 : decode cX12_move 31 = .ok (.iload_n 3, 1) := by decide +kernel
theorem dX12_move_32 : decode cX12_move 32 = .ok (.i2l, 1) := by decide +kernel
theorem dX12_move_33 : decode cX12_move 33 = .ok (.lconst 0, 1) := by decide +kernel
theorem dX12_move_34 : decode cX12_move 34 = .ok (.ldc2_w 437, 3) := by decide +kernel
theorem dX12_move_37 : decode cX12_move 37 = .ok (.invokestatic 215, 3) := by decide +kernel
theorem dX12_move_40 : decode cX12_move 40 = .ok (.ifCond .eq 21, 3) := by decide +kernel
theorem dX12_move_43 : decode cX12_move 43 = .ok (.aload_n 0, 1) := by decide +kernel
theorem dX12_move_44 : decode cX12_move 44 = .ok (.getfield 46, 3) := by decide +kernel
theorem dX12_move_47 : decode cX12_move 47 = .ok (.iconst 4, 1) := by decide +kernel
theorem dX12_move_48 : decode cX12_move 48 = .ok (.bipush 16, 2) := by decide +kernel
theorem dX12_move_50 : decode cX12_move 50 = .ok (.iload_n 1, 1) := by decide +kernel
theorem dX12_move_51 : decode cX12_move 51 = .ok (.imul, 1) := by decide +kernel
theorem dX12_move_52 : decode cX12_move 52 = .ok (.iload_n 2, 1) := by decide +kernel
theorem dX12_move_53 : decode cX12_move 53 = .ok (.iadd, 1) := by decide +kernel
theorem dX12_move_54 : decode cX12_move 54 = .ok (.imul, 1) := by decide +kernel
theorem dX12_move_55 : decode cX12_move 55 = .ok (.iload_n 3, 1) := by decide +kernel
theorem dX12_move_56 : decode cX12_move 56 = .ok (.iadd, 1) := by decide +kernel
theorem dX12_move_57 : decode cX12_move 57 = .ok (.iaload, 1) := by decide +kernel
theorem dX12_move_58 : decode cX12_move 58 = .ok (.goto 6, 3) := by decide +kernel
theorem dX12_move_61 : decode cX12_move 61 = .ok (.ldc_w 439, 3) := by decide +kernel
theorem dX12_move_64 : decode cX12_move 64 = .ok (.ireturn, 1) := by decide +kernel
theorem dX12_parts_0 : decode cX12_parts 0 = .ok (.aload_n 0, 1) := by decide +kernel
theorem dX12_parts_1 : decode cX12_parts 1 = .ok (.iconst 0, 1) := by decide +kernel
theorem dX12_parts_2 : decode cX12_parts 2 = .ok (.putfield 94, 3) := by decide +kernel
theorem dX12_parts_5 : decode cX12_parts 5 = .ok (.aload_n 0, 1) := by decide +kernel
theorem dX12_parts_6 : decode cX12_parts 6 = .ok (.getfield 302, 3) := by decide +kernel
theorem dX12_parts_9 : decode cX12_parts 9 = .ok (.ifCond .eq 8, 3) := by decide +kernel
theorem dX12_parts_12 : decode cX12_parts 12 = .ok (.iload_n 1, 1) := by decide +kernel
theorem dX12_parts_13 : decode cX12_parts 13 = .ok (.iconst (-1), 1) := by decide +kernel
theorem dX12_parts_14 : decode cX12_parts 14 = .ok (.if_icmp .ge 7, 3) := by decide +kernel
theorem dX12_parts_17 : decode cX12_parts 17 = .ok (.iconst (-1), 1) := by decide +kernel
theorem dX12_parts_18 : decode cX12_parts 18 = .ok (.goto 8, 3) := by decide +kernel
theorem dX12_parts_21 : decode cX12_parts 21 = .ok (.aload_n 0, 1) := by decide +kernel
theorem dX12_parts_22 : decode cX12_parts 22 = .ok (.iload_n 1, 1) := by decide +kernel
theorem dX12_parts_23 : decode cX12_parts 23 = .ok (.invokevirtual 493, 3) := by decide +kernel
theorem dX12_parts_26 : decode cX12_parts 26 = .ok (.ireturn, 1) := by decide +kernel
theorem dX12_rule_0 : decode cX12_rule 0 = .ok (.aload_n 0, 1) := by decide +kernel
theorem dX12_rule_1 : decode cX12_rule 1 = .ok (.iconst 0, 1) := by decide +kernel
theorem dX12_rule_2 : decode cX12_rule 2 = .ok (.putfield 94, 3) := by decide +kernel
theorem dX12_rule_5 : decode cX12_rule 5 = .ok (.aload_n 0, 1) := by decide +kernel
theorem dX12_rule_6 : decode cX12_rule 6 = .ok (.getfield 302, 3) := by decide +kernel
theorem dX12_rule_9 : decode cX12_rule 9 = .ok (.ifCond .le 24, 3) := by decide +kernel
theorem dX12_rule_12 : decode cX12_rule 12 = .ok (.iload_n 1, 1) := by decide +kernel
theorem dX12_rule_13 : decode cX12_rule 13 = .ok (.i2l, 1) := by decide +kernel
theorem dX12_rule_14 : decode cX12_rule 14 = .ok (.lconst 0, 1) := by decide +kernel
theorem dX12_rule_15 : decode cX12_rule 15 = .ok (.ldc2_w 343, 3) := by decide +kernel
theorem dX12_rule_18 : decode cX12_rule 18 = .ok (.invokestatic 215, 3) := by decide +kernel
theorem dX12_rule_21 : decode cX12_rule 21 = .ok (.ifCond .eq 12, 3) := by decide +kernel
theorem dX12_rule_24 : decode cX12_rule 24 = .ok (.aload_n 0, 1) := by decide +kernel
theorem dX12_rule_25 : decode cX12_rule 25 = .ok (.getfield 37, 3) := by decide +kernel
theorem dX12_rule_28 : decode cX12_rule 28 = .ok (.iload_n 1, 1) := by decide +kernel
theorem dX12_rule_29 : decode cX12_rule 29 = .ok (.iaload, 1) := by decide +kernel
theorem dX12_rule_30 : decode cX12_rule 30 = .ok (.goto 4, 3) := by decide +kernel
theorem dX12_rule_33 : decode cX12_rule 33 = .ok (.iconst (-1), 1) := by decide +kernel
theorem dX12_rule_34 : decode cX12_rule 34 = .ok (.ireturn, 1) := by decide +kernel
theorem dX12_tells_0 : decode cX12_tells 0 = .ok (.aload_n 0, 1) := by decide +kernel
theorem dX12_tells_1 : decode cX12_tells 1 = .ok (.iconst 0, 1) := by decide +kernel
theorem dX12_tells_2 : decode cX12_tells 2 = .ok (.putfield 94, 3) := by decide +kernel
theorem dX12_tells_5 : decode cX12_tells 5 = .ok (.iconst (-1), 1) := by decide +kernel
theorem dX12_tells_6 : decode cX12_tells 6 = .ok (.istore_n 1, 1) := by decide +kernel
theorem dX12_tells_7 : decode cX12_tells 7 = .ok (.iconst 0, 1) := by decide +kernel
theorem dX12_tells_8 : decode cX12_tells 8 = .ok (.istore_n 2, 1) := by decide +kernel
theorem dX12_tells_9 : decode cX12_tells 9 = .ok (.iconst 0, 1) := by decide +kernel
theorem dX12_tells_10 : decode cX12_tells 10 = .ok (.istore_n 3, 1) := by decide +kernel
theorem dX12_tells_11 : decode cX12_tells 11 = .ok (.iload_n 3, 1) := by decide +kernel
theorem dX12_tells_12 : decode cX12_tells 12 = .ok (.aload_n 0, 1) := by decide +kernel
theorem dX12_tells_13 : decode cX12_tells 13 = .ok (.getfield 302, 3) := by decide +kernel
theorem dX12_tells_16 : decode cX12_tells 16 = .ok (.if_icmp .ge 130, 3) := by decide +kernel
theorem dX12_tells_19 : decode cX12_tells 19 = .ok (.aload_n 0, 1) := by decide +kernel
theorem dX12_tells_20 : decode cX12_tells 20 = .ok (.iload_n 3, 1) := by decide +kernel
theorem dX12_tells_21 : decode cX12_tells 21 = .ok (.invokevirtual 516, 3) := by decide +kernel
theorem dX12_tells_24 : decode cX12_tells 24 = .ok (.ifCond .ne 6, 3) := by decide +kernel
theorem dX12_tells_27 : decode cX12_tells 27 = .ok (.goto 113, 3) := by decide +kernel
theorem dX12_tells_30 : decode cX12_tells 30 = .ok (.aload_n 0, 1) := by decide +kernel
theorem dX12_tells_31 : decode cX12_tells 31 = .ok (.aload_n 0, 1) := by decide +kernel
theorem dX12_tells_32 : decode cX12_tells 32 = .ok (.getfield 52, 3) := by decide +kernel
theorem dX12_tells_35 : decode cX12_tells 35 = .ok (.iconst 0, 1) := by decide +kernel
theorem dX12_tells_36 : decode cX12_tells 36 = .ok (.iaload, 1) := by decide +kernel
theorem dX12_tells_37 : decode cX12_tells 37 = .ok (.iload_n 3, 1) := by decide +kernel
theorem dX12_tells_38 : decode cX12_tells 38 = .ok (.invokevirtual 330, 3) := by decide +kernel
theorem dX12_tells_41 : decode cX12_tells 41 = .ok (.istore 4, 2) := by decide +kernel
theorem dX12_tells_43 : decode cX12_tells 43 = .ok (.iconst 0, 1) := by decide +kernel
theorem dX12_tells_44 : decode cX12_tells 44 = .ok (.istore 5, 2) := by decide +kernel
theorem dX12_tells_46 : decode cX12_tells 46 = .ok (.iconst 0, 1) := by decide +kernel
theorem dX12_tells_47 : decode cX12_tells 47 = .ok (.istore 6, 2) := by decide +kernel
theorem dX12_tells_49 : decode cX12_tells 49 = .ok (.iload 6, 2) := by decide +kernel
theorem dX12_tells_51 : decode cX12_tells 51 = .ok (.bipush 8, 2) := by decide +kernel
theorem dX12_tells_53 : decode cX12_tells 53 = .ok (.if_icmp .gt 61, 3) := by decide +kernel
theorem dX12_tells_56 : decode cX12_tells 56 = .ok (.iload 6, 2) := by decide +kernel
theorem dX12_tells_58 : decode cX12_tells 58 = .ok (.istore 7, 2) := by decide +kernel
theorem dX12_tells_60 : decode cX12_tells 60 = .ok (.iload 7, 2) := by decide +kernel
theorem dX12_tells_62 : decode cX12_tells 62 = .ok (.bipush 8, 2) := by decide +kernel
theorem dX12_tells_64 : decode cX12_tells 64 = .ok (.if_icmp .gt 44, 3) := by decide +kernel
theorem dX12_tells_67 : decode cX12_tells 67 = .ok (.aload_n 0, 1) := by decide +kernel
theorem dX12_tells_68 : decode cX12_tells 68 = .ok (.iload 6, 2) := by decide +kernel
theorem dX12_tells_70 : decode cX12_tells 70 = .ok (.iload 7, 2) := by decide +kernel
theorem dX12_tells_72 : decode cX12_tells 72 = .ok (.invokevirtual 519, 3) := by decide +kernel
theorem dX12_tells_75 : decode cX12_tells 75 = .ok (.ifCond .eq 27, 3) := by decide +kernel
theorem dX12_tells_78 : decode cX12_tells 78 = .ok (.iload 5, 2) := by decide +kernel
theorem dX12_tells_80 : decode cX12_tells 80 = .ok (.iload 4, 2) := by decide +kernel
theorem dX12_tells_82 : decode cX12_tells 82 = .ok (.iload 6, 2) := by decide +kernel
theorem dX12_tells_84 : decode cX12_tells 84 = .ok (.if_icmp .lt 14, 3) := by decide +kernel
theorem dX12_tells_87 : decode cX12_tells 87 = .ok (.iload 4, 2) := by decide +kernel
theorem dX12_tells_89 : decode cX12_tells 89 = .ok (.iload 7, 2) := by decide +kernel
theorem dX12_tells_91 : decode cX12_tells 91 = .ok (.if_icmp .gt 7, 3) := by decide +kernel
theorem dX12_tells_94 : decode cX12_tells 94 = .ok (.iconst 1, 1) := by decide +kernel
theorem dX12_tells_95 : decode cX12_tells 95 = .ok (.goto 4, 3) := by decide +kernel
theorem dX12_tells_98 : decode cX12_tells 98 = .ok (.iconst (-1), 1) := by decide +kernel
theorem dX12_tells_99 : decode cX12_tells 99 = .ok (.iadd, 1) := by decide +kernel
theorem dX12_tells_100 : decode cX12_tells 100 = .ok (.istore 5, 2) := by decide +kernel
theorem dX12_tells_102 : decode cX12_tells 102 = .ok (.iinc 7 1, 3) := by decide +kernel
theorem dX12_tells_105 : decode cX12_tells 105 = .ok (.goto (-45), 3) := by decide +kernel
theorem dX12_tells_108 : decode cX12_tells 108 = .ok (.iinc 6 1, 3) := by decide +kernel
theorem dX12_tells_111 : decode cX12_tells 111 = .ok (.goto (-62), 3) := by decide +kernel
theorem dX12_tells_114 : decode cX12_tells 114 = .ok (.iload 5, 2) := by decide +kernel
theorem dX12_tells_116 : decode cX12_tells 116 = .ok (.invokestatic 327, 3) := by decide +kernel
theorem dX12_tells_119 : decode cX12_tells 119 = .ok (.istore 5, 2) := by decide +kernel
theorem dX12_tells_121 : decode cX12_tells 121 = .ok (.iload_n 1, 1) := by decide +kernel
theorem dX12_tells_122 : decode cX12_tells 122 = .ok (.iconst (-1), 1) := by decide +kernel
theorem dX12_tells_123 : decode cX12_tells 123 = .ok (.if_icmp .eq 12, 3) := by decide +kernel
theorem dX12_tells_126 : decode cX12_tells 126 = .ok (.iload 5, 2) := by decide +kernel
theorem dX12_tells_128 : decode cX12_tells 128 = .ok (.iload_n 2, 1) := by decide +kernel
theorem dX12_tells_129 : decode cX12_tells 129 = .ok (.if_icmp .lt 6, 3) := by decide +kernel
theorem dX12_tells_132 : decode cX12_tells 132 = .ok (.goto 8, 3) := by decide +kernel
theorem dX12_tells_135 : decode cX12_tells 135 = .ok (.iload_n 3, 1) := by decide +kernel
theorem dX12_tells_136 : decode cX12_tells 136 = .ok (.istore_n 1, 1) := by decide +kernel
theorem dX12_tells_137 : decode cX12_tells 137 = .ok (.iload 5, 2) := by decide +kernel
theorem dX12_tells_139 : decode cX12_tells 139 = .ok (.istore_n 2, 1) := by decide +kernel
theorem dX12_tells_140 : decode cX12_tells 140 = .ok (.iinc 3 1, 3) := by decide +kernel
theorem dX12_tells_143 : decode cX12_tells 143 = .ok (.goto (-132), 3) := by decide +kernel
theorem dX12_tells_146 : decode cX12_tells 146 = .ok (.iload_n 1, 1) := by decide +kernel
theorem dX12_tells_147 : decode cX12_tells 147 = .ok (.ireturn, 1) := by decide +kernel
theorem wl_8_190 : (.constant RX12 439 (-1000000) : Cond) ∈ sg_tbl := tb_8 _ (List.mem_of_getElem? (i := 190) (by decide +kernel)) (by decide +kernel)
theorem wl_8_68 : (.methodLink RX12 333 yJ6_bitCount_0f7a4 : Cond) ∈ sg_tbl := tb_8 _ (List.mem_of_getElem? (i := 68) (by decide +kernel)) (by decide +kernel)
theorem wl_6_185 : (.fieldLink RX12 294 "LawnAheadModel" "lawMany" "I" : Cond) ∈ sg_tbl := tb_6 _ (List.mem_of_getElem? (i := 185) (by decide +kernel)) (by decide +kernel)
theorem wl_6_184 : (.fieldLink RX12 107 "LawnAheadModel" "length" "I" : Cond) ∈ sg_tbl := tb_6 _ (List.mem_of_getElem? (i := 184) (by decide +kernel)) (by decide +kernel)
theorem wl_6_212 : (.fieldLink RX12 58 "LawnAheadModel" "law" "I" : Cond) ∈ sg_tbl := tb_6 _ (List.mem_of_getElem? (i := 212) (by decide +kernel)) (by decide +kernel)
theorem wl_6_213 : (.fieldLink RX12 360 "LawnAheadModel" "drought" "I" : Cond) ∈ sg_tbl := tb_6 _ (List.mem_of_getElem? (i := 213) (by decide +kernel)) (by decide +kernel)
theorem wl_6_217 : (.fieldLink RX12 311 "LawnAheadModel" "acts" "I" : Cond) ∈ sg_tbl := tb_6 _ (List.mem_of_getElem? (i := 217) (by decide +kernel)) (by decide +kernel)
theorem wl_8_50 : (.constantLong RX12 343 (5) : Cond) ∈ sg_tbl := tb_8 _ (List.mem_of_getElem? (i := 50) (by decide +kernel)) (by decide +kernel)
theorem wl_9_43 : (.methodLink RX12 493 yX12_partAt : Cond) ∈ sg_tbl := tb_9 _ (List.mem_of_getElem? (i := 43) (by decide +kernel)) (by decide +kernel)
theorem wl_9_88 : (.methodLink RX12 516 yX12_isGrass : Cond) ∈ sg_tbl := tb_9 _ (List.mem_of_getElem? (i := 88) (by decide +kernel)) (by decide +kernel)
theorem wl_8_59 : (.methodLink RX12 330 yX12_around : Cond) ∈ sg_tbl := tb_8 _ (List.mem_of_getElem? (i := 59) (by decide +kernel)) (by decide +kernel)
theorem wl_9_96 : (.methodLink RX12 519 yX12_fits : Cond) ∈ sg_tbl := tb_9 _ (List.mem_of_getElem? (i := 96) (by decide +kernel)) (by decide +kernel)
theorem wl_8_189 : (.constantLong RX12 437 (3) : Cond) ∈ sg_tbl := tb_8 _ (List.mem_of_getElem? (i := 189) (by decide +kernel)) (by decide +kernel)
theorem wl_8_195 : (.methodLink RX12 440 yX12_isGame : Cond) ∈ sg_tbl := tb_8 _ (List.mem_of_getElem? (i := 195) (by decide +kernel)) (by decide +kernel)
theorem wl_6_200 : (.fieldLink RX12 49 "LawnAheadModel" "gameLong" "[I" : Cond) ∈ sg_tbl := tb_6 _ (List.mem_of_getElem? (i := 200) (by decide +kernel)) (by decide +kernel)
theorem wl_6_199 : (.fieldLink RX12 46 "LawnAheadModel" "game" "[I" : Cond) ∈ sg_tbl := tb_6 _ (List.mem_of_getElem? (i := 199) (by decide +kernel)) (by decide +kernel)
theorem wl_8_94 : (.methodLink RX12 363 yX12_isOpen : Cond) ∈ sg_tbl := tb_8 _ (List.mem_of_getElem? (i := 94) (by decide +kernel)) (by decide +kernel)
theorem wl_9_149 : (.code yX12_longest cX12_longest 1 (some .int) : Cond) ∈ sg_tbl := tb_9 _ (List.mem_of_getElem? (i := 149) (by decide +kernel)) (by decide +kernel)
theorem wl_9_147 : (.instanceMethod yX12_longest : Cond) ∈ sg_tbl := tb_9 _ (List.mem_of_getElem? (i := 147) (by decide +kernel)) (by decide +kernel)
theorem wl_9_148 : (.selects RX12 yX12_longest yX12_longest : Cond) ∈ sg_tbl := tb_9 _ (List.mem_of_getElem? (i := 148) (by decide +kernel)) (by decide +kernel)
theorem wl_9_161 : (.code yX12_count cX12_count 2 (some .int) : Cond) ∈ sg_tbl := tb_9 _ (List.mem_of_getElem? (i := 161) (by decide +kernel)) (by decide +kernel)
theorem wl_9_159 : (.instanceMethod yX12_count : Cond) ∈ sg_tbl := tb_9 _ (List.mem_of_getElem? (i := 159) (by decide +kernel)) (by decide +kernel)
theorem wl_9_160 : (.selects RX12 yX12_count yX12_count : Cond) ∈ sg_tbl := tb_9 _ (List.mem_of_getElem? (i := 160) (by decide +kernel)) (by decide +kernel)
theorem wl_7_105 : (.code yX12_bytesIn cX12_bytesIn 3 (some .int) : Cond) ∈ sg_tbl := tb_7 _ (List.mem_of_getElem? (i := 105) (by decide +kernel)) (by decide +kernel)
theorem wl_7_104 : (.static yX12_bytesIn : Cond) ∈ sg_tbl := tb_7 _ (List.mem_of_getElem? (i := 104) (by decide +kernel)) (by decide +kernel)
theorem wl_8_49 : (.code yX12_rule cX12_rule 2 (some .int) : Cond) ∈ sg_tbl := tb_8 _ (List.mem_of_getElem? (i := 49) (by decide +kernel)) (by decide +kernel)
theorem wl_8_47 : (.instanceMethod yX12_rule : Cond) ∈ sg_tbl := tb_8 _ (List.mem_of_getElem? (i := 47) (by decide +kernel)) (by decide +kernel)
theorem wl_8_48 : (.selects RX12 yX12_rule yX12_rule : Cond) ∈ sg_tbl := tb_8 _ (List.mem_of_getElem? (i := 48) (by decide +kernel)) (by decide +kernel)
theorem wl_9_42 : (.code yX12_parts cX12_parts 2 (some .int) : Cond) ∈ sg_tbl := tb_9 _ (List.mem_of_getElem? (i := 42) (by decide +kernel)) (by decide +kernel)
theorem wl_9_40 : (.instanceMethod yX12_parts : Cond) ∈ sg_tbl := tb_9 _ (List.mem_of_getElem? (i := 40) (by decide +kernel)) (by decide +kernel)
theorem wl_9_41 : (.selects RX12 yX12_parts yX12_parts : Cond) ∈ sg_tbl := tb_9 _ (List.mem_of_getElem? (i := 41) (by decide +kernel)) (by decide +kernel)
theorem wl_9_79 : (.code yX12_areFew cX12_areFew 2 (some .boolean) : Cond) ∈ sg_tbl := tb_9 _ (List.mem_of_getElem? (i := 79) (by decide +kernel)) (by decide +kernel)
theorem wl_9_78 : (.instanceMethod yX12_areFew : Cond) ∈ sg_tbl := tb_9 _ (List.mem_of_getElem? (i := 78) (by decide +kernel)) (by decide +kernel)
theorem wl_0_107 : (.selects RX12 yX12_areFew yX12_areFew : Cond) ∈ sg_tbl := tb_0 _ (List.mem_of_getElem? (i := 107) (by decide +kernel)) (by decide +kernel)
theorem wl_9_87 : (.code yX12_book cX12_book 3 (some .int) : Cond) ∈ sg_tbl := tb_9 _ (List.mem_of_getElem? (i := 87) (by decide +kernel)) (by decide +kernel)
theorem wl_9_85 : (.instanceMethod yX12_book : Cond) ∈ sg_tbl := tb_9 _ (List.mem_of_getElem? (i := 85) (by decide +kernel)) (by decide +kernel)
theorem wl_9_86 : (.selects RX12 yX12_book yX12_book : Cond) ∈ sg_tbl := tb_9 _ (List.mem_of_getElem? (i := 86) (by decide +kernel)) (by decide +kernel)
theorem wl_9_95 : (.code yX12_fit cX12_fit 5 (some .int) : Cond) ∈ sg_tbl := tb_9 _ (List.mem_of_getElem? (i := 95) (by decide +kernel)) (by decide +kernel)
theorem wl_9_93 : (.instanceMethod yX12_fit : Cond) ∈ sg_tbl := tb_9 _ (List.mem_of_getElem? (i := 93) (by decide +kernel)) (by decide +kernel)
theorem wl_9_94 : (.selects RX12 yX12_fit yX12_fit : Cond) ∈ sg_tbl := tb_9 _ (List.mem_of_getElem? (i := 94) (by decide +kernel)) (by decide +kernel)
theorem wl_9_103 : (.code yX12_tells cX12_tells 8 (some .int) : Cond) ∈ sg_tbl := tb_9 _ (List.mem_of_getElem? (i := 103) (by decide +kernel)) (by decide +kernel)
theorem wl_9_101 : (.instanceMethod yX12_tells : Cond) ∈ sg_tbl := tb_9 _ (List.mem_of_getElem? (i := 101) (by decide +kernel)) (by decide +kernel)
theorem wl_9_102 : (.selects RX12 yX12_tells yX12_tells : Cond) ∈ sg_tbl := tb_9 _ (List.mem_of_getElem? (i := 102) (by decide +kernel)) (by decide +kernel)
theorem wl_8_194 : (.code yX12_move cX12_move 4 (some .int) : Cond) ∈ sg_tbl := tb_8 _ (List.mem_of_getElem? (i := 194) (by decide +kernel)) (by decide +kernel)
theorem wl_8_192 : (.instanceMethod yX12_move : Cond) ∈ sg_tbl := tb_8 _ (List.mem_of_getElem? (i := 192) (by decide +kernel)) (by decide +kernel)
theorem wl_8_193 : (.selects RX12 yX12_move yX12_move : Cond) ∈ sg_tbl := tb_8 _ (List.mem_of_getElem? (i := 193) (by decide +kernel)) (by decide +kernel)
theorem wl_9_38 : (.code yX12_meant cX12_meant 1 (some .int) : Cond) ∈ sg_tbl := tb_9 _ (List.mem_of_getElem? (i := 38) (by decide +kernel)) (by decide +kernel)
theorem wl_9_36 : (.instanceMethod yX12_meant : Cond) ∈ sg_tbl := tb_9 _ (List.mem_of_getElem? (i := 36) (by decide +kernel)) (by decide +kernel)
theorem wl_9_37 : (.selects RX12 yX12_meant yX12_meant : Cond) ∈ sg_tbl := tb_9 _ (List.mem_of_getElem? (i := 37) (by decide +kernel)) (by decide +kernel)
theorem wl_9_22 : (.code yX12_isNight cX12_isNight 1 (some .boolean) : Cond) ∈ sg_tbl := tb_9 _ (List.mem_of_getElem? (i := 22) (by decide +kernel)) (by decide +kernel)
theorem wl_9_21 : (.instanceMethod yX12_isNight : Cond) ∈ sg_tbl := tb_9 _ (List.mem_of_getElem? (i := 21) (by decide +kernel)) (by decide +kernel)
theorem wl_0_98 : (.selects RX12 yX12_isNight yX12_isNight : Cond) ∈ sg_tbl := tb_0 _ (List.mem_of_getElem? (i := 98) (by decide +kernel)) (by decide +kernel)
section
variable {p : Program} {l : Launch} {e : Env} {R : Room} {s : State} {m : MethodId} {args : Array Value} {below : List Frame} {meth : Method} {c : Code} {H : Heap} {locs : List Loc} {cells slots : Nat} {Q : State → Prop} {cc : ByteArray} {nL pc : Nat} {ls : Array Slot} {rest : List Value} {own : String} {D : va_G} {A : Nat → Prop} {tys : List (ClassId × FieldType)} {ad ks : List Nat} {P : sgPm} {H0 : Heap} {index : Nat} {base : Nat} {st0 : List Value} {a : Nat}
theorem gf_X12_21   (X : CallFix p m c cc nL s args sg_tbl own) (hK : va_K D vwCl tys s) (hG : sgG (KT P) D vwCl A tys ad ks H) (ha : isK ad ks 12 a) (hl : Cond.fieldLink own index "LawnAheadModel" "game" "[I" ∈ sg_tbl) (hdg : decode cc pc = .ok (.getfield index, 3)) (kk : ∀ x : Nat, isK ad ks 52 x → fld D H 12 a 21 (.ref x) → W p l e R s m args below meth c H locs cells slots Q (F0 m (pc + 3) ls (.ref x :: rest))) : W p l e R s m args below meth c H locs cells slots Q (F0 m pc ls (.ref a :: rest)) :=
  sg_get X hK hG ha (k := 12) (ci := 12) rfl (C := RX12) (T := TX12) (N := 53) rfl inL_X12 21 (by decide) rfl hl (fun _ h => h) hdg (fun v hv hf => by
    obtain ⟨h1, -⟩ | ⟨x, rfl, hx⟩ := hv
    · cases h1
    · exact kk x hx hf)
theorem gf_X12_22   (X : CallFix p m c cc nL s args sg_tbl own) (hK : va_K D vwCl tys s) (hG : sgG (KT P) D vwCl A tys ad ks H) (ha : isK ad ks 12 a) (hl : Cond.fieldLink own index "LawnAheadModel" "gameLong" "[I" ∈ sg_tbl) (hdg : decode cc pc = .ok (.getfield index, 3)) (kk : ∀ x : Nat, isK ad ks 53 x → fld D H 12 a 22 (.ref x) → W p l e R s m args below meth c H locs cells slots Q (F0 m (pc + 3) ls (.ref x :: rest))) : W p l e R s m args below meth c H locs cells slots Q (F0 m pc ls (.ref a :: rest)) :=
  sg_get X hK hG ha (k := 12) (ci := 12) rfl (C := RX12) (T := TX12) (N := 53) rfl inL_X12 22 (by decide) rfl hl (fun _ h => h) hdg (fun v hv hf => by
    obtain ⟨h1, -⟩ | ⟨x, rfl, hx⟩ := hv
    · cases h1
    · exact kk x hx hf)
theorem gf_X12_34   (X : CallFix p m c cc nL s args sg_tbl own) (hK : va_K D vwCl tys s) (hG : sgG (KT P) D vwCl A tys ad ks H) (ha : isK ad ks 12 a) (hl : Cond.fieldLink own index "LawnAheadModel" "law" "I" ∈ sg_tbl) (hdg : decode cc pc = .ok (.getfield index, 3)) (kk : ∀ x : Int32, iv (-1) 3 x → fld D H 12 a 34 (.int x) → W p l e R s m args below meth c H locs cells slots Q (F0 m (pc + 3) ls (.int x :: rest))) : W p l e R s m args below meth c H locs cells slots Q (F0 m pc ls (.ref a :: rest)) :=
  sg_get X hK hG ha (k := 12) (ci := 12) rfl (C := RX12) (T := TX12) (N := 53) rfl inL_X12 34 (by decide) rfl hl (fun _ h => h) hdg (fun v hv hf => by obtain ⟨x, rfl, hx⟩ := hv; exact kk x hx hf)
theorem gf_X12_35   (X : CallFix p m c cc nL s args sg_tbl own) (hK : va_K D vwCl tys s) (hG : sgG (KT P) D vwCl A tys ad ks H) (ha : isK ad ks 12 a) (hl : Cond.fieldLink own index "LawnAheadModel" "drought" "I" ∈ sg_tbl) (hdg : decode cc pc = .ok (.getfield index, 3)) (kk : ∀ x : Int32, iv P.2.2.2.2.2.1 P.2.2.2.2.2.1 x → fld D H 12 a 35 (.int x) → W p l e R s m args below meth c H locs cells slots Q (F0 m (pc + 3) ls (.int x :: rest))) : W p l e R s m args below meth c H locs cells slots Q (F0 m pc ls (.ref a :: rest)) :=
  sg_get X hK hG ha (k := 12) (ci := 12) rfl (C := RX12) (T := TX12) (N := 53) rfl inL_X12 35 (by decide) rfl hl (fun _ h => h) hdg (fun v hv hf => by obtain ⟨x, rfl, hx⟩ := hv; exact kk x hx hf)
theorem gf_X12_39   (X : CallFix p m c cc nL s args sg_tbl own) (hK : va_K D vwCl tys s) (hG : sgG (KT P) D vwCl A tys ad ks H) (ha : isK ad ks 12 a) (hl : Cond.fieldLink own index "LawnAheadModel" "acts" "I" ∈ sg_tbl) (hdg : decode cc pc = .ok (.getfield index, 3)) (kk : ∀ x : Int32, iv 0 40 x → fld D H 12 a 39 (.int x) → W p l e R s m args below meth c H locs cells slots Q (F0 m (pc + 3) ls (.int x :: rest))) : W p l e R s m args below meth c H locs cells slots Q (F0 m pc ls (.ref a :: rest)) :=
  sg_get X hK hG ha (k := 12) (ci := 12) rfl (C := RX12) (T := TX12) (N := 53) rfl inL_X12 39 (by decide) rfl hl (fun _ h => h) hdg (fun v hv hf => by obtain ⟨x, rfl, hx⟩ := hv; exact kk x hx hf)
theorem gf_X12_6   (X : CallFix p m c cc nL s args sg_tbl own) (hK : va_K D vwCl tys s) (hG : sgG (KT P) D vwCl A tys ad ks H) (ha : isK ad ks 12 a) (hl : Cond.fieldLink own index "LawnAheadModel" "length" "I" ∈ sg_tbl) (hdg : decode cc pc = .ok (.getfield index, 3)) (kk : ∀ x : Int32, iv 0 240 x → iv (sgC240 (sgL2 P)) (sgC240 (sgL2 P)) x → fld D H 12 a 6 (.int x) → W p l e R s m args below meth c H locs cells slots Q (F0 m (pc + 3) ls (.int x :: rest))) : W p l e R s m args below meth c H locs cells slots Q (F0 m pc ls (.ref a :: rest)) :=
  sg_get X hK hG ha (k := 12) (ci := 12) rfl (C := RX12) (T := TX12) (N := 53) rfl inL_X12 6 (by decide) rfl hl (fun _ h => h) hdg (fun v hv hf => by obtain ⟨x, rfl, hx⟩ := hv; exact kk x (sgC240_iv hx) hx hf)
theorem gf_X12_7   (X : CallFix p m c cc nL s args sg_tbl own) (hK : va_K D vwCl tys s) (hG : sgG (KT P) D vwCl A tys ad ks H) (ha : isK ad ks 12 a) (hl : Cond.fieldLink own index "LawnAheadModel" "lawMany" "I" ∈ sg_tbl) (hdg : decode cc pc = .ok (.getfield index, 3)) (kk : ∀ x : Int32, iv 0 4 x → iv (P.2.2.2.2.2.2.2.2.1.val : Int) (P.2.2.2.2.2.2.2.2.1.val : Int) x → fld D H 12 a 7 (.int x) → W p l e R s m args below meth c H locs cells slots Q (F0 m (pc + 3) ls (.int x :: rest))) : W p l e R s m args below meth c H locs cells slots Q (F0 m pc ls (.ref a :: rest)) :=
  sg_get X hK hG ha (k := 12) (ci := 12) rfl (C := RX12) (T := TX12) (N := 53) rfl inL_X12 7 (by decide) rfl hl (fun _ h => h) hdg (fun v hv hf => by obtain ⟨x, rfl, hx⟩ := hv; exact kk x (sg_pin4 hx) hx hf)
theorem gg_X12_50   (X : CallFix p m c cc nL s args sg_tbl own) (hK : va_K D vwCl tys s) (hG : sgG (KT P) D vwCl A tys ad ks H) (ha : isK ad ks 12 a) (hl : Cond.fieldLink own index "LawnAheadModel" "books" "I" ∈ sg_tbl) {v : Value} (hf : fld D H 12 a 50 v) (hdg : decode cc pc = .ok (.getfield index, 3)) (kk : W p l e R s m args below meth c H locs cells slots Q (F0 m (pc + 3) ls (v :: rest))) : W p l e R s m args below meth c H locs cells slots Q (F0 m pc ls (.ref a :: rest)) :=
  sg_getf X hK hG ha (k := 12) (ci := 12) rfl (C := RX12) (T := TX12) (N := 53) rfl inL_X12 50 (by decide) (show 50 < 53 by decide) hl (fun _ h => h) hf hdg kk
theorem pf_X12_50  {x : Int32}  (X : CallFix p m c cc nL s args sg_tbl own) (hK : va_K D vwCl tys s) (hG : sgG (KT P) D vwCl A tys ad ks H) (hS : va_S A H0 H locs) (ha : isK ad ks 12 a) (hl : Cond.fieldLink own index "LawnAheadModel" "books" "I" ∈ sg_tbl) (hv : okV ad ks (.inl (0, 12)) (.int x)) (hdg : decode cc pc = .ok (.putfield index, 3)) (kk : ∀ (H1 : Heap) (locs1 : List Loc), sgG (KT P) D vwCl A tys ad ks H1 → va_S A H0 H1 locs1 → fld D H1 12 a 50 (.int x) → sgFr (KT P) D vwCl ad ks H H1 (fun a' j' => a' = a ∧ j' = 50) → W p l e R s m args below meth c H1 locs1 cells slots Q (F0 m (pc + 3) ls rest)) : W p l e R s m args below meth c H locs cells slots Q (F0 m pc ls (.int x :: .ref a :: rest)) :=
  sg_put X hK hG hS ha (k := 12) (ci := 12) rfl (C := RX12) (T := TX12) (N := 53) rfl inL_X12 tyX12 tyX12_ok nmX12 50 (by decide) rfl hl (fun _ h => h) rfl (ty := .int) rfl rfl rfl hv hdg kk
theorem al_52  {i : Int32}  (X : CallFix p m c cc nL s args sg_tbl own) (hK : va_K D vwCl tys s) (hG : sgG (KT P) D vwCl A tys ad ks H) (ha : isK ad ks 52 a) (hin : vp_in i 320) (hdg : decode cc pc = .ok (.iaload, 1)) (kk : ∀ x : Int32, okV ad ks ((sg_ga (sgG0 P) : Nat → sgT) i.toNatClampNeg) (.int x) → W p l e R s m args below meth c H locs cells slots Q (F0 m (pc + 1) ls (.int x :: rest))) : W p l e R s m args below meth c H locs cells slots Q (F0 m pc ls (.int i :: .ref a :: rest)) :=
  sg_iald X hK hG ha (k := 52) rfl hin hdg kk
theorem al_53  {i : Int32}  (X : CallFix p m c cc nL s args sg_tbl own) (hK : va_K D vwCl tys s) (hG : sgG (KT P) D vwCl A tys ad ks H) (ha : isK ad ks 53 a) (hin : vp_in i 5) (hdg : decode cc pc = .ok (.iaload, 1)) (kk : ∀ x : Int32, okV ad ks ((sg_gl (sgGl P) : Nat → sgT) i.toNatClampNeg) (.int x) → W p l e R s m args below meth c H locs cells slots Q (F0 m (pc + 1) ls (.int x :: rest))) : W p l e R s m args below meth c H locs cells slots Q (F0 m pc ls (.int i :: .ref a :: rest)) :=
  sg_iald X hK hG ha (k := 53) rfl hin hdg kk
theorem as_63  {i : Int32} {x : Int32}  (X : CallFix p m c cc nL s args sg_tbl own) (hK : va_K D vwCl tys s) (hG : sgG (KT P) D vwCl A tys ad ks H) (hS : va_S A H0 H locs) (ha : isK ad ks 63 a) (hin : vp_in i 12) (hv : okV ad ks (.inl ((-2147483648), 2147483647)) (.int x)) (hdg : decode cc pc = .ok (.iastore, 1)) (kk : ∀ (H1 : Heap) (locs1 : List Loc), sgG (KT P) D vwCl A tys ad ks H1 → va_S A H0 H1 locs1 → sgFr (KT P) D vwCl ad ks H H1 (fun _ _ => False) → W p l e R s m args below meth c H1 locs1 cells slots Q (F0 m (pc + 1) ls rest)) : W p l e R s m args below meth c H locs cells slots Q (F0 m pc ls (.int x :: .int i :: .ref a :: rest)) :=
  sg_iast X hK hG hS ha (k := 63) rfl hin hv hdg kk
theorem as_64  {i : Int32} {x : Int32}  (X : CallFix p m c cc nL s args sg_tbl own) (hK : va_K D vwCl tys s) (hG : sgG (KT P) D vwCl A tys ad ks H) (hS : va_S A H0 H locs) (ha : isK ad ks 64 a) (hin : vp_in i 12) (hv : okV ad ks (.inl (0, 1)) (.int (vp_nar .boolean x))) (hdg : decode cc pc = .ok (.bastore, 1)) (kk : ∀ (H1 : Heap) (locs1 : List Loc), sgG (KT P) D vwCl A tys ad ks H1 → va_S A H0 H1 locs1 → sgFr (KT P) D vwCl ad ks H H1 (fun _ _ => False) → W p l e R s m args below meth c H1 locs1 cells slots Q (F0 m (pc + 1) ls rest)) : W p l e R s m args below meth c H locs cells slots Q (F0 m pc ls (.int x :: .int i :: .ref a :: rest)) :=
  sg_zast X hK hG hS ha (k := 64) rfl hin hv hdg kk
theorem as_65  {i : Int32} {x : Int32}  (X : CallFix p m c cc nL s args sg_tbl own) (hK : va_K D vwCl tys s) (hG : sgG (KT P) D vwCl A tys ad ks H) (hS : va_S A H0 H locs) (ha : isK ad ks 65 a) (hin : vp_in i 249) (hv : okV ad ks ((sg_now (sgN P) : Nat → sgT) i.toNatClampNeg) (.int x)) (hdg : decode cc pc = .ok (.iastore, 1)) (kk : ∀ (H1 : Heap) (locs1 : List Loc), sgG (KT P) D vwCl A tys ad ks H1 → va_S A H0 H1 locs1 → sgFr (KT P) D vwCl ad ks H H1 (fun _ _ => False) → W p l e R s m args below meth c H1 locs1 cells slots Q (F0 m (pc + 1) ls rest)) : W p l e R s m args below meth c H locs cells slots Q (F0 m pc ls (.int x :: .int i :: .ref a :: rest)) :=
  sg_iast X hK hG hS ha (k := 65) rfl hin hv hdg kk
set_option maxHeartbeats 8000000 in
set_option maxRecDepth 100000 in
theorem m_X12_longest_1 (l : Launch) {D : va_G} {base : Nat} {tys : List (ClassId × FieldType)} {ad ks : List Nat} {P : sgPm} (hp4 : P.2.2.2.2.1 = true) (a0 : Nat) (h0 : isK ad ks 12 a0) : sgMi l (KT P) D vwCl base tys ad ks yX12_longest cX12_longest 1 (some .int) ({ frames := 3, cells := 0, slots := 0, locals := 73 }) [.ref a0] (fun r : Int32 => True) := by
  refine sg_ofW (by decide +kernel) (Nat.le_of_ble_eq_true rfl) (fun p e s m below meth c X hr hlk hb hK hC hG ls hl => ?_)
  have hS : va_S (fun q : Nat => base ≤ q) s.heap s.heap [] := va_S.rf
  have hl : lv_has ls 1 [(0, .ref a0)] := hl
  refine lv_aload_n X.1 X.2.1 dX12_longest_0 rfl (lv_at hl 0 rfl) ?_
  refine lv_iconst (v := 0) X.1 X.2.1 dX12_longest_1 (by decide +kernel) ?_
  refine pf_X12_0 X hK hG hS h0 wl_6_178 ⟨_, rfl, (iv_top _)⟩ dX12_longest_2 (fun H locs hG hS ku1 ru1 => ?_)
  refine lv_aload_n X.1 X.2.1 dX12_longest_5 rfl (lv_at hl 0 rfl) ?_
  refine gf_X12_23s X hK hG h0 hp4 wl_6_201 dX12_longest_6 (fun f2 hf2 kf2 => ?_)
  refine lv_if_ne (tgt := 16) X.1 X.2.1 dX12_longest_9 (by decide) (fun c3 => ?_) (fun c3 => ?_)
  · refine lv_aload_n X.1 X.2.1 dX12_longest_16 rfl (lv_at hl 0 rfl) ?_
    refine gf_X12_32 X hK hG h0 wl_6_210 dX12_longest_17 (fun q4 hq4 kq4 => ?_)
    refine lv_iconst (v := 0) X.1 X.2.1 dX12_longest_20 (by decide +kernel) ?_
    refine al_54 X hK hG hq4 (iv_vpin (iv_c 0 (a := 0) (b := 0) (by decide +kernel)) (by decide +kernel)) dX12_longest_21 (fun f5 hf5 => ?_)
    have hf5 := sg_nw_now hf5
    have of5 := hf5
    have hf5 : iv (-2147483648) 2147483647 f5 := sg_sp_now hf5 (iv_c 0 (a := 0) (b := 0) (by decide +kernel)) (by decide +kernel) rfl
    refine lv_aload_n X.1 X.2.1 dX12_longest_22 rfl (lv_at hl 0 rfl) ?_
    refine gf_X12_18 X hK hG h0 wl_6_196 dX12_longest_23 (fun q6 hq6 kq6 => ?_)
    refine ca_X12_longestIn_1 X hK hG hC (fun _ h => h) hS hb hp4 f5 q6 hq6 wl_7_199 hl.1 (rest := []) rfl (Nat.le_of_ble_eq_true rfl) ⟨Nat.le_of_ble_eq_true rfl, Nat.le_of_ble_eq_true rfl⟩ ⟨Nat.le_of_ble_eq_true rfl, Nat.le_of_ble_eq_true rfl⟩ dX12_longest_26 (fun f7 locs hf7 hS => ?_)
    exact sg_iret X hr hlk hb hK hC hG hS trivial dX12_longest_29
  · exact ((iv_no (a := 1) (b := 0) (iv_eqm c3 hf2 (iv_c 0 (a := 0) (b := 0) (by decide +kernel)) (by decide +kernel)) (by decide +kernel))).elim

theorem ca_X12_longest_1   (X : CallFix p m c cc nL s args sg_tbl own) (hK : va_K D vwCl tys s) (hG : sgG (KT P) D vwCl (fun q : Nat => base ≤ q) tys ad ks H) (hC : sgC base s) (hS : va_S (fun q : Nat => base ≤ q) s.heap H locs) (hb : base ≤ s.heap.size) (hp4 : P.2.2.2.2.1 = true) (a0 : Nat) (h0 : isK ad ks 12 a0) (hl : Cond.methodLink own index yX12_longest ∈ sg_tbl) (hsize : ls.size = nL) (hst : st0 = [].reverse ++ .ref a0 :: rest) (hW : (rest.map fun v => v.category).sum ≤ 8) (hR : 4 ≤ R.frames ∧ 93 ≤ R.locals) (hf : cells ≤ R.cells ∧ slots ≤ R.slots) (hdg : decode cc pc = .ok (.invokevirtual index, 3)) (kk : ∀ (r : Int32) (H1 : Heap) (locs1 : List Loc), (fun r : Int32 => True) r → sgG (KT P) D vwCl (fun q : Nat => base ≤ q) tys ad ks H1 → va_S (fun q : Nat => base ≤ q) s.heap H1 locs1 → W p l e R s m args below meth c H1 locs1 cells slots Q (F0 m (pc + 3) ls (.int r :: rest))) : W p l e R s m args below meth c H locs cells slots Q (F0 m pc ls st0) :=
  sg_callVi X hK hG hC hS hb (m_X12_longest_1 l hp4 a0 h0) h0 (k := 12) (ci := 12) rfl (C := RX12) (T := TX12) (N := 53) rfl wl_9_149 wl_1_13 wl_9_147 wl_9_148 (n := 0) (by decide +kernel) rfl rfl rfl hl hsize hst hW hR hf hdg kk

set_option maxHeartbeats 8000000 in
set_option maxRecDepth 100000 in
theorem m_X12_count_1 (l : Launch) {D : va_G} {base : Nat} {tys : List (ClassId × FieldType)} {ad ks : List Nat} {P : sgPm} (hp4 : P.2.2.2.2.1 = true) (a0 : Nat) (h0 : isK ad ks 12 a0) (x1 : Int32) : sgMi l (KT P) D vwCl base tys ad ks yX12_count cX12_count 2 (some .int) ({ frames := 1, cells := 0, slots := 0, locals := 20 }) [.ref a0, .int x1] (fun r : Int32 => True) := by
  refine sg_ofW (by decide +kernel) (Nat.le_of_ble_eq_true rfl) (fun p e s m below meth c X hr hlk hb hK hC hG ls hl => ?_)
  have hS : va_S (fun q : Nat => base ≤ q) s.heap s.heap [] := va_S.rf
  have hl : lv_has ls 2 [(0, .ref a0), (1, .int x1)] := hl
  refine lv_aload_n X.1 X.2.1 dX12_count_0 rfl (lv_at hl 0 rfl) ?_
  refine lv_iconst (v := 0) X.1 X.2.1 dX12_count_1 (by decide +kernel) ?_
  refine pf_X12_0 X hK hG hS h0 wl_6_178 ⟨_, rfl, (iv_top _)⟩ dX12_count_2 (fun H locs hG hS ku1 ru1 => ?_)
  refine lv_iload_n X.1 X.2.1 dX12_count_5 rfl (lv_at hl 1 rfl) ?_
  by_cases c2 : x1 = 0
  · refine lv_tableIn (tgt := 84) (off := 78) X.1 X.2.1 dX12_count_6 (by rw [c2]; decide +kernel) (by rw [c2]; decide +kernel) (by rw [c2]; rfl) (by decide) ?_
    refine lv_aload_n X.1 X.2.1 dX12_count_84 rfl (lv_at hl 0 rfl) ?_
    refine gf_X12_23s X hK hG h0 hp4 wl_6_201 dX12_count_85 (fun f3 hf3 kf3 => ?_)
    exact sg_iret X hr hlk hb hK hC hG hS trivial dX12_count_88
  by_cases c4 : x1 = 1
  · refine lv_tableIn (tgt := 89) (off := 83) X.1 X.2.1 dX12_count_6 (by rw [c4]; decide +kernel) (by rw [c4]; decide +kernel) (by rw [c4]; rfl) (by decide) ?_
    refine lv_aload_n X.1 X.2.1 dX12_count_89 rfl (lv_at hl 0 rfl) ?_
    refine gf_X12_32 X hK hG h0 wl_6_210 dX12_count_90 (fun q5 hq5 kq5 => ?_)
    refine lv_iconst (v := 0) X.1 X.2.1 dX12_count_93 (by decide +kernel) ?_
    refine al_54 X hK hG hq5 (iv_vpin (iv_c 0 (a := 0) (b := 0) (by decide +kernel)) (by decide +kernel)) dX12_count_94 (fun f6 hf6 => ?_)
    have hf6 := sg_nw_now hf6
    have of6 := hf6
    have hf6 : iv (-2147483648) 2147483647 f6 := sg_sp_now hf6 (iv_c 0 (a := 0) (b := 0) (by decide +kernel)) (by decide +kernel) rfl
    refine ca_J6_bitCount_0f7a4 X hK hG hC (fun _ h => h) hS hb f6 wl_8_68 hl.1 (rest := []) rfl (Nat.le_of_ble_eq_true rfl) ⟨Nat.le_of_ble_eq_true rfl, Nat.le_of_ble_eq_true rfl⟩ ⟨Nat.le_of_ble_eq_true rfl, Nat.le_of_ble_eq_true rfl⟩ dX12_count_95 (fun f7 locs hf7 hS => ?_)
    exact sg_iret X hr hlk hb hK hC hG hS trivial dX12_count_98
  by_cases c8 : x1 = 2
  · refine lv_tableIn (tgt := 99) (off := 93) X.1 X.2.1 dX12_count_6 (by rw [c8]; decide +kernel) (by rw [c8]; decide +kernel) (by rw [c8]; rfl) (by decide) ?_
    refine lv_aload_n X.1 X.2.1 dX12_count_99 rfl (lv_at hl 0 rfl) ?_
    refine gf_X12_7 X hK hG h0 wl_6_185 dX12_count_100 (fun f9 hf9 pf9 kf9 => ?_)
    exact sg_iret X hr hlk hb hK hC hG hS trivial dX12_count_103
  by_cases c10 : x1 = 3
  · refine lv_tableIn (tgt := 104) (off := 98) X.1 X.2.1 dX12_count_6 (by rw [c10]; decide +kernel) (by rw [c10]; decide +kernel) (by rw [c10]; rfl) (by decide) ?_
    refine lv_aload_n X.1 X.2.1 dX12_count_104 rfl (lv_at hl 0 rfl) ?_
    refine gf_X12_29 X hK hG h0 wl_6_207 dX12_count_105 (fun f11 hf11 pf11 kf11 => ?_)
    exact sg_iret X hr hlk hb hK hC hG hS trivial dX12_count_108
  by_cases c12 : x1 = 4
  · refine lv_tableIn (tgt := 109) (off := 103) X.1 X.2.1 dX12_count_6 (by rw [c12]; decide +kernel) (by rw [c12]; decide +kernel) (by rw [c12]; rfl) (by decide) ?_
    refine lv_aload_n X.1 X.2.1 dX12_count_109 rfl (lv_at hl 0 rfl) ?_
    refine gf_X12_6 X hK hG h0 wl_6_184 dX12_count_110 (fun f13 hf13 pf13 kf13 => ?_)
    exact sg_iret X hr hlk hb hK hC hG hS trivial dX12_count_113
  by_cases c14 : x1 = 5
  · refine lv_tableIn (tgt := 114) (off := 108) X.1 X.2.1 dX12_count_6 (by rw [c14]; decide +kernel) (by rw [c14]; decide +kernel) (by rw [c14]; rfl) (by decide) ?_
    refine lv_aload_n X.1 X.2.1 dX12_count_114 rfl (lv_at hl 0 rfl) ?_
    refine gf_X12_34 X hK hG h0 wl_6_212 dX12_count_115 (fun f15 hf15 kf15 => ?_)
    exact sg_iret X hr hlk hb hK hC hG hS trivial dX12_count_118
  by_cases c16 : x1 = 6
  · refine lv_tableIn (tgt := 119) (off := 113) X.1 X.2.1 dX12_count_6 (by rw [c16]; decide +kernel) (by rw [c16]; decide +kernel) (by rw [c16]; rfl) (by decide) ?_
    refine lv_aload_n X.1 X.2.1 dX12_count_119 rfl (lv_at hl 0 rfl) ?_
    refine gf_X12_32 X hK hG h0 wl_6_210 dX12_count_120 (fun q17 hq17 kq17 => ?_)
    refine lv_iconst (v := 4) X.1 X.2.1 dX12_count_123 (by decide +kernel) ?_
    refine al_54 X hK hG hq17 (iv_vpin (iv_c 4 (a := 4) (b := 4) (by decide +kernel)) (by decide +kernel)) dX12_count_124 (fun f18 hf18 => ?_)
    have hf18 := sg_nw_now hf18
    have of18 := hf18
    have hf18 : iv 0 1000000000 f18 := sg_day hf18 (iv_c 4 (a := 4) (b := 4) (by decide +kernel))
    exact sg_iret X hr hlk hb hK hC hG hS trivial dX12_count_125
  by_cases c19 : x1 = 7
  · refine lv_tableIn (tgt := 126) (off := 120) X.1 X.2.1 dX12_count_6 (by rw [c19]; decide +kernel) (by rw [c19]; decide +kernel) (by rw [c19]; rfl) (by decide) ?_
    refine lv_aload_n X.1 X.2.1 dX12_count_126 rfl (lv_at hl 0 rfl) ?_
    refine gf_X12_32 X hK hG h0 wl_6_210 dX12_count_127 (fun q20 hq20 kq20 => ?_)
    refine lv_iconst (v := 2) X.1 X.2.1 dX12_count_130 (by decide +kernel) ?_
    refine al_54 X hK hG hq20 (iv_vpin (iv_c 2 (a := 2) (b := 2) (by decide +kernel)) (by decide +kernel)) dX12_count_131 (fun f21 hf21 => ?_)
    have hf21 := sg_nw_now hf21
    have of21 := hf21
    have hf21 : iv 0 1 f21 := sg_sp_now hf21 (iv_c 2 (a := 2) (b := 2) (by decide +kernel)) (by decide +kernel) rfl
    exact sg_iret X hr hlk hb hK hC hG hS trivial dX12_count_132
  by_cases c22 : x1 = 8
  · refine lv_tableIn (tgt := 133) (off := 127) X.1 X.2.1 dX12_count_6 (by rw [c22]; decide +kernel) (by rw [c22]; decide +kernel) (by rw [c22]; rfl) (by decide) ?_
    refine lv_aload_n X.1 X.2.1 dX12_count_133 rfl (lv_at hl 0 rfl) ?_
    refine gf_X12_32 X hK hG h0 wl_6_210 dX12_count_134 (fun q23 hq23 kq23 => ?_)
    refine lv_iconst (v := 3) X.1 X.2.1 dX12_count_137 (by decide +kernel) ?_
    refine al_54 X hK hG hq23 (iv_vpin (iv_c 3 (a := 3) (b := 3) (by decide +kernel)) (by decide +kernel)) dX12_count_138 (fun f24 hf24 => ?_)
    have hf24 := sg_nw_now hf24
    have of24 := hf24
    have hf24 : iv (-2147483648) 2147483647 f24 := sg_sp_now hf24 (iv_c 3 (a := 3) (b := 3) (by decide +kernel)) (by decide +kernel) rfl
    exact sg_iret X hr hlk hb hK hC hG hS trivial dX12_count_139
  by_cases c25 : x1 = 9
  · refine lv_tableIn (tgt := 140) (off := 134) X.1 X.2.1 dX12_count_6 (by rw [c25]; decide +kernel) (by rw [c25]; decide +kernel) (by rw [c25]; rfl) (by decide) ?_
    refine lv_aload_n X.1 X.2.1 dX12_count_140 rfl (lv_at hl 0 rfl) ?_
    refine gf_X12_32 X hK hG h0 wl_6_210 dX12_count_141 (fun q26 hq26 kq26 => ?_)
    refine lv_iconst (v := 5) X.1 X.2.1 dX12_count_144 (by decide +kernel) ?_
    refine al_54 X hK hG hq26 (iv_vpin (iv_c 5 (a := 5) (b := 5) (by decide +kernel)) (by decide +kernel)) dX12_count_145 (fun f27 hf27 => ?_)
    have hf27 := sg_nw_now hf27
    have of27 := hf27
    have hf27 : iv (-2147483648) 2147483647 f27 := sg_sp_now hf27 (iv_c 5 (a := 5) (b := 5) (by decide +kernel)) (by decide +kernel) rfl
    exact sg_iret X hr hlk hb hK hC hG hS trivial dX12_count_146
  by_cases c28 : x1 = 10
  · refine lv_tableIn (tgt := 147) (off := 141) X.1 X.2.1 dX12_count_6 (by rw [c28]; decide +kernel) (by rw [c28]; decide +kernel) (by rw [c28]; rfl) (by decide) ?_
    refine lv_aload_n X.1 X.2.1 dX12_count_147 rfl (lv_at hl 0 rfl) ?_
    refine gf_X12_32 X hK hG h0 wl_6_210 dX12_count_148 (fun q29 hq29 kq29 => ?_)
    refine lv_bipush (v := 6) X.1 X.2.1 dX12_count_151 (by decide +kernel) ?_
    refine al_54 X hK hG hq29 (iv_vpin (iv_c 6 (a := 6) (b := 6) (by decide +kernel)) (by decide +kernel)) dX12_count_153 (fun f30 hf30 => ?_)
    have hf30 := sg_nw_now hf30
    have of30 := hf30
    have hf30 : iv (-2147483648) 2147483647 f30 := sg_sp_now hf30 (iv_c 6 (a := 6) (b := 6) (by decide +kernel)) (by decide +kernel) rfl
    exact sg_iret X hr hlk hb hK hC hG hS trivial dX12_count_154
  by_cases c31 : x1 = 11
  · refine lv_tableIn (tgt := 155) (off := 149) X.1 X.2.1 dX12_count_6 (by rw [c31]; decide +kernel) (by rw [c31]; decide +kernel) (by rw [c31]; rfl) (by decide) ?_
    refine lv_aload_n X.1 X.2.1 dX12_count_155 rfl (lv_at hl 0 rfl) ?_
    refine gf_X12_35 X hK hG h0 wl_6_213 dX12_count_156 (fun f32 hf32 kf32 => ?_)
    exact sg_iret X hr hlk hb hK hC hG hS trivial dX12_count_159
  by_cases c33 : x1 = 12
  · refine lv_tableIn (tgt := 160) (off := 154) X.1 X.2.1 dX12_count_6 (by rw [c33]; decide +kernel) (by rw [c33]; decide +kernel) (by rw [c33]; rfl) (by decide) ?_
    refine lv_aload_n X.1 X.2.1 dX12_count_160 rfl (lv_at hl 0 rfl) ?_
    refine gf_X12_50 X hK hG h0 wl_6_228 dX12_count_161 (fun f34 hf34 kf34 => ?_)
    exact sg_iret X hr hlk hb hK hC hG hS trivial dX12_count_164
  by_cases c35 : x1 = 13
  · refine lv_tableIn (tgt := 165) (off := 159) X.1 X.2.1 dX12_count_6 (by rw [c35]; decide +kernel) (by rw [c35]; decide +kernel) (by rw [c35]; rfl) (by decide) ?_
    refine lv_aload_n X.1 X.2.1 dX12_count_165 rfl (lv_at hl 0 rfl) ?_
    refine gf_X12_32 X hK hG h0 wl_6_210 dX12_count_166 (fun q36 hq36 kq36 => ?_)
    refine lv_bipush (v := 8) X.1 X.2.1 dX12_count_169 (by decide +kernel) ?_
    refine al_54 X hK hG hq36 (iv_vpin (iv_c 8 (a := 8) (b := 8) (by decide +kernel)) (by decide +kernel)) dX12_count_171 (fun f37 hf37 => ?_)
    have hf37 := sg_nw_now hf37
    have of37 := hf37
    have hf37 : iv 0 60 f37 := sg_sp_now hf37 (iv_c 8 (a := 8) (b := 8) (by decide +kernel)) (by decide +kernel) rfl
    exact sg_iret X hr hlk hb hK hC hG hS trivial dX12_count_172
  by_cases c38 : x1 = 14
  · refine lv_tableIn (tgt := 173) (off := 167) X.1 X.2.1 dX12_count_6 (by rw [c38]; decide +kernel) (by rw [c38]; decide +kernel) (by rw [c38]; rfl) (by decide) ?_
    refine lv_aload_n X.1 X.2.1 dX12_count_173 rfl (lv_at hl 0 rfl) ?_
    refine gf_X12_39 X hK hG h0 wl_6_217 dX12_count_174 (fun f39 hf39 kf39 => ?_)
    exact sg_iret X hr hlk hb hK hC hG hS trivial dX12_count_177
  by_cases c40 : x1 = 15
  · refine lv_tableIn (tgt := 178) (off := 172) X.1 X.2.1 dX12_count_6 (by rw [c40]; decide +kernel) (by rw [c40]; decide +kernel) (by rw [c40]; rfl) (by decide) ?_
    refine lv_aload_n X.1 X.2.1 dX12_count_178 rfl (lv_at hl 0 rfl) ?_
    refine gf_X12_32 X hK hG h0 wl_6_210 dX12_count_179 (fun q41 hq41 kq41 => ?_)
    refine lv_iconst (v := 0) X.1 X.2.1 dX12_count_182 (by decide +kernel) ?_
    refine al_54 X hK hG hq41 (iv_vpin (iv_c 0 (a := 0) (b := 0) (by decide +kernel)) (by decide +kernel)) dX12_count_183 (fun f42 hf42 => ?_)
    have hf42 := sg_nw_now hf42
    have of42 := hf42
    have hf42 : iv (-2147483648) 2147483647 f42 := sg_sp_now hf42 (iv_c 0 (a := 0) (b := 0) (by decide +kernel)) (by decide +kernel) rfl
    exact sg_iret X hr hlk hb hK hC hG hS trivial dX12_count_184
  refine lv_tableOut (tgt := 185) X.1 X.2.1 dX12_count_6 (by have tc2 := iv_nt 0 c2 (by decide +kernel); have tc4 := iv_nt 1 c4 (by decide +kernel); have tc8 := iv_nt 2 c8 (by decide +kernel); have tc10 := iv_nt 3 c10 (by decide +kernel); have tc12 := iv_nt 4 c12 (by decide +kernel); have tc14 := iv_nt 5 c14 (by decide +kernel); have tc16 := iv_nt 6 c16 (by decide +kernel); have tc19 := iv_nt 7 c19 (by decide +kernel); have tc22 := iv_nt 8 c22 (by decide +kernel); have tc25 := iv_nt 9 c25 (by decide +kernel); have tc28 := iv_nt 10 c28 (by decide +kernel); have tc31 := iv_nt 11 c31 (by decide +kernel); have tc33 := iv_nt 12 c33 (by decide +kernel); have tc35 := iv_nt 13 c35 (by decide +kernel); have tc38 := iv_nt 14 c38 (by decide +kernel); have tc40 := iv_nt 15 c40 (by decide +kernel); have b1 := ((iv_top x1)).1; have b2 := ((iv_top x1)).2; omega) (by decide) ?_
  refine lv_ldcw X.1 X.2.1 X.2.2.2.1 (X.2.2.2.2 _ wl_8_190) dX12_count_185 ?_
  exact sg_iret X hr hlk hb hK hC hG hS trivial dX12_count_188

theorem ca_X12_count_1   (X : CallFix p m c cc nL s args sg_tbl own) (hK : va_K D vwCl tys s) (hG : sgG (KT P) D vwCl (fun q : Nat => base ≤ q) tys ad ks H) (hC : sgC base s) (hS : va_S (fun q : Nat => base ≤ q) s.heap H locs) (hb : base ≤ s.heap.size) (hp4 : P.2.2.2.2.1 = true) (a0 : Nat) (h0 : isK ad ks 12 a0) (x1 : Int32) (hl : Cond.methodLink own index yX12_count ∈ sg_tbl) (hsize : ls.size = nL) (hst : st0 = [.int x1].reverse ++ .ref a0 :: rest) (hW : (rest.map fun v => v.category).sum ≤ 8) (hR : 2 ≤ R.frames ∧ 41 ≤ R.locals) (hf : cells ≤ R.cells ∧ slots ≤ R.slots) (hdg : decode cc pc = .ok (.invokevirtual index, 3)) (kk : ∀ (r : Int32) (H1 : Heap) (locs1 : List Loc), (fun r : Int32 => True) r → sgG (KT P) D vwCl (fun q : Nat => base ≤ q) tys ad ks H1 → va_S (fun q : Nat => base ≤ q) s.heap H1 locs1 → W p l e R s m args below meth c H1 locs1 cells slots Q (F0 m (pc + 3) ls (.int r :: rest))) : W p l e R s m args below meth c H locs cells slots Q (F0 m pc ls st0) :=
  sg_callVi X hK hG hC hS hb (m_X12_count_1 l hp4 a0 h0 x1) h0 (k := 12) (ci := 12) rfl (C := RX12) (T := TX12) (N := 53) rfl wl_9_161 wl_1_13 wl_9_159 wl_9_160 (n := 1) (by decide +kernel) rfl rfl rfl hl hsize hst hW hR hf hdg kk

set_option maxHeartbeats 8000000 in
set_option maxRecDepth 100000 in
theorem m_X12_bytesIn (l : Launch) {D : va_G} {base : Nat} {tys : List (ClassId × FieldType)} {ad ks : List Nat} {P : sgPm} {Hx : Heap} (x0 : Int32) : sgPi l (KT P) D vwCl base tys ad ks Hx yX12_bytesIn cX12_bytesIn 3 (some .int) ({ frames := 0, cells := 0, slots := 0, locals := 0 }) [.int x0] (fun r : Int32 => True) := by
  refine sg_ofP (Pq := fun Hx => va_Qi (fun r (_ : Unit) => (fun r : Int32 => True) r) (fun _ t => t.heap = Hx) (fun _ : Nat => False)) (by decide +kernel) (Nat.le_of_ble_eq_true rfl) (fun p e s m below meth c X hr hlk hb hK hC hG ls hl => ?_)
  have hS : va_S (fun _ : Nat => False) s.heap s.heap [] := va_S.rf
  have hl : lv_has ls 3 [(0, .int x0)] := hl
  refine lv_iconst (v := 0) X.1 X.2.1 dX12_bytesIn_0 (by decide +kernel) ?_
  refine lv_istore_n (lv' := [(1, .int 0), (0, .int x0)]) X.1 X.2.1 dX12_bytesIn_1 rfl hl (by decide) rfl (fun ls hl => ?_)
  refine lv_bipush (v := 24) X.1 X.2.1 dX12_bytesIn_2 (by decide +kernel) ?_
  refine lv_istore_n (lv' := [(2, .int 24), (1, .int 0), (0, .int x0)]) X.1 X.2.1 dX12_bytesIn_4 rfl hl (by decide) rfl (fun ls hl => ?_)
  have B1_5 : ∀ (N : Nat) (locs : List Loc) (ls : Array Slot) (z1_1 : Int32) (z1_2 : Int32), va_S (fun _ : Nat => False) s.heap s.heap locs → lv_has ls 3 [(0, .int x0), (1, .int z1_1), (2, .int z1_2)] → iv (-8) 24 z1_2 → (z1_2.toInt - (-9)).toNat ≤ N → W p l e (headSpec (Cond.code yX12_bytesIn cX12_bytesIn 3 (some .int) :: sg_tbl) ({ frames := 0, cells := 0, slots := 0, locals := 0 })).room s m #[.int x0] below meth c s.heap locs 0 0 (MQ below (va_Qi (fun r (_ : Unit) => (fun r : Int32 => True) r) (fun _ t => t.heap = s.heap) (fun _ : Nat => False)) #[.int x0] s 0 0 (fun _ : Nat => False)) (F0 m 5 ls []) := by
    intro N; induction N with
    | zero =>
      intro locs ls z1_1 z1_2 hS hl hz1_2 hN
      exact absurd hN (by have := iv_dn hz1_2; omega)
    | succ N ih1 =>
      intro locs ls z1_1 z1_2 hS hl hz1_2 hN1
      refine lv_iload_n X.1 X.2.1 dX12_bytesIn_5 rfl (lv_at hl 2 rfl) ?_
      refine lv_if_lt (tgt := 33) X.1 X.2.1 dX12_bytesIn_6 (by decide) (fun c2 => ?_) (fun c2 => ?_)
      · refine lv_iload_n X.1 X.2.1 dX12_bytesIn_33 rfl (lv_at hl 1 rfl) ?_
        exact sg_iretP X hr hlk hS trivial dX12_bytesIn_34
      · refine lv_iload_n X.1 X.2.1 dX12_bytesIn_9 rfl (lv_at hl 1 rfl) ?_
        refine lv_iload_n X.1 X.2.1 dX12_bytesIn_10 rfl (lv_at hl 0 rfl) ?_
        refine lv_iload_n X.1 X.2.1 dX12_bytesIn_11 rfl (lv_at hl 2 rfl) ?_
        refine lv_ishr X.1 X.2.1 dX12_bytesIn_12 ?_
        refine lv_topi (fun f3 ef3 => ?_)
        refine lv_sipush (v := 255) X.1 X.2.1 dX12_bytesIn_13 (by decide +kernel) ?_
        refine lv_iand X.1 X.2.1 dX12_bytesIn_16 ?_
        refine lv_topi (fun f4 ef4 => ?_)
        have B6_25 : ∀ (locs : List Loc) (ls : Array Slot) (w6_0 : Int32), va_S (fun _ : Nat => False) s.heap s.heap locs → lv_has ls 3 [(0, .int x0), (2, .int z1_2)] → iv 0 1 w6_0 → W p l e (headSpec (Cond.code yX12_bytesIn cX12_bytesIn 3 (some .int) :: sg_tbl) ({ frames := 0, cells := 0, slots := 0, locals := 0 })).room s m #[.int x0] below meth c s.heap locs 0 0 (MQ below (va_Qi (fun r (_ : Unit) => (fun r : Int32 => True) r) (fun _ t => t.heap = s.heap) (fun _ : Nat => False)) #[.int x0] s 0 0 (fun _ : Nat => False)) (F0 m 25 ls [.int w6_0, .int z1_1]) := by
          intro locs ls w6_0 hS hl hw6_0
          refine lv_iadd X.1 X.2.1 dX12_bytesIn_25 ?_
          refine lv_topi (fun f7 ef7 => ?_)
          refine lv_istore_n (lv' := [(1, .int f7), (0, .int x0), (2, .int z1_2)]) X.1 X.2.1 dX12_bytesIn_26 rfl hl (by decide) rfl (fun ls hl => ?_)
          obtain ⟨y8, ey8⟩ : ∃ y : Int32, y = z1_2 + Int32.ofInt (-8) := ⟨_, rfl⟩
          refine lv_iinc (v := y8) (lv' := [(2, .int y8), (1, .int f7), (0, .int x0)]) X.1 X.2.1 dX12_bytesIn_27 hl (k := 2) rfl ey8.symm (by decide) rfl (fun ls hl => ?_)
          refine lv_goto (tgt := 5) X.1 X.2.1 dX12_bytesIn_30 (by decide) ?_
          exact ih1 _ _ f7 y8 hS (lv_sub hl [2, 1, 0] rfl) (iv_of (iv_add (a' := (-8)) (b' := 16) ey8 (iv_ler (c' := 0) (iv_ge_of c2) (iv_c 0 (a := 0) (b := 0) (by decide +kernel)) hz1_2 (by decide +kernel)) (iv_c _ (a := (-8)) (b := (-8)) (by decide +kernel)) (by decide +kernel)) (a' := (-8)) (b' := 24) (by decide +kernel)) (iv_stepD ey8 (iv_ler (c' := 0) (iv_ge_of c2) (iv_c 0 (a := 0) (b := 0) (by decide +kernel)) hz1_2 (by decide +kernel)) (by decide +kernel) hN1)
        refine lv_if_eq (tgt := 24) X.1 X.2.1 dX12_bytesIn_17 (by decide) (fun c5 => ?_) (fun c5 => ?_)
        · refine lv_iconst (v := 0) X.1 X.2.1 dX12_bytesIn_24 (by decide +kernel) ?_
          exact B6_25 _ _ 0 hS (lv_sub hl [0, 2] rfl) (iv_of (iv_c 0 (a := 0) (b := 0) (by decide +kernel)) (a' := 0) (b' := 1) (by decide +kernel))
        · refine lv_iconst (v := 1) X.1 X.2.1 dX12_bytesIn_20 (by decide +kernel) ?_
          refine lv_goto (tgt := 25) X.1 X.2.1 dX12_bytesIn_21 (by decide) ?_
          exact B6_25 _ _ 1 hS (lv_sub hl [0, 2] rfl) (iv_of (iv_c 1 (a := 1) (b := 1) (by decide +kernel)) (a' := 0) (b' := 1) (by decide +kernel))
  exact B1_5 _ _ _ 0 24 hS (lv_sub hl [2, 1, 0] rfl) (iv_of (iv_c 24 (a := 24) (b := 24) (by decide +kernel)) (a' := (-8)) (b' := 24) (by decide +kernel)) (Nat.le_refl _)

theorem ca_X12_bytesIn   (X : CallFix p m c cc nL s args sg_tbl own) (hK : va_K D vwCl tys s) (hG : sgG (KT P) D vwCl (fun q : Nat => base ≤ q) tys ad ks H) (hC : sgC base s) (hA : ∀ q : Nat, A q → base ≤ q) (hS : va_S A s.heap H locs) (hb : base ≤ s.heap.size) (x0 : Int32) (hl : Cond.methodLink own index yX12_bytesIn ∈ sg_tbl) (hsize : ls.size = nL) (hst : st0 = [.int x0].reverse ++ rest) (hW : (rest.map fun v => v.category).sum ≤ 8) (hR : 1 ≤ R.frames ∧ 22 ≤ R.locals) (hf : cells ≤ R.cells ∧ slots ≤ R.slots) (hdg : decode cc pc = .ok (.invokestatic index, 3)) (kk : ∀ (r : Int32) (locs1 : List Loc), (fun r : Int32 => True) r → va_S A s.heap H locs1 → W p l e R s m args below meth c H locs1 cells slots Q (F0 m (pc + 3) ls (.int r :: rest))) : W p l e R s m args below meth c H locs cells slots Q (F0 m pc ls st0) :=
  sg_callPSi X hK hG hC hA hS hb (m_X12_bytesIn l x0) wl_7_105 wl_1_13 wl_7_104 (n := 1) (by decide +kernel) rfl rfl rfl hl hsize hst hW hR hf hdg kk

set_option maxHeartbeats 8000000 in
set_option maxRecDepth 100000 in
theorem m_X12_rule_1 (l : Launch) {D : va_G} {base : Nat} {tys : List (ClassId × FieldType)} {ad ks : List Nat} {P : sgPm} (hp4 : P.2.2.2.2.1 = true) (a0 : Nat) (h0 : isK ad ks 12 a0) (x1 : Int32) : sgMi l (KT P) D vwCl base tys ad ks yX12_rule cX12_rule 2 (some .int) ({ frames := 1, cells := 0, slots := 0, locals := 25 }) [.ref a0, .int x1] (fun r : Int32 => True) := by
  refine sg_ofW (by decide +kernel) (Nat.le_of_ble_eq_true rfl) (fun p e s m below meth c X hr hlk hb hK hC hG ls hl => ?_)
  have hS : va_S (fun q : Nat => base ≤ q) s.heap s.heap [] := va_S.rf
  have hl : lv_has ls 2 [(0, .ref a0), (1, .int x1)] := hl
  refine lv_aload_n X.1 X.2.1 dX12_rule_0 rfl (lv_at hl 0 rfl) ?_
  refine lv_iconst (v := 0) X.1 X.2.1 dX12_rule_1 (by decide +kernel) ?_
  refine pf_X12_0 X hK hG hS h0 wl_6_178 ⟨_, rfl, (iv_top _)⟩ dX12_rule_2 (fun H locs hG hS ku1 ru1 => ?_)
  refine lv_aload_n X.1 X.2.1 dX12_rule_5 rfl (lv_at hl 0 rfl) ?_
  refine gf_X12_23s X hK hG h0 hp4 wl_6_201 dX12_rule_6 (fun f2 hf2 kf2 => ?_)
  have B4_33 : ∀ (locs : List Loc) (ls : Array Slot), va_S (fun q : Nat => base ≤ q) s.heap H locs → lv_has ls 2 [] → W p l e (headSpec (Cond.code yX12_rule cX12_rule 2 (some .int) :: sg_tbl) ({ frames := 1, cells := 0, slots := 0, locals := 25 })).room s m #[.ref a0, .int x1] below meth c H locs 0 0 (MQ below (va_Qi (fun r (_ : Unit) => (fun r : Int32 => True) r) (fun _ => sgB (KT P) D vwCl base tys ad ks) (fun q : Nat => base ≤ q)) #[.ref a0, .int x1] s 0 0 (fun q : Nat => base ≤ q)) (F0 m 33 ls []) := by
    intro locs ls hS hl
    refine lv_iconst (v := (-1)) X.1 X.2.1 dX12_rule_33 (by decide +kernel) ?_
    exact sg_iret X hr hlk hb hK hC hG hS trivial dX12_rule_34
  refine lv_if_le (tgt := 33) X.1 X.2.1 dX12_rule_9 (by decide) (fun c3 => ?_) (fun c3 => ?_)
  · exact ((iv_no (iv_le (b' := 0) c3 hf2 (iv_c 0 (a := 0) (b := 0) (by decide +kernel)) (by decide +kernel)) (by decide +kernel))).elim
  · refine lv_iload_n X.1 X.2.1 dX12_rule_12 rfl (lv_at hl 1 rfl) ?_
    obtain ⟨g5, eg5⟩ : ∃ y : Int64, y = (x1 : Int32).toInt64 := ⟨_, rfl⟩
    refine lv_i2l (v := g5) X.1 X.2.1 dX12_rule_13 eg5.symm ?_
    refine lv_lconst (v := 0) X.1 X.2.1 dX12_rule_14 (by decide +kernel) ?_
    refine lv_ldc2 X.1 X.2.1 X.2.2.2.1 (X.2.2.2.2 _ wl_8_50) dX12_rule_15 ?_
    refine ca_X12_isIn X hK hG hC (fun _ h => h) hS hb g5 0 5 wl_7_119 hl.1 (rest := []) rfl (Nat.le_of_ble_eq_true rfl) ⟨Nat.le_of_ble_eq_true rfl, Nat.le_of_ble_eq_true rfl⟩ ⟨Nat.le_of_ble_eq_true rfl, Nat.le_of_ble_eq_true rfl⟩ dX12_rule_18 (fun f6 locs hf6 hS => ?_)
    refine lv_if_eq (tgt := 33) X.1 X.2.1 dX12_rule_21 (by decide) (fun c7 => ?_) (fun c7 => ?_)
    · exact B4_33 _ _ hS (lv_sub hl [] rfl)
    · refine lv_aload_n X.1 X.2.1 dX12_rule_24 rfl (lv_at hl 0 rfl) ?_
      refine gf_X12_18 X hK hG h0 wl_6_196 dX12_rule_25 (fun q8 hq8 kq8 => ?_)
      refine lv_iload_n X.1 X.2.1 dX12_rule_28 rfl (lv_at hl 1 rfl) ?_
      refine al_49 X hK hG hq8 (iv_vpin (sg_isin (a := 0) (b := 5) (hf6.2 c7) eg5 (by decide +kernel) (by decide +kernel)) (by decide +kernel)) dX12_rule_29 (fun f9 hf9 => ?_)
      have of9 := hf9
      have hf9 : iv 0 8 f9 := sg_r2 hp4 hf9
      refine lv_goto (tgt := 34) X.1 X.2.1 dX12_rule_30 (by decide) ?_
      exact sg_iret X hr hlk hb hK hC hG hS trivial dX12_rule_34

theorem ca_X12_rule_1   (X : CallFix p m c cc nL s args sg_tbl own) (hK : va_K D vwCl tys s) (hG : sgG (KT P) D vwCl (fun q : Nat => base ≤ q) tys ad ks H) (hC : sgC base s) (hS : va_S (fun q : Nat => base ≤ q) s.heap H locs) (hb : base ≤ s.heap.size) (hp4 : P.2.2.2.2.1 = true) (a0 : Nat) (h0 : isK ad ks 12 a0) (x1 : Int32) (hl : Cond.methodLink own index yX12_rule ∈ sg_tbl) (hsize : ls.size = nL) (hst : st0 = [.int x1].reverse ++ .ref a0 :: rest) (hW : (rest.map fun v => v.category).sum ≤ 8) (hR : 2 ≤ R.frames ∧ 46 ≤ R.locals) (hf : cells ≤ R.cells ∧ slots ≤ R.slots) (hdg : decode cc pc = .ok (.invokevirtual index, 3)) (kk : ∀ (r : Int32) (H1 : Heap) (locs1 : List Loc), (fun r : Int32 => True) r → sgG (KT P) D vwCl (fun q : Nat => base ≤ q) tys ad ks H1 → va_S (fun q : Nat => base ≤ q) s.heap H1 locs1 → W p l e R s m args below meth c H1 locs1 cells slots Q (F0 m (pc + 3) ls (.int r :: rest))) : W p l e R s m args below meth c H locs cells slots Q (F0 m pc ls st0) :=
  sg_callVi X hK hG hC hS hb (m_X12_rule_1 l hp4 a0 h0 x1) h0 (k := 12) (ci := 12) rfl (C := RX12) (T := TX12) (N := 53) rfl wl_8_49 wl_1_13 wl_8_47 wl_8_48 (n := 1) (by decide +kernel) rfl rfl rfl hl hsize hst hW hR hf hdg kk

set_option maxHeartbeats 8000000 in
set_option maxRecDepth 100000 in
theorem m_X12_parts_1 (l : Launch) {D : va_G} {base : Nat} {tys : List (ClassId × FieldType)} {ad ks : List Nat} {P : sgPm} (hp4 : P.2.2.2.2.1 = true) (a0 : Nat) (h0 : isK ad ks 12 a0) (x1 : Int32) : sgMi l (KT P) D vwCl base tys ad ks yX12_parts cX12_parts 2 (some .int) ({ frames := 3, cells := 0, slots := 0, locals := 71 }) [.ref a0, .int x1] (fun r : Int32 => True) := by
  refine sg_ofW (by decide +kernel) (Nat.le_of_ble_eq_true rfl) (fun p e s m below meth c X hr hlk hb hK hC hG ls hl => ?_)
  have hS : va_S (fun q : Nat => base ≤ q) s.heap s.heap [] := va_S.rf
  have hl : lv_has ls 2 [(0, .ref a0), (1, .int x1)] := hl
  refine lv_aload_n X.1 X.2.1 dX12_parts_0 rfl (lv_at hl 0 rfl) ?_
  refine lv_iconst (v := 0) X.1 X.2.1 dX12_parts_1 (by decide +kernel) ?_
  refine pf_X12_0 X hK hG hS h0 wl_6_178 ⟨_, rfl, (iv_top _)⟩ dX12_parts_2 (fun H locs hG hS ku1 ru1 => ?_)
  refine lv_aload_n X.1 X.2.1 dX12_parts_5 rfl (lv_at hl 0 rfl) ?_
  refine gf_X12_23s X hK hG h0 hp4 wl_6_201 dX12_parts_6 (fun f2 hf2 kf2 => ?_)
  have B4_17 : ∀ (locs : List Loc) (ls : Array Slot), va_S (fun q : Nat => base ≤ q) s.heap H locs → lv_has ls 2 [] → W p l e (headSpec (Cond.code yX12_parts cX12_parts 2 (some .int) :: sg_tbl) ({ frames := 3, cells := 0, slots := 0, locals := 71 })).room s m #[.ref a0, .int x1] below meth c H locs 0 0 (MQ below (va_Qi (fun r (_ : Unit) => (fun r : Int32 => True) r) (fun _ => sgB (KT P) D vwCl base tys ad ks) (fun q : Nat => base ≤ q)) #[.ref a0, .int x1] s 0 0 (fun q : Nat => base ≤ q)) (F0 m 17 ls []) := by
    intro locs ls hS hl
    refine lv_iconst (v := (-1)) X.1 X.2.1 dX12_parts_17 (by decide +kernel) ?_
    refine lv_goto (tgt := 26) X.1 X.2.1 dX12_parts_18 (by decide) ?_
    exact sg_iret X hr hlk hb hK hC hG hS trivial dX12_parts_26
  refine lv_if_eq (tgt := 17) X.1 X.2.1 dX12_parts_9 (by decide) (fun c3 => ?_) (fun c3 => ?_)
  · exact ((iv_no (a := 1) (b := 0) (iv_eqm c3 hf2 (iv_c 0 (a := 0) (b := 0) (by decide +kernel)) (by decide +kernel)) (by decide +kernel))).elim
  · refine lv_iload_n X.1 X.2.1 dX12_parts_12 rfl (lv_at hl 1 rfl) ?_
    refine lv_iconst (v := (-1)) X.1 X.2.1 dX12_parts_13 (by decide +kernel) ?_
    refine lv_icmp_ge (tgt := 21) X.1 X.2.1 dX12_parts_14 (by decide) (fun c5 => ?_) (fun c5 => ?_)
    · refine lv_aload_n X.1 X.2.1 dX12_parts_21 rfl (lv_at hl 0 rfl) ?_
      refine lv_iload_n X.1 X.2.1 dX12_parts_22 rfl (lv_at hl 1 rfl) ?_
      refine ca_X12_partAt_1 X hK hG hC (fun _ h => h) hS hb hp4 a0 h0 x1 wl_9_43 hl.1 (rest := []) rfl (Nat.le_of_ble_eq_true rfl) ⟨Nat.le_of_ble_eq_true rfl, Nat.le_of_ble_eq_true rfl⟩ ⟨Nat.le_of_ble_eq_true rfl, Nat.le_of_ble_eq_true rfl⟩ dX12_parts_23 (fun f6 locs hf6 hS => ?_)
      exact sg_iret X hr hlk hb hK hC hG hS trivial dX12_parts_26
    · exact B4_17 _ _ hS (lv_sub hl [] rfl)

theorem ca_X12_parts_1   (X : CallFix p m c cc nL s args sg_tbl own) (hK : va_K D vwCl tys s) (hG : sgG (KT P) D vwCl (fun q : Nat => base ≤ q) tys ad ks H) (hC : sgC base s) (hS : va_S (fun q : Nat => base ≤ q) s.heap H locs) (hb : base ≤ s.heap.size) (hp4 : P.2.2.2.2.1 = true) (a0 : Nat) (h0 : isK ad ks 12 a0) (x1 : Int32) (hl : Cond.methodLink own index yX12_parts ∈ sg_tbl) (hsize : ls.size = nL) (hst : st0 = [.int x1].reverse ++ .ref a0 :: rest) (hW : (rest.map fun v => v.category).sum ≤ 8) (hR : 4 ≤ R.frames ∧ 92 ≤ R.locals) (hf : cells ≤ R.cells ∧ slots ≤ R.slots) (hdg : decode cc pc = .ok (.invokevirtual index, 3)) (kk : ∀ (r : Int32) (H1 : Heap) (locs1 : List Loc), (fun r : Int32 => True) r → sgG (KT P) D vwCl (fun q : Nat => base ≤ q) tys ad ks H1 → va_S (fun q : Nat => base ≤ q) s.heap H1 locs1 → W p l e R s m args below meth c H1 locs1 cells slots Q (F0 m (pc + 3) ls (.int r :: rest))) : W p l e R s m args below meth c H locs cells slots Q (F0 m pc ls st0) :=
  sg_callVi X hK hG hC hS hb (m_X12_parts_1 l hp4 a0 h0 x1) h0 (k := 12) (ci := 12) rfl (C := RX12) (T := TX12) (N := 53) rfl wl_9_42 wl_1_13 wl_9_40 wl_9_41 (n := 1) (by decide +kernel) rfl rfl rfl hl hsize hst hW hR hf hdg kk

set_option maxHeartbeats 8000000 in
set_option maxRecDepth 100000 in
theorem m_X12_areFew_1 (l : Launch) {D : va_G} {base : Nat} {tys : List (ClassId × FieldType)} {ad ks : List Nat} {P : sgPm} {Hx : Heap} (hp4 : P.2.2.2.2.1 = true) (a0 : Nat) (h0 : isK ad ks 12 a0) : sgPi l (KT P) D vwCl base tys ad ks Hx yX12_areFew cX12_areFew 2 (some .boolean) ({ frames := 3, cells := 0, slots := 0, locals := 71 }) [.ref a0] (fun r : Int32 => iv 0 1 r) := by
  refine sg_ofP (Pq := fun Hx => va_Qi (fun r (_ : Unit) => (fun r : Int32 => iv 0 1 r) r) (fun _ t => t.heap = Hx) (fun _ : Nat => False)) (by decide +kernel) (Nat.le_of_ble_eq_true rfl) (fun p e s m below meth c X hr hlk hb hK hC hG ls hl => ?_)
  have hS : va_S (fun _ : Nat => False) s.heap s.heap [] := va_S.rf
  have hl : lv_has ls 2 [(0, .ref a0)] := hl
  refine lv_iconst (v := 0) X.1 X.2.1 dX12_areFew_0 (by decide +kernel) ?_
  refine lv_istore_n (lv' := [(1, .int 0), (0, .ref a0)]) X.1 X.2.1 dX12_areFew_1 rfl hl (by decide) rfl (fun ls hl => ?_)
  have B1_2 : ∀ (N : Nat) (locs : List Loc) (ls : Array Slot) (z1_1 : Int32), va_S (fun _ : Nat => False) s.heap s.heap locs → lv_has ls 2 [(0, .ref a0), (1, .int z1_1)] → iv 0 2147483647 z1_1 → (2147483648 - z1_1.toInt).toNat ≤ N → W p l e (headSpec (Cond.code yX12_areFew cX12_areFew 2 (some .boolean) :: sg_tbl) ({ frames := 3, cells := 0, slots := 0, locals := 71 })).room s m #[.ref a0] below meth c s.heap locs 0 0 (MQ below (va_Qi (fun r (_ : Unit) => (fun r : Int32 => iv 0 1 r) r) (fun _ t => t.heap = s.heap) (fun _ : Nat => False)) #[.ref a0] s 0 0 (fun _ : Nat => False)) (F0 m 2 ls []) := by
    intro N; induction N with
    | zero =>
      intro locs ls z1_1 hS hl hz1_1 hN
      exact absurd hN (by have := iv_up hz1_1; omega)
    | succ N ih1 =>
      intro locs ls z1_1 hS hl hz1_1 hN1
      refine lv_iload_n X.1 X.2.1 dX12_areFew_2 rfl (lv_at hl 1 rfl) ?_
      refine lv_aload_n X.1 X.2.1 dX12_areFew_3 rfl (lv_at hl 0 rfl) ?_
      refine lv_iconst (v := (-1)) X.1 X.2.1 dX12_areFew_4 (by decide +kernel) ?_
      refine ca_X12_partAt_1 X hK hG hC (fun _ h => h.elim) hS hb hp4 a0 h0 (-1) wl_9_43 hl.1 (rest := [.int z1_1]) rfl (Nat.le_of_ble_eq_true rfl) ⟨Nat.le_of_ble_eq_true rfl, Nat.le_of_ble_eq_true rfl⟩ ⟨Nat.le_of_ble_eq_true rfl, Nat.le_of_ble_eq_true rfl⟩ dX12_areFew_5 (fun f2 locs hf2 hS => ?_)
      refine lv_icmp_ge (tgt := 32) X.1 X.2.1 dX12_areFew_8 (by decide) (fun c3 => ?_) (fun c3 => ?_)
      · refine lv_iconst (v := 1) X.1 X.2.1 dX12_areFew_32 (by decide +kernel) ?_
        exact sg_zretP X hr (sg_zn (iv_of (iv_c 1 (a := 1) (b := 1) (by decide +kernel)) (a' := 0) (b' := 1) (by decide +kernel))) hlk hS (iv_of (iv_c 1 (a := 1) (b := 1) (by decide +kernel)) (a' := 0) (b' := 1) (by decide +kernel)) dX12_areFew_33
      · refine lv_aload_n X.1 X.2.1 dX12_areFew_11 rfl (lv_at hl 0 rfl) ?_
        refine lv_iload_n X.1 X.2.1 dX12_areFew_12 rfl (lv_at hl 1 rfl) ?_
        refine ca_X12_partAt_1 X hK hG hC (fun _ h => h.elim) hS hb hp4 a0 h0 z1_1 wl_9_43 hl.1 (rest := []) rfl (Nat.le_of_ble_eq_true rfl) ⟨Nat.le_of_ble_eq_true rfl, Nat.le_of_ble_eq_true rfl⟩ ⟨Nat.le_of_ble_eq_true rfl, Nat.le_of_ble_eq_true rfl⟩ dX12_areFew_13 (fun f4 locs hf4 hS => ?_)
        refine ca_J6_bitCount_0f7a4 X hK hG hC (fun _ h => h.elim) hS hb f4 wl_8_68 hl.1 (rest := []) rfl (Nat.le_of_ble_eq_true rfl) ⟨Nat.le_of_ble_eq_true rfl, Nat.le_of_ble_eq_true rfl⟩ ⟨Nat.le_of_ble_eq_true rfl, Nat.le_of_ble_eq_true rfl⟩ dX12_areFew_16 (fun f5 locs hf5 hS => ?_)
        refine lv_bipush (v := 12) X.1 X.2.1 dX12_areFew_19 (by decide +kernel) ?_
        refine lv_icmp_le (tgt := 26) X.1 X.2.1 dX12_areFew_21 (by decide) (fun c6 => ?_) (fun c6 => ?_)
        · obtain ⟨y7, ey7⟩ : ∃ y : Int32, y = z1_1 + Int32.ofInt 1 := ⟨_, rfl⟩
          refine lv_iinc (v := y7) (lv' := [(1, .int y7), (0, .ref a0)]) X.1 X.2.1 dX12_areFew_26 hl (k := 1) rfl ey7.symm (by decide) rfl (fun ls hl => ?_)
          refine lv_goto (tgt := 2) X.1 X.2.1 dX12_areFew_29 (by decide) ?_
          exact ih1 _ _ y7 hS (lv_sub hl [1, 0] rfl) (iv_of (iv_add (a' := 1) (b' := 2147483647) ey7 (iv_lt (b' := 2147483646) (iv_gt_of c3) hz1_1 (iv_top f2) (by decide +kernel)) (iv_c _ (a := 1) (b := 1) (by decide +kernel)) (by decide +kernel)) (a' := 0) (b' := 2147483647) (by decide +kernel)) (iv_stepU ey7 (iv_lt (b' := 2147483646) (iv_gt_of c3) hz1_1 (iv_top f2) (by decide +kernel)) (by decide +kernel) hN1)
        · refine lv_iconst (v := 0) X.1 X.2.1 dX12_areFew_24 (by decide +kernel) ?_
          exact sg_zretP X hr (sg_zn (iv_of (iv_c 0 (a := 0) (b := 0) (by decide +kernel)) (a' := 0) (b' := 1) (by decide +kernel))) hlk hS (iv_of (iv_c 0 (a := 0) (b := 0) (by decide +kernel)) (a' := 0) (b' := 1) (by decide +kernel)) dX12_areFew_25
  exact B1_2 _ _ _ 0 hS (lv_sub hl [1, 0] rfl) (iv_of (iv_c 0 (a := 0) (b := 0) (by decide +kernel)) (a' := 0) (b' := 2147483647) (by decide +kernel)) (Nat.le_refl _)

theorem ca_X12_areFew_1   (X : CallFix p m c cc nL s args sg_tbl own) (hK : va_K D vwCl tys s) (hG : sgG (KT P) D vwCl (fun q : Nat => base ≤ q) tys ad ks H) (hC : sgC base s) (hA : ∀ q : Nat, A q → base ≤ q) (hS : va_S A s.heap H locs) (hb : base ≤ s.heap.size) (hp4 : P.2.2.2.2.1 = true) (a0 : Nat) (h0 : isK ad ks 12 a0) (hl : Cond.methodLink own index yX12_areFew ∈ sg_tbl) (hsize : ls.size = nL) (hst : st0 = [].reverse ++ .ref a0 :: rest) (hW : (rest.map fun v => v.category).sum ≤ 8) (hR : 4 ≤ R.frames ∧ 92 ≤ R.locals) (hf : cells ≤ R.cells ∧ slots ≤ R.slots) (hdg : decode cc pc = .ok (.invokevirtual index, 3)) (kk : ∀ (r : Int32) (locs1 : List Loc), (fun r : Int32 => iv 0 1 r) r → va_S A s.heap H locs1 → W p l e R s m args below meth c H locs1 cells slots Q (F0 m (pc + 3) ls (.int r :: rest))) : W p l e R s m args below meth c H locs cells slots Q (F0 m pc ls st0) :=
  sg_callPVi X hK hG hC hA hS hb (m_X12_areFew_1 l hp4 a0 h0) h0 (k := 12) (ci := 12) rfl (C := RX12) (T := TX12) (N := 53) rfl wl_9_79 wl_1_13 wl_9_78 wl_0_107 (n := 0) (by decide +kernel) rfl rfl rfl hl hsize hst hW hR hf hdg kk

set_option maxHeartbeats 8000000 in
set_option maxRecDepth 100000 in
theorem m_X12_book_1 (l : Launch) {D : va_G} {base : Nat} {tys : List (ClassId × FieldType)} {ad ks : List Nat} {P : sgPm} (hp4 : P.2.2.2.2.1 = true) (a0 : Nat) (h0 : isK ad ks 12 a0) (x1 : Int32) (x2 : Int32) (h2 : iv 0 1 x2) : sgMi l (KT P) D vwCl base tys ad ks yX12_book cX12_book 3 (some .int) ({ frames := 2, cells := 0, slots := 0, locals := 46 }) [.ref a0, .int x1, .int x2] (fun r : Int32 => True) := by
  refine sg_ofW (by decide +kernel) (Nat.le_of_ble_eq_true rfl) (fun p e s m below meth c X hr hlk hb hK hC hG ls hl => ?_)
  have hS : va_S (fun q : Nat => base ≤ q) s.heap s.heap [] := va_S.rf
  have hl : lv_has ls 3 [(0, .ref a0), (1, .int x1), (2, .int x2)] := hl
  refine lv_aload_n X.1 X.2.1 dX12_book_0 rfl (lv_at hl 0 rfl) ?_
  refine lv_iconst (v := 0) X.1 X.2.1 dX12_book_1 (by decide +kernel) ?_
  refine pf_X12_0 X hK hG hS h0 wl_6_178 ⟨_, rfl, (iv_top _)⟩ dX12_book_2 (fun H locs hG hS ku1 ru1 => ?_)
  refine lv_aload_n X.1 X.2.1 dX12_book_5 rfl (lv_at hl 0 rfl) ?_
  refine lv_iload_n X.1 X.2.1 dX12_book_6 rfl (lv_at hl 1 rfl) ?_
  refine ca_X12_isGrass_1 X hK hG hC (fun _ h => h) hS hb hp4 a0 h0 x1 wl_9_88 hl.1 (rest := []) rfl (Nat.le_of_ble_eq_true rfl) ⟨Nat.le_of_ble_eq_true rfl, Nat.le_of_ble_eq_true rfl⟩ ⟨Nat.le_of_ble_eq_true rfl, Nat.le_of_ble_eq_true rfl⟩ dX12_book_7 (fun f2 locs hf2 hS => ?_)
  refine lv_if_eq (tgt := 22) X.1 X.2.1 dX12_book_10 (by decide) (fun c3 => ?_) (fun c3 => ?_)
  · refine lv_iconst (v := (-1)) X.1 X.2.1 dX12_book_22 (by decide +kernel) ?_
    exact sg_iret X hr hlk hb hK hC hG hS trivial dX12_book_23
  · refine lv_aload_n X.1 X.2.1 dX12_book_13 rfl (lv_at hl 0 rfl) ?_
    refine gf_X12_50 X hK hG h0 wl_6_228 dX12_book_14 (fun f4 hf4 kf4 => ?_)
    refine lv_bipush (v := 12) X.1 X.2.1 dX12_book_17 (by decide +kernel) ?_
    refine lv_icmp_ne (tgt := 24) X.1 X.2.1 dX12_book_19 (by decide) (fun c5 => ?_) (fun c5 => ?_)
    · refine lv_aload_n X.1 X.2.1 dX12_book_24 rfl (lv_at hl 0 rfl) ?_
      refine gf_X12_48 X hK hG h0 wl_6_226 dX12_book_25 (fun q6 hq6 kq6 => ?_)
      refine lv_aload_n X.1 X.2.1 dX12_book_28 rfl (lv_at hl 0 rfl) ?_
      refine gg_X12_50 X hK hG h0 wl_6_228 kf4 dX12_book_29 ?_
      refine lv_aload_n X.1 X.2.1 dX12_book_32 rfl (lv_at hl 0 rfl) ?_
      refine lv_aload_n X.1 X.2.1 dX12_book_33 rfl (lv_at hl 0 rfl) ?_
      refine gf_X12_32 X hK hG h0 wl_6_210 dX12_book_34 (fun q7 hq7 kq7 => ?_)
      refine lv_iconst (v := 0) X.1 X.2.1 dX12_book_37 (by decide +kernel) ?_
      refine al_54 X hK hG hq7 (iv_vpin (iv_c 0 (a := 0) (b := 0) (by decide +kernel)) (by decide +kernel)) dX12_book_38 (fun f8 hf8 => ?_)
      have hf8 := sg_nw_now hf8
      have of8 := hf8
      have hf8 : iv (-2147483648) 2147483647 f8 := sg_sp_now hf8 (iv_c 0 (a := 0) (b := 0) (by decide +kernel)) (by decide +kernel) rfl
      refine lv_iload_n X.1 X.2.1 dX12_book_39 rfl (lv_at hl 1 rfl) ?_
      refine ca_X12_around_1 X hK hG hC (fun _ h => h) hS hb hp4 a0 h0 f8 x1 wl_8_59 hl.1 (rest := [.int f4, .ref q6]) rfl (Nat.le_of_ble_eq_true rfl) ⟨Nat.le_of_ble_eq_true rfl, Nat.le_of_ble_eq_true rfl⟩ ⟨Nat.le_of_ble_eq_true rfl, Nat.le_of_ble_eq_true rfl⟩ dX12_book_40 (fun f9 locs hf9 hS => ?_)
      refine as_63 X hK hG hS hq6 (iv_vpin (iv_ne_hi (b' := 11) c5 hf4 (by decide +kernel)) (by decide +kernel)) ⟨_, rfl, (iv_top _)⟩ dX12_book_43 (fun H locs hG hS ru10 => ?_)
      refine lv_aload_n X.1 X.2.1 dX12_book_44 rfl (lv_at hl 0 rfl) ?_
      refine gf_X12_49 X hK hG h0 wl_6_227 dX12_book_45 (fun q11 hq11 kq11 => ?_)
      refine lv_aload_n X.1 X.2.1 dX12_book_48 rfl (lv_at hl 0 rfl) ?_
      refine gg_X12_50 X hK hG h0 wl_6_228 (ru10 _ _ _ _ _ _ _ h0 rfl rfl (by decide) (fun z => z.elim) kf4) dX12_book_49 ?_
      refine lv_iload_n X.1 X.2.1 dX12_book_52 rfl (lv_at hl 2 rfl) ?_
      refine as_64 X hK hG hS hq11 (iv_vpin (iv_ne_hi (b' := 11) c5 hf4 (by decide +kernel)) (by decide +kernel)) (sg_zok h2) dX12_book_53 (fun H locs hG hS ru12 => ?_)
      refine lv_aload_n X.1 X.2.1 dX12_book_54 rfl (lv_at hl 0 rfl) ?_
      refine lv_dup X.1 X.2.1 dX12_book_55 rfl ?_
      refine gg_X12_50 X hK hG h0 wl_6_228 (ru12 _ _ _ _ _ _ _ h0 rfl rfl (by decide) (fun z => z.elim) (ru10 _ _ _ _ _ _ _ h0 rfl rfl (by decide) (fun z => z.elim) kf4)) dX12_book_56 ?_
      refine lv_iconst (v := 1) X.1 X.2.1 dX12_book_59 (by decide +kernel) ?_
      refine lv_iadd X.1 X.2.1 dX12_book_60 ?_
      refine lv_topi (fun f13 ef13 => ?_)
      refine pf_X12_50 X hK hG hS h0 wl_6_228 ⟨_, rfl, (iv_of (iv_add (a' := 1) (b' := 12) ef13 (iv_ne_hi (b' := 11) c5 hf4 (by decide +kernel)) (iv_c 1 (a := 1) (b := 1) (by decide +kernel)) (by decide +kernel)) (a' := 0) (b' := 12) (by decide +kernel))⟩ dX12_book_61 (fun H locs hG hS ku14 ru14 => ?_)
      refine lv_aload_n X.1 X.2.1 dX12_book_64 rfl (lv_at hl 0 rfl) ?_
      refine gg_X12_50 X hK hG h0 wl_6_228 ku14 dX12_book_65 ?_
      exact sg_iret X hr hlk hb hK hC hG hS trivial dX12_book_68
    · refine lv_iconst (v := (-1)) X.1 X.2.1 dX12_book_22 (by decide +kernel) ?_
      exact sg_iret X hr hlk hb hK hC hG hS trivial dX12_book_23

theorem ca_X12_book_1   (X : CallFix p m c cc nL s args sg_tbl own) (hK : va_K D vwCl tys s) (hG : sgG (KT P) D vwCl (fun q : Nat => base ≤ q) tys ad ks H) (hC : sgC base s) (hS : va_S (fun q : Nat => base ≤ q) s.heap H locs) (hb : base ≤ s.heap.size) (hp4 : P.2.2.2.2.1 = true) (a0 : Nat) (h0 : isK ad ks 12 a0) (x1 : Int32) (x2 : Int32) (h2 : iv 0 1 x2) (hl : Cond.methodLink own index yX12_book ∈ sg_tbl) (hsize : ls.size = nL) (hst : st0 = [.int x1, .int x2].reverse ++ .ref a0 :: rest) (hW : (rest.map fun v => v.category).sum ≤ 8) (hR : 3 ≤ R.frames ∧ 68 ≤ R.locals) (hf : cells ≤ R.cells ∧ slots ≤ R.slots) (hdg : decode cc pc = .ok (.invokevirtual index, 3)) (kk : ∀ (r : Int32) (H1 : Heap) (locs1 : List Loc), (fun r : Int32 => True) r → sgG (KT P) D vwCl (fun q : Nat => base ≤ q) tys ad ks H1 → va_S (fun q : Nat => base ≤ q) s.heap H1 locs1 → W p l e R s m args below meth c H1 locs1 cells slots Q (F0 m (pc + 3) ls (.int r :: rest))) : W p l e R s m args below meth c H locs cells slots Q (F0 m pc ls st0) :=
  sg_callVi X hK hG hC hS hb (m_X12_book_1 l hp4 a0 h0 x1 x2 h2) h0 (k := 12) (ci := 12) rfl (C := RX12) (T := TX12) (N := 53) rfl wl_9_87 wl_1_13 wl_9_85 wl_9_86 (n := 2) (by decide +kernel) rfl rfl rfl hl hsize hst hW hR hf hdg kk

set_option maxHeartbeats 8000000 in
set_option maxRecDepth 100000 in
theorem m_X12_fit_1 (l : Launch) {D : va_G} {base : Nat} {tys : List (ClassId × FieldType)} {ad ks : List Nat} {P : sgPm} (hp4 : P.2.2.2.2.1 = true) (a0 : Nat) (h0 : isK ad ks 12 a0) (x1 : Int32) : sgMi l (KT P) D vwCl base tys ad ks yX12_fit cX12_fit 5 (some .int) ({ frames := 1, cells := 0, slots := 0, locals := 23 }) [.ref a0, .int x1] (fun r : Int32 => True) := by
  refine sg_ofW (by decide +kernel) (Nat.le_of_ble_eq_true rfl) (fun p e s m below meth c X hr hlk hb hK hC hG ls hl => ?_)
  have hS : va_S (fun q : Nat => base ≤ q) s.heap s.heap [] := va_S.rf
  have hl : lv_has ls 5 [(0, .ref a0), (1, .int x1)] := hl
  refine lv_aload_n X.1 X.2.1 dX12_fit_0 rfl (lv_at hl 0 rfl) ?_
  refine lv_iconst (v := 0) X.1 X.2.1 dX12_fit_1 (by decide +kernel) ?_
  refine pf_X12_0 X hK hG hS h0 wl_6_178 ⟨_, rfl, (iv_top _)⟩ dX12_fit_2 (fun H locs hG hS ku1 ru1 => ?_)
  refine lv_aload_n X.1 X.2.1 dX12_fit_5 rfl (lv_at hl 0 rfl) ?_
  refine gf_X12_23s X hK hG h0 hp4 wl_6_201 dX12_fit_6 (fun f2 hf2 kf2 => ?_)
  refine lv_if_eq (tgt := 17) X.1 X.2.1 dX12_fit_9 (by decide) (fun c3 => ?_) (fun c3 => ?_)
  · exact ((iv_no (a := 1) (b := 0) (iv_eqm c3 hf2 (iv_c 0 (a := 0) (b := 0) (by decide +kernel)) (by decide +kernel)) (by decide +kernel))).elim
  · refine lv_iload_n X.1 X.2.1 dX12_fit_12 rfl (lv_at hl 1 rfl) ?_
    refine lv_iconst (v := (-1)) X.1 X.2.1 dX12_fit_13 (by decide +kernel) ?_
    refine lv_icmp_ge (tgt := 19) X.1 X.2.1 dX12_fit_14 (by decide) (fun c4 => ?_) (fun c4 => ?_)
    · refine lv_iconst (v := 0) X.1 X.2.1 dX12_fit_19 (by decide +kernel) ?_
      refine lv_istore_n (lv' := [(2, .int 0), (0, .ref a0), (1, .int x1)]) X.1 X.2.1 dX12_fit_20 rfl hl (by decide) rfl (fun ls hl => ?_)
      refine lv_iconst (v := 0) X.1 X.2.1 dX12_fit_21 (by decide +kernel) ?_
      refine lv_istore_n (lv' := [(3, .int 0), (2, .int 0), (0, .ref a0), (1, .int x1)]) X.1 X.2.1 dX12_fit_22 rfl hl (by decide) rfl (fun ls hl => ?_)
      have B5_23 : ∀ (N : Nat) (locs : List Loc) (ls : Array Slot) (z5_2 : Int32) (z5_3 : Int32), va_S (fun q : Nat => base ≤ q) s.heap H locs → lv_has ls 5 [(0, .ref a0), (1, .int x1), (2, .int z5_2), (3, .int z5_3)] → iv 0 9 z5_3 → (10 - z5_3.toInt).toNat ≤ N → W p l e (headSpec (Cond.code yX12_fit cX12_fit 5 (some .int) :: sg_tbl) ({ frames := 1, cells := 0, slots := 0, locals := 23 })).room s m #[.ref a0, .int x1] below meth c H locs 0 0 (MQ below (va_Qi (fun r (_ : Unit) => (fun r : Int32 => True) r) (fun _ => sgB (KT P) D vwCl base tys ad ks) (fun q : Nat => base ≤ q)) #[.ref a0, .int x1] s 0 0 (fun q : Nat => base ≤ q)) (F0 m 23 ls []) := by
        intro N; induction N with
        | zero =>
          intro locs ls z5_2 z5_3 hS hl hz5_3 hN
          exact absurd hN (by have := iv_up hz5_3; omega)
        | succ N ih5 =>
          intro locs ls z5_2 z5_3 hS hl hz5_3 hN5
          refine lv_iload_n X.1 X.2.1 dX12_fit_23 rfl (lv_at hl 3 rfl) ?_
          refine lv_bipush (v := 8) X.1 X.2.1 dX12_fit_24 (by decide +kernel) ?_
          refine lv_icmp_gt (tgt := 80) X.1 X.2.1 dX12_fit_26 (by decide) (fun c6 => ?_) (fun c6 => ?_)
          · refine lv_iload_n X.1 X.2.1 dX12_fit_80 rfl (lv_at hl 1 rfl) ?_
            refine lv_iconst (v := (-1)) X.1 X.2.1 dX12_fit_81 (by decide +kernel) ?_
            refine lv_icmp_ne (tgt := 89) X.1 X.2.1 dX12_fit_82 (by decide) (fun c7 => ?_) (fun c7 => ?_)
            · refine lv_iconst (v := (-1)) X.1 X.2.1 dX12_fit_89 (by decide +kernel) ?_
              exact sg_iret X hr hlk hb hK hC hG hS trivial dX12_fit_90
            · refine lv_iload_n X.1 X.2.1 dX12_fit_85 rfl (lv_at hl 2 rfl) ?_
              refine lv_goto (tgt := 90) X.1 X.2.1 dX12_fit_86 (by decide) ?_
              exact sg_iret X hr hlk hb hK hC hG hS trivial dX12_fit_90
          · refine lv_iload_n X.1 X.2.1 dX12_fit_29 rfl (lv_at hl 3 rfl) ?_
            refine lv_istore (lv' := [(4, .int z5_3), (0, .ref a0), (1, .int x1), (2, .int z5_2), (3, .int z5_3)]) X.1 X.2.1 dX12_fit_30 hl (by decide) rfl (fun ls hl => ?_)
            have B8_32 : ∀ (N : Nat) (locs : List Loc) (ls : Array Slot) (z8_2 : Int32) (z8_4 : Int32), va_S (fun q : Nat => base ≤ q) s.heap H locs → lv_has ls 5 [(0, .ref a0), (1, .int x1), (2, .int z8_2), (3, .int z5_3), (4, .int z8_4)] → iv 0 9 z8_4 → (10 - z8_4.toInt).toNat ≤ N → W p l e (headSpec (Cond.code yX12_fit cX12_fit 5 (some .int) :: sg_tbl) ({ frames := 1, cells := 0, slots := 0, locals := 23 })).room s m #[.ref a0, .int x1] below meth c H locs 0 0 (MQ below (va_Qi (fun r (_ : Unit) => (fun r : Int32 => True) r) (fun _ => sgB (KT P) D vwCl base tys ad ks) (fun q : Nat => base ≤ q)) #[.ref a0, .int x1] s 0 0 (fun q : Nat => base ≤ q)) (F0 m 32 ls []) := by
              intro N; induction N with
              | zero =>
                intro locs ls z8_2 z8_4 hS hl hz8_4 hN
                exact absurd hN (by have := iv_up hz8_4; omega)
              | succ N ih8 =>
                intro locs ls z8_2 z8_4 hS hl hz8_4 hN8
                refine lv_iload X.1 X.2.1 dX12_fit_32 (lv_at hl 4 rfl) ?_
                refine lv_bipush (v := 8) X.1 X.2.1 dX12_fit_34 (by decide +kernel) ?_
                refine lv_icmp_gt (tgt := 74) X.1 X.2.1 dX12_fit_36 (by decide) (fun c9 => ?_) (fun c9 => ?_)
                · obtain ⟨y10, ey10⟩ : ∃ y : Int32, y = z5_3 + Int32.ofInt 1 := ⟨_, rfl⟩
                  refine lv_iinc (v := y10) (lv' := [(3, .int y10), (0, .ref a0), (1, .int x1), (2, .int z8_2), (4, .int z8_4)]) X.1 X.2.1 dX12_fit_74 hl (k := 3) rfl ey10.symm (by decide) rfl (fun ls hl => ?_)
                  refine lv_goto (tgt := 23) X.1 X.2.1 dX12_fit_77 (by decide) ?_
                  exact ih5 _ _ z8_2 y10 hS (lv_sub hl [1, 2, 3, 0] rfl) (iv_of (iv_add (a' := 1) (b' := 9) ey10 (iv_le (b' := 8) (iv_ge_of c6) hz5_3 (iv_c 8 (a := 8) (b := 8) (by decide +kernel)) (by decide +kernel)) (iv_c _ (a := 1) (b := 1) (by decide +kernel)) (by decide +kernel)) (a' := 0) (b' := 9) (by decide +kernel)) (iv_stepU ey10 (iv_le (b' := 8) (iv_ge_of c6) hz5_3 (iv_c 8 (a := 8) (b := 8) (by decide +kernel)) (by decide +kernel)) (by decide +kernel) hN5)
                · refine lv_aload_n X.1 X.2.1 dX12_fit_39 rfl (lv_at hl 0 rfl) ?_
                  refine lv_iload_n X.1 X.2.1 dX12_fit_40 rfl (lv_at hl 3 rfl) ?_
                  refine lv_iload X.1 X.2.1 dX12_fit_41 (lv_at hl 4 rfl) ?_
                  refine ca_X12_fits X hK hG hC (fun _ h => h) hS hb a0 h0 z5_3 z8_4 wl_9_96 hl.1 (rest := []) rfl (Nat.le_of_ble_eq_true rfl) ⟨Nat.le_of_ble_eq_true rfl, Nat.le_of_ble_eq_true rfl⟩ ⟨Nat.le_of_ble_eq_true rfl, Nat.le_of_ble_eq_true rfl⟩ dX12_fit_43 (fun f11 locs hf11 hS => ?_)
                  have B13_68 : ∀ (locs : List Loc) (ls : Array Slot) (z13_2 : Int32), va_S (fun q : Nat => base ≤ q) s.heap H locs → lv_has ls 5 [(0, .ref a0), (1, .int x1), (2, .int z13_2), (3, .int z5_3), (4, .int z8_4)] → W p l e (headSpec (Cond.code yX12_fit cX12_fit 5 (some .int) :: sg_tbl) ({ frames := 1, cells := 0, slots := 0, locals := 23 })).room s m #[.ref a0, .int x1] below meth c H locs 0 0 (MQ below (va_Qi (fun r (_ : Unit) => (fun r : Int32 => True) r) (fun _ => sgB (KT P) D vwCl base tys ad ks) (fun q : Nat => base ≤ q)) #[.ref a0, .int x1] s 0 0 (fun q : Nat => base ≤ q)) (F0 m 68 ls []) := by
                    intro locs ls z13_2 hS hl
                    obtain ⟨y14, ey14⟩ : ∃ y : Int32, y = z8_4 + Int32.ofInt 1 := ⟨_, rfl⟩
                    refine lv_iinc (v := y14) (lv' := [(4, .int y14), (0, .ref a0), (1, .int x1), (2, .int z13_2), (3, .int z5_3)]) X.1 X.2.1 dX12_fit_68 hl (k := 4) rfl ey14.symm (by decide) rfl (fun ls hl => ?_)
                    refine lv_goto (tgt := 32) X.1 X.2.1 dX12_fit_71 (by decide) ?_
                    exact ih8 _ _ z13_2 y14 hS (lv_sub hl [1, 2, 3, 4, 0] rfl) (iv_of (iv_add (a' := 1) (b' := 9) ey14 (iv_le (b' := 8) (iv_ge_of c9) hz8_4 (iv_c 8 (a := 8) (b := 8) (by decide +kernel)) (by decide +kernel)) (iv_c _ (a := 1) (b := 1) (by decide +kernel)) (by decide +kernel)) (a' := 0) (b' := 9) (by decide +kernel)) (iv_stepU ey14 (iv_le (b' := 8) (iv_ge_of c9) hz8_4 (iv_c 8 (a := 8) (b := 8) (by decide +kernel)) (by decide +kernel)) (by decide +kernel) hN8)
                  refine lv_if_ne (tgt := 52) X.1 X.2.1 dX12_fit_46 (by decide) (fun c12 => ?_) (fun c12 => ?_)
                  · refine lv_iload_n X.1 X.2.1 dX12_fit_52 rfl (lv_at hl 2 rfl) ?_
                    refine lv_iload_n X.1 X.2.1 dX12_fit_53 rfl (lv_at hl 1 rfl) ?_
                    refine lv_icmp_ne (tgt := 65) X.1 X.2.1 dX12_fit_54 (by decide) (fun c15 => ?_) (fun c15 => ?_)
                    · obtain ⟨y16, ey16⟩ : ∃ y : Int32, y = z8_2 + Int32.ofInt 1 := ⟨_, rfl⟩
                      refine lv_iinc (v := y16) (lv' := [(2, .int y16), (0, .ref a0), (1, .int x1), (3, .int z5_3), (4, .int z8_4)]) X.1 X.2.1 dX12_fit_65 hl (k := 2) rfl ey16.symm (by decide) rfl (fun ls hl => ?_)
                      exact B13_68 _ _ y16 hS (lv_sub hl [1, 2, 0, 3, 4] rfl)
                    · refine lv_bipush (v := 10) X.1 X.2.1 dX12_fit_57 (by decide +kernel) ?_
                      refine lv_iload_n X.1 X.2.1 dX12_fit_59 rfl (lv_at hl 3 rfl) ?_
                      refine lv_imul X.1 X.2.1 dX12_fit_60 ?_
                      refine lv_topi (fun f17 ef17 => ?_)
                      refine lv_iload X.1 X.2.1 dX12_fit_61 (lv_at hl 4 rfl) ?_
                      refine lv_iadd X.1 X.2.1 dX12_fit_63 ?_
                      refine lv_topi (fun f18 ef18 => ?_)
                      exact sg_iret X hr hlk hb hK hC hG hS trivial dX12_fit_64
                  · refine lv_goto (tgt := 68) X.1 X.2.1 dX12_fit_49 (by decide) ?_
                    exact B13_68 _ _ z8_2 hS (lv_sub hl [0, 1, 2, 3, 4] rfl)
            exact B8_32 _ _ _ z5_2 z5_3 hS (lv_sub hl [1, 2, 3, 4, 0] rfl) (iv_of (iv_le (b' := 8) (iv_ge_of c6) hz5_3 (iv_c 8 (a := 8) (b := 8) (by decide +kernel)) (by decide +kernel)) (a' := 0) (b' := 9) (by decide +kernel)) (Nat.le_refl _)
      exact B5_23 _ _ _ 0 0 hS (lv_sub hl [2, 3, 1, 0] rfl) (iv_of (iv_c 0 (a := 0) (b := 0) (by decide +kernel)) (a' := 0) (b' := 9) (by decide +kernel)) (Nat.le_refl _)
    · refine lv_iconst (v := (-1)) X.1 X.2.1 dX12_fit_17 (by decide +kernel) ?_
      exact sg_iret X hr hlk hb hK hC hG hS trivial dX12_fit_18

theorem ca_X12_fit_1   (X : CallFix p m c cc nL s args sg_tbl own) (hK : va_K D vwCl tys s) (hG : sgG (KT P) D vwCl (fun q : Nat => base ≤ q) tys ad ks H) (hC : sgC base s) (hS : va_S (fun q : Nat => base ≤ q) s.heap H locs) (hb : base ≤ s.heap.size) (hp4 : P.2.2.2.2.1 = true) (a0 : Nat) (h0 : isK ad ks 12 a0) (x1 : Int32) (hl : Cond.methodLink own index yX12_fit ∈ sg_tbl) (hsize : ls.size = nL) (hst : st0 = [.int x1].reverse ++ .ref a0 :: rest) (hW : (rest.map fun v => v.category).sum ≤ 8) (hR : 2 ≤ R.frames ∧ 47 ≤ R.locals) (hf : cells ≤ R.cells ∧ slots ≤ R.slots) (hdg : decode cc pc = .ok (.invokevirtual index, 3)) (kk : ∀ (r : Int32) (H1 : Heap) (locs1 : List Loc), (fun r : Int32 => True) r → sgG (KT P) D vwCl (fun q : Nat => base ≤ q) tys ad ks H1 → va_S (fun q : Nat => base ≤ q) s.heap H1 locs1 → W p l e R s m args below meth c H1 locs1 cells slots Q (F0 m (pc + 3) ls (.int r :: rest))) : W p l e R s m args below meth c H locs cells slots Q (F0 m pc ls st0) :=
  sg_callVi X hK hG hC hS hb (m_X12_fit_1 l hp4 a0 h0 x1) h0 (k := 12) (ci := 12) rfl (C := RX12) (T := TX12) (N := 53) rfl wl_9_95 wl_1_13 wl_9_93 wl_9_94 (n := 1) (by decide +kernel) rfl rfl rfl hl hsize hst hW hR hf hdg kk

set_option maxHeartbeats 8000000 in
set_option maxRecDepth 100000 in
theorem m_X12_tells_1 (l : Launch) {D : va_G} {base : Nat} {tys : List (ClassId × FieldType)} {ad ks : List Nat} {P : sgPm} (hp4 : P.2.2.2.2.1 = true) (a0 : Nat) (h0 : isK ad ks 12 a0) : sgMi l (KT P) D vwCl base tys ad ks yX12_tells cX12_tells 8 (some .int) ({ frames := 2, cells := 0, slots := 0, locals := 46 }) [.ref a0] (fun r : Int32 => True) := by
  refine sg_ofW (by decide +kernel) (Nat.le_of_ble_eq_true rfl) (fun p e s m below meth c X hr hlk hb hK hC hG ls hl => ?_)
  have hS : va_S (fun q : Nat => base ≤ q) s.heap s.heap [] := va_S.rf
  have hl : lv_has ls 8 [(0, .ref a0)] := hl
  refine lv_aload_n X.1 X.2.1 dX12_tells_0 rfl (lv_at hl 0 rfl) ?_
  refine lv_iconst (v := 0) X.1 X.2.1 dX12_tells_1 (by decide +kernel) ?_
  refine pf_X12_0 X hK hG hS h0 wl_6_178 ⟨_, rfl, (iv_top _)⟩ dX12_tells_2 (fun H locs hG hS ku1 ru1 => ?_)
  refine lv_iconst (v := (-1)) X.1 X.2.1 dX12_tells_5 (by decide +kernel) ?_
  refine lv_istore_n (lv' := [(1, .int (-1)), (0, .ref a0)]) X.1 X.2.1 dX12_tells_6 rfl hl (by decide) rfl (fun ls hl => ?_)
  refine lv_iconst (v := 0) X.1 X.2.1 dX12_tells_7 (by decide +kernel) ?_
  refine lv_istore_n (lv' := [(2, .int 0), (1, .int (-1)), (0, .ref a0)]) X.1 X.2.1 dX12_tells_8 rfl hl (by decide) rfl (fun ls hl => ?_)
  refine lv_iconst (v := 0) X.1 X.2.1 dX12_tells_9 (by decide +kernel) ?_
  refine lv_istore_n (lv' := [(3, .int 0), (2, .int 0), (1, .int (-1)), (0, .ref a0)]) X.1 X.2.1 dX12_tells_10 rfl hl (by decide) rfl (fun ls hl => ?_)
  have B2_11 : ∀ (N : Nat) (locs : List Loc) (ls : Array Slot) (z2_1 : Int32) (z2_2 : Int32) (z2_3 : Int32), va_S (fun q : Nat => base ≤ q) s.heap H locs → lv_has ls 8 [(0, .ref a0), (1, .int z2_1), (2, .int z2_2), (3, .int z2_3)] → iv (-1) 30 z2_1 → iv 0 30 z2_3 → (31 - z2_3.toInt).toNat ≤ N → W p l e (headSpec (Cond.code yX12_tells cX12_tells 8 (some .int) :: sg_tbl) ({ frames := 2, cells := 0, slots := 0, locals := 46 })).room s m #[.ref a0] below meth c H locs 0 0 (MQ below (va_Qi (fun r (_ : Unit) => (fun r : Int32 => True) r) (fun _ => sgB (KT P) D vwCl base tys ad ks) (fun q : Nat => base ≤ q)) #[.ref a0] s 0 0 (fun q : Nat => base ≤ q)) (F0 m 11 ls []) := by
    intro N; induction N with
    | zero =>
      intro locs ls z2_1 z2_2 z2_3 hS hl hz2_1 hz2_3 hN
      exact absurd hN (by have := iv_up hz2_3; omega)
    | succ N ih2 =>
      intro locs ls z2_1 z2_2 z2_3 hS hl hz2_1 hz2_3 hN2
      refine lv_iload_n X.1 X.2.1 dX12_tells_11 rfl (lv_at hl 3 rfl) ?_
      refine lv_aload_n X.1 X.2.1 dX12_tells_12 rfl (lv_at hl 0 rfl) ?_
      refine gf_X12_23s X hK hG h0 hp4 wl_6_201 dX12_tells_13 (fun f3 hf3 kf3 => ?_)
      refine lv_icmp_ge (tgt := 146) X.1 X.2.1 dX12_tells_16 (by decide) (fun c4 => ?_) (fun c4 => ?_)
      · refine lv_iload_n X.1 X.2.1 dX12_tells_146 rfl (lv_at hl 1 rfl) ?_
        exact sg_iret X hr hlk hb hK hC hG hS trivial dX12_tells_147
      · refine lv_aload_n X.1 X.2.1 dX12_tells_19 rfl (lv_at hl 0 rfl) ?_
        refine lv_iload_n X.1 X.2.1 dX12_tells_20 rfl (lv_at hl 3 rfl) ?_
        refine ca_X12_isGrass_1 X hK hG hC (fun _ h => h) hS hb hp4 a0 h0 z2_3 wl_9_88 hl.1 (rest := []) rfl (Nat.le_of_ble_eq_true rfl) ⟨Nat.le_of_ble_eq_true rfl, Nat.le_of_ble_eq_true rfl⟩ ⟨Nat.le_of_ble_eq_true rfl, Nat.le_of_ble_eq_true rfl⟩ dX12_tells_21 (fun f5 locs hf5 hS => ?_)
        have B7_140 : ∀ (locs : List Loc) (ls : Array Slot) (z7_1 : Int32) (z7_2 : Int32), va_S (fun q : Nat => base ≤ q) s.heap H locs → lv_has ls 8 [(0, .ref a0), (1, .int z7_1), (2, .int z7_2), (3, .int z2_3)] → iv (-1) 30 z7_1 → W p l e (headSpec (Cond.code yX12_tells cX12_tells 8 (some .int) :: sg_tbl) ({ frames := 2, cells := 0, slots := 0, locals := 46 })).room s m #[.ref a0] below meth c H locs 0 0 (MQ below (va_Qi (fun r (_ : Unit) => (fun r : Int32 => True) r) (fun _ => sgB (KT P) D vwCl base tys ad ks) (fun q : Nat => base ≤ q)) #[.ref a0] s 0 0 (fun q : Nat => base ≤ q)) (F0 m 140 ls []) := by
          intro locs ls z7_1 z7_2 hS hl hz7_1
          obtain ⟨y8, ey8⟩ : ∃ y : Int32, y = z2_3 + Int32.ofInt 1 := ⟨_, rfl⟩
          refine lv_iinc (v := y8) (lv' := [(3, .int y8), (0, .ref a0), (1, .int z7_1), (2, .int z7_2)]) X.1 X.2.1 dX12_tells_140 hl (k := 3) rfl ey8.symm (by decide) rfl (fun ls hl => ?_)
          refine lv_goto (tgt := 11) X.1 X.2.1 dX12_tells_143 (by decide) ?_
          exact ih2 _ _ z7_1 z7_2 y8 hS (lv_sub hl [1, 2, 3, 0] rfl) hz7_1 (iv_of (iv_add (a' := 1) (b' := 30) ey8 (iv_lt (b' := 29) (iv_gt_of c4) hz2_3 hf3 (by decide +kernel)) (iv_c _ (a := 1) (b := 1) (by decide +kernel)) (by decide +kernel)) (a' := 0) (b' := 30) (by decide +kernel)) (iv_stepU ey8 (iv_lt (b' := 29) (iv_gt_of c4) hz2_3 hf3 (by decide +kernel)) (by decide +kernel) hN2)
        refine lv_if_ne (tgt := 30) X.1 X.2.1 dX12_tells_24 (by decide) (fun c6 => ?_) (fun c6 => ?_)
        · refine lv_aload_n X.1 X.2.1 dX12_tells_30 rfl (lv_at hl 0 rfl) ?_
          refine lv_aload_n X.1 X.2.1 dX12_tells_31 rfl (lv_at hl 0 rfl) ?_
          refine gf_X12_32 X hK hG h0 wl_6_210 dX12_tells_32 (fun q9 hq9 kq9 => ?_)
          refine lv_iconst (v := 0) X.1 X.2.1 dX12_tells_35 (by decide +kernel) ?_
          refine al_54 X hK hG hq9 (iv_vpin (iv_c 0 (a := 0) (b := 0) (by decide +kernel)) (by decide +kernel)) dX12_tells_36 (fun f10 hf10 => ?_)
          have hf10 := sg_nw_now hf10
          have of10 := hf10
          have hf10 : iv (-2147483648) 2147483647 f10 := sg_sp_now hf10 (iv_c 0 (a := 0) (b := 0) (by decide +kernel)) (by decide +kernel) rfl
          refine lv_iload_n X.1 X.2.1 dX12_tells_37 rfl (lv_at hl 3 rfl) ?_
          refine ca_X12_around_1 X hK hG hC (fun _ h => h) hS hb hp4 a0 h0 f10 z2_3 wl_8_59 hl.1 (rest := []) rfl (Nat.le_of_ble_eq_true rfl) ⟨Nat.le_of_ble_eq_true rfl, Nat.le_of_ble_eq_true rfl⟩ ⟨Nat.le_of_ble_eq_true rfl, Nat.le_of_ble_eq_true rfl⟩ dX12_tells_38 (fun f11 locs hf11 hS => ?_)
          refine lv_istore (lv' := [(4, .int f11), (0, .ref a0), (1, .int z2_1), (2, .int z2_2), (3, .int z2_3)]) X.1 X.2.1 dX12_tells_41 hl (by decide) rfl (fun ls hl => ?_)
          refine lv_iconst (v := 0) X.1 X.2.1 dX12_tells_43 (by decide +kernel) ?_
          refine lv_istore (lv' := [(5, .int 0), (4, .int f11), (0, .ref a0), (1, .int z2_1), (2, .int z2_2), (3, .int z2_3)]) X.1 X.2.1 dX12_tells_44 hl (by decide) rfl (fun ls hl => ?_)
          refine lv_iconst (v := 0) X.1 X.2.1 dX12_tells_46 (by decide +kernel) ?_
          refine lv_istore (lv' := [(6, .int 0), (5, .int 0), (4, .int f11), (0, .ref a0), (1, .int z2_1), (2, .int z2_2), (3, .int z2_3)]) X.1 X.2.1 dX12_tells_47 hl (by decide) rfl (fun ls hl => ?_)
          have B12_49 : ∀ (N : Nat) (locs : List Loc) (ls : Array Slot) (z12_5 : Int32) (z12_6 : Int32), va_S (fun q : Nat => base ≤ q) s.heap H locs → lv_has ls 8 [(0, .ref a0), (1, .int z2_1), (2, .int z2_2), (3, .int z2_3), (4, .int f11), (5, .int z12_5), (6, .int z12_6)] → iv 0 9 z12_6 → (10 - z12_6.toInt).toNat ≤ N → W p l e (headSpec (Cond.code yX12_tells cX12_tells 8 (some .int) :: sg_tbl) ({ frames := 2, cells := 0, slots := 0, locals := 46 })).room s m #[.ref a0] below meth c H locs 0 0 (MQ below (va_Qi (fun r (_ : Unit) => (fun r : Int32 => True) r) (fun _ => sgB (KT P) D vwCl base tys ad ks) (fun q : Nat => base ≤ q)) #[.ref a0] s 0 0 (fun q : Nat => base ≤ q)) (F0 m 49 ls []) := by
            intro N; induction N with
            | zero =>
              intro locs ls z12_5 z12_6 hS hl hz12_6 hN
              exact absurd hN (by have := iv_up hz12_6; omega)
            | succ N ih12 =>
              intro locs ls z12_5 z12_6 hS hl hz12_6 hN12
              refine lv_iload X.1 X.2.1 dX12_tells_49 (lv_at hl 6 rfl) ?_
              refine lv_bipush (v := 8) X.1 X.2.1 dX12_tells_51 (by decide +kernel) ?_
              refine lv_icmp_gt (tgt := 114) X.1 X.2.1 dX12_tells_53 (by decide) (fun c13 => ?_) (fun c13 => ?_)
              · refine lv_iload X.1 X.2.1 dX12_tells_114 (lv_at hl 5 rfl) ?_
                refine va_mabs X.1 X.2.1 (X.2.2.1.trans hl.1.symm) X.2.2.2.1 (X.2.2.2.2 _ wl_8_63) (X.2.2.2.2 _ wl_6_11) (X.2.2.2.2 _ wl_1_15) (X.2.2.2.2 _ wl_6_12) (Nat.le_of_ble_eq_true rfl) (Nat.le_of_ble_eq_true rfl) (Nat.le_of_ble_eq_true rfl) (Nat.le_of_ble_eq_true rfl) dX12_tells_116 ?_
                refine lv_topi (fun f14 ef14 => ?_)
                refine lv_istore (lv' := [(5, .int f14), (0, .ref a0), (1, .int z2_1), (2, .int z2_2), (3, .int z2_3), (4, .int f11), (6, .int z12_6)]) X.1 X.2.1 dX12_tells_119 hl (by decide) rfl (fun ls hl => ?_)
                refine lv_iload_n X.1 X.2.1 dX12_tells_121 rfl (lv_at hl 2 rfl) ?_
                refine lv_iconst (v := (-1)) X.1 X.2.1 dX12_tells_122 (by decide +kernel) ?_
                have B16_135 : ∀ (locs : List Loc) (ls : Array Slot), va_S (fun q : Nat => base ≤ q) s.heap H locs → lv_has ls 8 [(0, .ref a0), (3, .int z2_3), (5, .int f14)] → W p l e (headSpec (Cond.code yX12_tells cX12_tells 8 (some .int) :: sg_tbl) ({ frames := 2, cells := 0, slots := 0, locals := 46 })).room s m #[.ref a0] below meth c H locs 0 0 (MQ below (va_Qi (fun r (_ : Unit) => (fun r : Int32 => True) r) (fun _ => sgB (KT P) D vwCl base tys ad ks) (fun q : Nat => base ≤ q)) #[.ref a0] s 0 0 (fun q : Nat => base ≤ q)) (F0 m 135 ls []) := by
                  intro locs ls hS hl
                  refine lv_iload_n X.1 X.2.1 dX12_tells_135 rfl (lv_at hl 1 rfl) ?_
                  refine lv_istore_n (lv' := [(1, .int z2_3), (0, .ref a0), (3, .int z2_3), (5, .int f14)]) X.1 X.2.1 dX12_tells_136 rfl hl (by decide) rfl (fun ls hl => ?_)
                  refine lv_iload X.1 X.2.1 dX12_tells_137 (lv_at hl 3 rfl) ?_
                  refine lv_istore_n (lv' := [(2, .int f14), (1, .int z2_3), (0, .ref a0), (3, .int z2_3), (5, .int f14)]) X.1 X.2.1 dX12_tells_139 rfl hl (by decide) rfl (fun ls hl => ?_)
                  exact B7_140 _ _ z2_3 f14 hS (lv_sub hl [2, 1, 0, 3] rfl) (iv_of (hf5.2 c6) (a' := (-1)) (b' := 30) (by decide +kernel))
                refine lv_icmp_eq (tgt := 135) X.1 X.2.1 dX12_tells_123 (by decide) (fun c15 => ?_) (fun c15 => ?_)
                · exact B16_135 _ _ hS (lv_sub hl [1, 4, 0] rfl)
                · refine lv_iload X.1 X.2.1 dX12_tells_126 (lv_at hl 0 rfl) ?_
                  refine lv_iload_n X.1 X.2.1 dX12_tells_128 rfl (lv_at hl 3 rfl) ?_
                  refine lv_icmp_lt (tgt := 135) X.1 X.2.1 dX12_tells_129 (by decide) (fun c17 => ?_) (fun c17 => ?_)
                  · exact B16_135 _ _ hS (lv_sub hl [1, 4, 0] rfl)
                  · refine lv_goto (tgt := 140) X.1 X.2.1 dX12_tells_132 (by decide) ?_
                    exact B7_140 _ _ z2_1 z2_2 hS (lv_sub hl [1, 2, 3, 4] rfl) (iv_of (iv_ne_lo (a' := 0) c15 hz2_1 (by decide +kernel)) (a' := (-1)) (b' := 30) (by decide +kernel))
              · refine lv_iload X.1 X.2.1 dX12_tells_56 (lv_at hl 6 rfl) ?_
                refine lv_istore (lv' := [(7, .int z12_6), (0, .ref a0), (1, .int z2_1), (2, .int z2_2), (3, .int z2_3), (4, .int f11), (5, .int z12_5), (6, .int z12_6)]) X.1 X.2.1 dX12_tells_58 hl (by decide) rfl (fun ls hl => ?_)
                have B18_60 : ∀ (N : Nat) (locs : List Loc) (ls : Array Slot) (z18_5 : Int32) (z18_7 : Int32), va_S (fun q : Nat => base ≤ q) s.heap H locs → lv_has ls 8 [(0, .ref a0), (1, .int z2_1), (2, .int z2_2), (3, .int z2_3), (4, .int f11), (5, .int z18_5), (6, .int z12_6), (7, .int z18_7)] → iv 0 9 z18_7 → (10 - z18_7.toInt).toNat ≤ N → W p l e (headSpec (Cond.code yX12_tells cX12_tells 8 (some .int) :: sg_tbl) ({ frames := 2, cells := 0, slots := 0, locals := 46 })).room s m #[.ref a0] below meth c H locs 0 0 (MQ below (va_Qi (fun r (_ : Unit) => (fun r : Int32 => True) r) (fun _ => sgB (KT P) D vwCl base tys ad ks) (fun q : Nat => base ≤ q)) #[.ref a0] s 0 0 (fun q : Nat => base ≤ q)) (F0 m 60 ls []) := by
                  intro N; induction N with
                  | zero =>
                    intro locs ls z18_5 z18_7 hS hl hz18_7 hN
                    exact absurd hN (by have := iv_up hz18_7; omega)
                  | succ N ih18 =>
                    intro locs ls z18_5 z18_7 hS hl hz18_7 hN18
                    refine lv_iload X.1 X.2.1 dX12_tells_60 (lv_at hl 7 rfl) ?_
                    refine lv_bipush (v := 8) X.1 X.2.1 dX12_tells_62 (by decide +kernel) ?_
                    refine lv_icmp_gt (tgt := 108) X.1 X.2.1 dX12_tells_64 (by decide) (fun c19 => ?_) (fun c19 => ?_)
                    · obtain ⟨y20, ey20⟩ : ∃ y : Int32, y = z12_6 + Int32.ofInt 1 := ⟨_, rfl⟩
                      refine lv_iinc (v := y20) (lv' := [(6, .int y20), (0, .ref a0), (1, .int z2_1), (2, .int z2_2), (3, .int z2_3), (4, .int f11), (5, .int z18_5), (7, .int z18_7)]) X.1 X.2.1 dX12_tells_108 hl (k := 6) rfl ey20.symm (by decide) rfl (fun ls hl => ?_)
                      refine lv_goto (tgt := 49) X.1 X.2.1 dX12_tells_111 (by decide) ?_
                      exact ih12 _ _ z18_5 y20 hS (lv_sub hl [1, 2, 3, 4, 5, 6, 0] rfl) (iv_of (iv_add (a' := 1) (b' := 9) ey20 (iv_le (b' := 8) (iv_ge_of c13) hz12_6 (iv_c 8 (a := 8) (b := 8) (by decide +kernel)) (by decide +kernel)) (iv_c _ (a := 1) (b := 1) (by decide +kernel)) (by decide +kernel)) (a' := 0) (b' := 9) (by decide +kernel)) (iv_stepU ey20 (iv_le (b' := 8) (iv_ge_of c13) hz12_6 (iv_c 8 (a := 8) (b := 8) (by decide +kernel)) (by decide +kernel)) (by decide +kernel) hN12)
                    · refine lv_aload_n X.1 X.2.1 dX12_tells_67 rfl (lv_at hl 0 rfl) ?_
                      refine lv_iload X.1 X.2.1 dX12_tells_68 (lv_at hl 6 rfl) ?_
                      refine lv_iload X.1 X.2.1 dX12_tells_70 (lv_at hl 7 rfl) ?_
                      refine ca_X12_fits X hK hG hC (fun _ h => h) hS hb a0 h0 z12_6 z18_7 wl_9_96 hl.1 (rest := []) rfl (Nat.le_of_ble_eq_true rfl) ⟨Nat.le_of_ble_eq_true rfl, Nat.le_of_ble_eq_true rfl⟩ ⟨Nat.le_of_ble_eq_true rfl, Nat.le_of_ble_eq_true rfl⟩ dX12_tells_72 (fun f21 locs hf21 hS => ?_)
                      have B23_102 : ∀ (locs : List Loc) (ls : Array Slot) (z23_5 : Int32), va_S (fun q : Nat => base ≤ q) s.heap H locs → lv_has ls 8 [(0, .ref a0), (1, .int z2_1), (2, .int z2_2), (3, .int z2_3), (4, .int f11), (5, .int z23_5), (6, .int z12_6), (7, .int z18_7)] → W p l e (headSpec (Cond.code yX12_tells cX12_tells 8 (some .int) :: sg_tbl) ({ frames := 2, cells := 0, slots := 0, locals := 46 })).room s m #[.ref a0] below meth c H locs 0 0 (MQ below (va_Qi (fun r (_ : Unit) => (fun r : Int32 => True) r) (fun _ => sgB (KT P) D vwCl base tys ad ks) (fun q : Nat => base ≤ q)) #[.ref a0] s 0 0 (fun q : Nat => base ≤ q)) (F0 m 102 ls []) := by
                        intro locs ls z23_5 hS hl
                        obtain ⟨y24, ey24⟩ : ∃ y : Int32, y = z18_7 + Int32.ofInt 1 := ⟨_, rfl⟩
                        refine lv_iinc (v := y24) (lv' := [(7, .int y24), (0, .ref a0), (1, .int z2_1), (2, .int z2_2), (3, .int z2_3), (4, .int f11), (5, .int z23_5), (6, .int z12_6)]) X.1 X.2.1 dX12_tells_102 hl (k := 7) rfl ey24.symm (by decide) rfl (fun ls hl => ?_)
                        refine lv_goto (tgt := 60) X.1 X.2.1 dX12_tells_105 (by decide) ?_
                        exact ih18 _ _ z23_5 y24 hS (lv_sub hl [1, 2, 3, 4, 5, 6, 7, 0] rfl) (iv_of (iv_add (a' := 1) (b' := 9) ey24 (iv_le (b' := 8) (iv_ge_of c19) hz18_7 (iv_c 8 (a := 8) (b := 8) (by decide +kernel)) (by decide +kernel)) (iv_c _ (a := 1) (b := 1) (by decide +kernel)) (by decide +kernel)) (a' := 0) (b' := 9) (by decide +kernel)) (iv_stepU ey24 (iv_le (b' := 8) (iv_ge_of c19) hz18_7 (iv_c 8 (a := 8) (b := 8) (by decide +kernel)) (by decide +kernel)) (by decide +kernel) hN18)
                      refine lv_if_eq (tgt := 102) X.1 X.2.1 dX12_tells_75 (by decide) (fun c22 => ?_) (fun c22 => ?_)
                      · exact B23_102 _ _ z18_5 hS (lv_sub hl [0, 1, 2, 3, 4, 5, 6, 7] rfl)
                      · refine lv_iload X.1 X.2.1 dX12_tells_78 (lv_at hl 5 rfl) ?_
                        refine lv_iload X.1 X.2.1 dX12_tells_80 (lv_at hl 4 rfl) ?_
                        refine lv_iload X.1 X.2.1 dX12_tells_82 (lv_at hl 6 rfl) ?_
                        have B26_99 : ∀ (locs : List Loc) (ls : Array Slot) (w26_0 : Int32), va_S (fun q : Nat => base ≤ q) s.heap H locs → lv_has ls 8 [(0, .ref a0), (1, .int z2_1), (2, .int z2_2), (3, .int z2_3), (4, .int f11), (6, .int z12_6), (7, .int z18_7)] → iv (-1) 1 w26_0 → W p l e (headSpec (Cond.code yX12_tells cX12_tells 8 (some .int) :: sg_tbl) ({ frames := 2, cells := 0, slots := 0, locals := 46 })).room s m #[.ref a0] below meth c H locs 0 0 (MQ below (va_Qi (fun r (_ : Unit) => (fun r : Int32 => True) r) (fun _ => sgB (KT P) D vwCl base tys ad ks) (fun q : Nat => base ≤ q)) #[.ref a0] s 0 0 (fun q : Nat => base ≤ q)) (F0 m 99 ls [.int w26_0, .int z18_5]) := by
                          intro locs ls w26_0 hS hl hw26_0
                          refine lv_iadd X.1 X.2.1 dX12_tells_99 ?_
                          refine lv_topi (fun f27 ef27 => ?_)
                          refine lv_istore (lv' := [(5, .int f27), (0, .ref a0), (1, .int z2_1), (2, .int z2_2), (3, .int z2_3), (4, .int f11), (6, .int z12_6), (7, .int z18_7)]) X.1 X.2.1 dX12_tells_100 hl (by decide) rfl (fun ls hl => ?_)
                          exact B23_102 _ _ f27 hS (lv_sub hl [1, 2, 3, 4, 5, 0, 6, 7] rfl)
                        have B28_98 : ∀ (locs : List Loc) (ls : Array Slot), va_S (fun q : Nat => base ≤ q) s.heap H locs → lv_has ls 8 [(0, .ref a0), (1, .int z2_1), (2, .int z2_2), (3, .int z2_3), (4, .int f11), (6, .int z12_6), (7, .int z18_7)] → W p l e (headSpec (Cond.code yX12_tells cX12_tells 8 (some .int) :: sg_tbl) ({ frames := 2, cells := 0, slots := 0, locals := 46 })).room s m #[.ref a0] below meth c H locs 0 0 (MQ below (va_Qi (fun r (_ : Unit) => (fun r : Int32 => True) r) (fun _ => sgB (KT P) D vwCl base tys ad ks) (fun q : Nat => base ≤ q)) #[.ref a0] s 0 0 (fun q : Nat => base ≤ q)) (F0 m 98 ls [.int z18_5]) := by
                          intro locs ls hS hl
                          refine lv_iconst (v := (-1)) X.1 X.2.1 dX12_tells_98 (by decide +kernel) ?_
                          exact B26_99 _ _ (-1) hS (lv_sub hl [0, 1, 2, 3, 4, 5, 6] rfl) (iv_of (iv_c (-1) (a := (-1)) (b := (-1)) (by decide +kernel)) (a' := (-1)) (b' := 1) (by decide +kernel))
                        refine lv_icmp_lt (tgt := 98) X.1 X.2.1 dX12_tells_84 (by decide) (fun c25 => ?_) (fun c25 => ?_)
                        · exact B28_98 _ _ hS (lv_sub hl [0, 1, 2, 3, 4, 6, 7] rfl)
                        · refine lv_iload X.1 X.2.1 dX12_tells_87 (lv_at hl 4 rfl) ?_
                          refine lv_iload X.1 X.2.1 dX12_tells_89 (lv_at hl 7 rfl) ?_
                          refine lv_icmp_gt (tgt := 98) X.1 X.2.1 dX12_tells_91 (by decide) (fun c29 => ?_) (fun c29 => ?_)
                          · exact B28_98 _ _ hS (lv_sub hl [0, 1, 2, 3, 4, 6, 7] rfl)
                          · refine lv_iconst (v := 1) X.1 X.2.1 dX12_tells_94 (by decide +kernel) ?_
                            refine lv_goto (tgt := 99) X.1 X.2.1 dX12_tells_95 (by decide) ?_
                            exact B26_99 _ _ 1 hS (lv_sub hl [0, 1, 2, 3, 4, 6, 7] rfl) (iv_of (iv_c 1 (a := 1) (b := 1) (by decide +kernel)) (a' := (-1)) (b' := 1) (by decide +kernel))
                exact B18_60 _ _ _ z12_5 z12_6 hS (lv_sub hl [1, 2, 3, 4, 5, 6, 7, 0] rfl) (iv_of (iv_le (b' := 8) (iv_ge_of c13) hz12_6 (iv_c 8 (a := 8) (b := 8) (by decide +kernel)) (by decide +kernel)) (a' := 0) (b' := 9) (by decide +kernel)) (Nat.le_refl _)
          exact B12_49 _ _ _ 0 0 hS (lv_sub hl [3, 4, 5, 6, 2, 1, 0] rfl) (iv_of (iv_c 0 (a := 0) (b := 0) (by decide +kernel)) (a' := 0) (b' := 9) (by decide +kernel)) (Nat.le_refl _)
        · refine lv_goto (tgt := 140) X.1 X.2.1 dX12_tells_27 (by decide) ?_
          exact B7_140 _ _ z2_1 z2_2 hS (lv_sub hl [0, 1, 2, 3] rfl) hz2_1
  exact B2_11 _ _ _ (-1) 0 0 hS (lv_sub hl [3, 2, 1, 0] rfl) (iv_of (iv_c (-1) (a := (-1)) (b := (-1)) (by decide +kernel)) (a' := (-1)) (b' := 30) (by decide +kernel)) (iv_of (iv_c 0 (a := 0) (b := 0) (by decide +kernel)) (a' := 0) (b' := 30) (by decide +kernel)) (Nat.le_refl _)

theorem ca_X12_tells_1   (X : CallFix p m c cc nL s args sg_tbl own) (hK : va_K D vwCl tys s) (hG : sgG (KT P) D vwCl (fun q : Nat => base ≤ q) tys ad ks H) (hC : sgC base s) (hS : va_S (fun q : Nat => base ≤ q) s.heap H locs) (hb : base ≤ s.heap.size) (hp4 : P.2.2.2.2.1 = true) (a0 : Nat) (h0 : isK ad ks 12 a0) (hl : Cond.methodLink own index yX12_tells ∈ sg_tbl) (hsize : ls.size = nL) (hst : st0 = [].reverse ++ .ref a0 :: rest) (hW : (rest.map fun v => v.category).sum ≤ 8) (hR : 3 ≤ R.frames ∧ 73 ≤ R.locals) (hf : cells ≤ R.cells ∧ slots ≤ R.slots) (hdg : decode cc pc = .ok (.invokevirtual index, 3)) (kk : ∀ (r : Int32) (H1 : Heap) (locs1 : List Loc), (fun r : Int32 => True) r → sgG (KT P) D vwCl (fun q : Nat => base ≤ q) tys ad ks H1 → va_S (fun q : Nat => base ≤ q) s.heap H1 locs1 → W p l e R s m args below meth c H1 locs1 cells slots Q (F0 m (pc + 3) ls (.int r :: rest))) : W p l e R s m args below meth c H locs cells slots Q (F0 m pc ls st0) :=
  sg_callVi X hK hG hC hS hb (m_X12_tells_1 l hp4 a0 h0) h0 (k := 12) (ci := 12) rfl (C := RX12) (T := TX12) (N := 53) rfl wl_9_103 wl_1_13 wl_9_101 wl_9_102 (n := 0) (by decide +kernel) rfl rfl rfl hl hsize hst hW hR hf hdg kk

set_option maxHeartbeats 8000000 in
set_option maxRecDepth 100000 in
theorem m_X12_move (l : Launch) {D : va_G} {base : Nat} {tys : List (ClassId × FieldType)} {ad ks : List Nat} {P : sgPm} (a0 : Nat) (h0 : isK ad ks 12 a0) (x1 : Int32) (x2 : Int32) (x3 : Int32) : sgMi l (KT P) D vwCl base tys ad ks yX12_move cX12_move 4 (some .int) ({ frames := 1, cells := 0, slots := 0, locals := 25 }) [.ref a0, .int x1, .int x2, .int x3] (fun r : Int32 => True) := by
  refine sg_ofW (by decide +kernel) (Nat.le_of_ble_eq_true rfl) (fun p e s m below meth c X hr hlk hb hK hC hG ls hl => ?_)
  have hS : va_S (fun q : Nat => base ≤ q) s.heap s.heap [] := va_S.rf
  have hl : lv_has ls 4 [(0, .ref a0), (1, .int x1), (2, .int x2), (3, .int x3)] := hl
  refine lv_aload_n X.1 X.2.1 dX12_move_0 rfl (lv_at hl 0 rfl) ?_
  refine lv_iconst (v := 0) X.1 X.2.1 dX12_move_1 (by decide +kernel) ?_
  refine pf_X12_0 X hK hG hS h0 wl_6_178 ⟨_, rfl, (iv_top _)⟩ dX12_move_2 (fun H locs hG hS ku1 ru1 => ?_)
  refine lv_aload_n X.1 X.2.1 dX12_move_5 rfl (lv_at hl 0 rfl) ?_
  refine lv_iload_n X.1 X.2.1 dX12_move_6 rfl (lv_at hl 1 rfl) ?_
  refine ca_X12_isGame X hK hG hC (fun _ h => h) hS hb a0 h0 x1 wl_8_195 hl.1 (rest := []) rfl (Nat.le_of_ble_eq_true rfl) ⟨Nat.le_of_ble_eq_true rfl, Nat.le_of_ble_eq_true rfl⟩ ⟨Nat.le_of_ble_eq_true rfl, Nat.le_of_ble_eq_true rfl⟩ dX12_move_7 (fun f2 locs hf2 hS => ?_)
  have B4_61 : ∀ (locs : List Loc) (ls : Array Slot), va_S (fun q : Nat => base ≤ q) s.heap H locs → lv_has ls 4 [] → W p l e (headSpec (Cond.code yX12_move cX12_move 4 (some .int) :: sg_tbl) ({ frames := 1, cells := 0, slots := 0, locals := 25 })).room s m #[.ref a0, .int x1, .int x2, .int x3] below meth c H locs 0 0 (MQ below (va_Qi (fun r (_ : Unit) => (fun r : Int32 => True) r) (fun _ => sgB (KT P) D vwCl base tys ad ks) (fun q : Nat => base ≤ q)) #[.ref a0, .int x1, .int x2, .int x3] s 0 0 (fun q : Nat => base ≤ q)) (F0 m 61 ls []) := by
    intro locs ls hS hl
    refine lv_ldcw X.1 X.2.1 X.2.2.2.1 (X.2.2.2.2 _ wl_8_190) dX12_move_61 ?_
    exact sg_iret X hr hlk hb hK hC hG hS trivial dX12_move_64
  refine lv_if_eq (tgt := 61) X.1 X.2.1 dX12_move_10 (by decide) (fun c3 => ?_) (fun c3 => ?_)
  · exact B4_61 _ _ hS (lv_sub hl [] rfl)
  · refine lv_iload_n X.1 X.2.1 dX12_move_13 rfl (lv_at hl 2 rfl) ?_
    obtain ⟨g5, eg5⟩ : ∃ y : Int64, y = (x2 : Int32).toInt64 := ⟨_, rfl⟩
    refine lv_i2l (v := g5) X.1 X.2.1 dX12_move_14 eg5.symm ?_
    refine lv_lconst (v := 0) X.1 X.2.1 dX12_move_15 (by decide +kernel) ?_
    refine lv_aload_n X.1 X.2.1 dX12_move_16 rfl (lv_at hl 0 rfl) ?_
    refine gf_X12_22 X hK hG h0 wl_6_200 dX12_move_17 (fun q6 hq6 kq6 => ?_)
    refine lv_iload_n X.1 X.2.1 dX12_move_20 rfl (lv_at hl 1 rfl) ?_
    refine al_53 X hK hG hq6 (iv_vpin (hf2.2 c3) (by decide +kernel)) dX12_move_21 (fun f7 hf7 => ?_)
    have of7 := hf7
    have hf7 : iv 0 16 f7 := sg_glr hf7
    refine lv_iconst (v := 1) X.1 X.2.1 dX12_move_22 (by decide +kernel) ?_
    refine lv_isub X.1 X.2.1 dX12_move_23 ?_
    refine lv_topi (fun f8 ef8 => ?_)
    obtain ⟨g9, eg9⟩ : ∃ y : Int64, y = (f8 : Int32).toInt64 := ⟨_, rfl⟩
    refine lv_i2l (v := g9) X.1 X.2.1 dX12_move_24 eg9.symm ?_
    refine ca_X12_isIn X hK hG hC (fun _ h => h) hS hb g5 0 g9 wl_7_119 hl.1 (rest := []) rfl (Nat.le_of_ble_eq_true rfl) ⟨Nat.le_of_ble_eq_true rfl, Nat.le_of_ble_eq_true rfl⟩ ⟨Nat.le_of_ble_eq_true rfl, Nat.le_of_ble_eq_true rfl⟩ dX12_move_25 (fun f10 locs hf10 hS => ?_)
    refine lv_if_eq (tgt := 61) X.1 X.2.1 dX12_move_28 (by decide) (fun c11 => ?_) (fun c11 => ?_)
    · exact B4_61 _ _ hS (lv_sub hl [] rfl)
    · have ilq12 : x2.toInt ≤ f8.toInt := sg_isinI (hf10.2 c11) eg5 eg9
      refine lv_iload_n X.1 X.2.1 dX12_move_31 rfl (lv_at hl 3 rfl) ?_
      obtain ⟨g13, eg13⟩ : ∃ y : Int64, y = (x3 : Int32).toInt64 := ⟨_, rfl⟩
      refine lv_i2l (v := g13) X.1 X.2.1 dX12_move_32 eg13.symm ?_
      refine lv_lconst (v := 0) X.1 X.2.1 dX12_move_33 (by decide +kernel) ?_
      refine lv_ldc2 X.1 X.2.1 X.2.2.2.1 (X.2.2.2.2 _ wl_8_189) dX12_move_34 ?_
      refine ca_X12_isIn X hK hG hC (fun _ h => h) hS hb g13 0 3 wl_7_119 hl.1 (rest := []) rfl (Nat.le_of_ble_eq_true rfl) ⟨Nat.le_of_ble_eq_true rfl, Nat.le_of_ble_eq_true rfl⟩ ⟨Nat.le_of_ble_eq_true rfl, Nat.le_of_ble_eq_true rfl⟩ dX12_move_37 (fun f14 locs hf14 hS => ?_)
      refine lv_if_eq (tgt := 61) X.1 X.2.1 dX12_move_40 (by decide) (fun c15 => ?_) (fun c15 => ?_)
      · exact B4_61 _ _ hS (lv_sub hl [] rfl)
      · refine lv_aload_n X.1 X.2.1 dX12_move_43 rfl (lv_at hl 0 rfl) ?_
        refine gf_X12_21 X hK hG h0 wl_6_199 dX12_move_44 (fun q16 hq16 kq16 => ?_)
        refine lv_iconst (v := 4) X.1 X.2.1 dX12_move_47 (by decide +kernel) ?_
        refine lv_bipush (v := 16) X.1 X.2.1 dX12_move_48 (by decide +kernel) ?_
        refine lv_iload_n X.1 X.2.1 dX12_move_50 rfl (lv_at hl 1 rfl) ?_
        refine lv_imul X.1 X.2.1 dX12_move_51 ?_
        refine lv_topi (fun f17 ef17 => ?_)
        refine lv_iload_n X.1 X.2.1 dX12_move_52 rfl (lv_at hl 2 rfl) ?_
        refine lv_iadd X.1 X.2.1 dX12_move_53 ?_
        refine lv_topi (fun f18 ef18 => ?_)
        refine lv_imul X.1 X.2.1 dX12_move_54 ?_
        refine lv_topi (fun f19 ef19 => ?_)
        refine lv_iload_n X.1 X.2.1 dX12_move_55 rfl (lv_at hl 3 rfl) ?_
        refine lv_iadd X.1 X.2.1 dX12_move_56 ?_
        refine lv_topi (fun f20 ef20 => ?_)
        refine al_52 X hK hG hq16 (iv_vpin (iv_add (a' := 0) (b' := 255) ef20 (iv_mul (a' := 0) (b' := 252) ef19 (iv_c 4 (a := 4) (b := 4) (by decide +kernel)) (iv_add (a' := 0) (b' := 63) ef18 (iv_mul (a' := 0) (b' := 48) ef17 (iv_c 16 (a := 16) (b := 16) (by decide +kernel)) (hf2.2 c3) (by decide +kernel)) (sg_isin (a := 0) (b := 15) (hf10.2 c11) eg5 (by decide +kernel) (sg_lbu eg9 (iv_sub (a' := (-1)) (b' := 15) ef8 hf7 (iv_c 1 (a := 1) (b := 1) (by decide +kernel)) (by decide +kernel)))) (by decide +kernel)) (by decide +kernel)) (sg_isin (a := 0) (b := 3) (hf14.2 c15) eg13 (by decide +kernel) (by decide +kernel)) (by decide +kernel)) (by decide +kernel)) dX12_move_57 (fun f21 hf21 => ?_)
        have of21 := hf21
        have hf21 : iv (-2147483648) 2147483647 f21 := iv_top f21
        refine lv_goto (tgt := 64) X.1 X.2.1 dX12_move_58 (by decide) ?_
        exact sg_iret X hr hlk hb hK hC hG hS trivial dX12_move_64

theorem ca_X12_move   (X : CallFix p m c cc nL s args sg_tbl own) (hK : va_K D vwCl tys s) (hG : sgG (KT P) D vwCl (fun q : Nat => base ≤ q) tys ad ks H) (hC : sgC base s) (hS : va_S (fun q : Nat => base ≤ q) s.heap H locs) (hb : base ≤ s.heap.size) (a0 : Nat) (h0 : isK ad ks 12 a0) (x1 : Int32) (x2 : Int32) (x3 : Int32) (hl : Cond.methodLink own index yX12_move ∈ sg_tbl) (hsize : ls.size = nL) (hst : st0 = [.int x1, .int x2, .int x3].reverse ++ .ref a0 :: rest) (hW : (rest.map fun v => v.category).sum ≤ 8) (hR : 2 ≤ R.frames ∧ 48 ≤ R.locals) (hf : cells ≤ R.cells ∧ slots ≤ R.slots) (hdg : decode cc pc = .ok (.invokevirtual index, 3)) (kk : ∀ (r : Int32) (H1 : Heap) (locs1 : List Loc), (fun r : Int32 => True) r → sgG (KT P) D vwCl (fun q : Nat => base ≤ q) tys ad ks H1 → va_S (fun q : Nat => base ≤ q) s.heap H1 locs1 → W p l e R s m args below meth c H1 locs1 cells slots Q (F0 m (pc + 3) ls (.int r :: rest))) : W p l e R s m args below meth c H locs cells slots Q (F0 m pc ls st0) :=
  sg_callVi X hK hG hC hS hb (m_X12_move l a0 h0 x1 x2 x3) h0 (k := 12) (ci := 12) rfl (C := RX12) (T := TX12) (N := 53) rfl wl_8_194 wl_1_13 wl_8_192 wl_8_193 (n := 3) (by decide +kernel) rfl rfl rfl hl hsize hst hW hR hf hdg kk

set_option maxHeartbeats 8000000 in
set_option maxRecDepth 100000 in
theorem m_X12_meant_1 (l : Launch) {D : va_G} {base : Nat} {tys : List (ClassId × FieldType)} {ad ks : List Nat} {P : sgPm} (hp4 : P.2.2.2.2.1 = true) (a0 : Nat) (h0 : isK ad ks 12 a0) : sgMi l (KT P) D vwCl base tys ad ks yX12_meant cX12_meant 1 (some .int) ({ frames := 0, cells := 0, slots := 0, locals := 0 }) [.ref a0] (fun r : Int32 => True) := by
  refine sg_ofW (by decide +kernel) (Nat.le_of_ble_eq_true rfl) (fun p e s m below meth c X hr hlk hb hK hC hG ls hl => ?_)
  have hS : va_S (fun q : Nat => base ≤ q) s.heap s.heap [] := va_S.rf
  have hl : lv_has ls 1 [(0, .ref a0)] := hl
  refine lv_aload_n X.1 X.2.1 dX12_meant_0 rfl (lv_at hl 0 rfl) ?_
  refine lv_iconst (v := 0) X.1 X.2.1 dX12_meant_1 (by decide +kernel) ?_
  refine pf_X12_0 X hK hG hS h0 wl_6_178 ⟨_, rfl, (iv_top _)⟩ dX12_meant_2 (fun H locs hG hS ku1 ru1 => ?_)
  refine lv_aload_n X.1 X.2.1 dX12_meant_5 rfl (lv_at hl 0 rfl) ?_
  refine gf_X12_23s X hK hG h0 hp4 wl_6_201 dX12_meant_6 (fun f2 hf2 kf2 => ?_)
  refine lv_if_ne (tgt := 16) X.1 X.2.1 dX12_meant_9 (by decide) (fun c3 => ?_) (fun c3 => ?_)
  · refine lv_aload_n X.1 X.2.1 dX12_meant_16 rfl (lv_at hl 0 rfl) ?_
    refine gf_X12_32 X hK hG h0 wl_6_210 dX12_meant_17 (fun q4 hq4 kq4 => ?_)
    refine lv_bipush (v := 7) X.1 X.2.1 dX12_meant_20 (by decide +kernel) ?_
    refine al_54 X hK hG hq4 (iv_vpin (iv_c 7 (a := 7) (b := 7) (by decide +kernel)) (by decide +kernel)) dX12_meant_22 (fun f5 hf5 => ?_)
    have hf5 := sg_nw_now hf5
    have of5 := hf5
    have hf5 : iv (-2147483648) 2147483647 f5 := sg_sp_now hf5 (iv_c 7 (a := 7) (b := 7) (by decide +kernel)) (by decide +kernel) rfl
    exact sg_iret X hr hlk hb hK hC hG hS trivial dX12_meant_23
  · exact ((iv_no (a := 1) (b := 0) (iv_eqm c3 hf2 (iv_c 0 (a := 0) (b := 0) (by decide +kernel)) (by decide +kernel)) (by decide +kernel))).elim

theorem ca_X12_meant_1   (X : CallFix p m c cc nL s args sg_tbl own) (hK : va_K D vwCl tys s) (hG : sgG (KT P) D vwCl (fun q : Nat => base ≤ q) tys ad ks H) (hC : sgC base s) (hS : va_S (fun q : Nat => base ≤ q) s.heap H locs) (hb : base ≤ s.heap.size) (hp4 : P.2.2.2.2.1 = true) (a0 : Nat) (h0 : isK ad ks 12 a0) (hl : Cond.methodLink own index yX12_meant ∈ sg_tbl) (hsize : ls.size = nL) (hst : st0 = [].reverse ++ .ref a0 :: rest) (hW : (rest.map fun v => v.category).sum ≤ 8) (hR : 1 ≤ R.frames ∧ 20 ≤ R.locals) (hf : cells ≤ R.cells ∧ slots ≤ R.slots) (hdg : decode cc pc = .ok (.invokevirtual index, 3)) (kk : ∀ (r : Int32) (H1 : Heap) (locs1 : List Loc), (fun r : Int32 => True) r → sgG (KT P) D vwCl (fun q : Nat => base ≤ q) tys ad ks H1 → va_S (fun q : Nat => base ≤ q) s.heap H1 locs1 → W p l e R s m args below meth c H1 locs1 cells slots Q (F0 m (pc + 3) ls (.int r :: rest))) : W p l e R s m args below meth c H locs cells slots Q (F0 m pc ls st0) :=
  sg_callVi X hK hG hC hS hb (m_X12_meant_1 l hp4 a0 h0) h0 (k := 12) (ci := 12) rfl (C := RX12) (T := TX12) (N := 53) rfl wl_9_38 wl_1_13 wl_9_36 wl_9_37 (n := 0) (by decide +kernel) rfl rfl rfl hl hsize hst hW hR hf hdg kk

set_option maxHeartbeats 8000000 in
set_option maxRecDepth 100000 in
theorem m_X12_isNight_1 (l : Launch) {D : va_G} {base : Nat} {tys : List (ClassId × FieldType)} {ad ks : List Nat} {P : sgPm} {Hx : Heap} (hp4 : P.2.2.2.2.1 = true) (a0 : Nat) (h0 : isK ad ks 12 a0) : sgPi l (KT P) D vwCl base tys ad ks Hx yX12_isNight cX12_isNight 1 (some .boolean) ({ frames := 1, cells := 0, slots := 0, locals := 21 }) [.ref a0] (fun r : Int32 => iv 0 1 r) := by
  refine sg_ofP (Pq := fun Hx => va_Qi (fun r (_ : Unit) => (fun r : Int32 => iv 0 1 r) r) (fun _ t => t.heap = Hx) (fun _ : Nat => False)) (by decide +kernel) (Nat.le_of_ble_eq_true rfl) (fun p e s m below meth c X hr hlk hb hK hC hG ls hl => ?_)
  have hS : va_S (fun _ : Nat => False) s.heap s.heap [] := va_S.rf
  have hl : lv_has ls 1 [(0, .ref a0)] := hl
  refine lv_aload_n X.1 X.2.1 dX12_isNight_0 rfl (lv_at hl 0 rfl) ?_
  refine lv_aload_n X.1 X.2.1 dX12_isNight_1 rfl (lv_at hl 0 rfl) ?_
  refine gf_X12_32 X hK hG h0 wl_6_210 dX12_isNight_2 (fun q1 hq1 kq1 => ?_)
  refine ca_X12_isOpen_1 X hK hG hC (fun _ h => h.elim) hS hb hp4 a0 h0 q1 hq1 wl_8_94 hl.1 (rest := []) rfl (Nat.le_of_ble_eq_true rfl) ⟨Nat.le_of_ble_eq_true rfl, Nat.le_of_ble_eq_true rfl⟩ ⟨Nat.le_of_ble_eq_true rfl, Nat.le_of_ble_eq_true rfl⟩ dX12_isNight_5 (fun f2 locs hf2 hS => ?_)
  have B4_24 : ∀ (locs : List Loc) (ls : Array Slot), va_S (fun _ : Nat => False) s.heap s.heap locs → lv_has ls 1 [] → W p l e (headSpec (Cond.code yX12_isNight cX12_isNight 1 (some .boolean) :: sg_tbl) ({ frames := 1, cells := 0, slots := 0, locals := 21 })).room s m #[.ref a0] below meth c s.heap locs 0 0 (MQ below (va_Qi (fun r (_ : Unit) => (fun r : Int32 => iv 0 1 r) r) (fun _ t => t.heap = s.heap) (fun _ : Nat => False)) #[.ref a0] s 0 0 (fun _ : Nat => False)) (F0 m 24 ls []) := by
    intro locs ls hS hl
    refine lv_iconst (v := 0) X.1 X.2.1 dX12_isNight_24 (by decide +kernel) ?_
    exact sg_zretP X hr (sg_zn (iv_of (iv_c 0 (a := 0) (b := 0) (by decide +kernel)) (a' := 0) (b' := 1) (by decide +kernel))) hlk hS (iv_of (iv_c 0 (a := 0) (b := 0) (by decide +kernel)) (a' := 0) (b' := 1) (by decide +kernel)) dX12_isNight_25
  refine lv_if_eq (tgt := 24) X.1 X.2.1 dX12_isNight_8 (by decide) (fun c3 => ?_) (fun c3 => ?_)
  · exact B4_24 _ _ hS (lv_sub hl [] rfl)
  · refine lv_aload_n X.1 X.2.1 dX12_isNight_11 rfl (lv_at hl 0 rfl) ?_
    refine gg_X12_32 X hK hG h0 wl_6_210 kq1 dX12_isNight_12 ?_
    refine lv_iconst (v := 2) X.1 X.2.1 dX12_isNight_15 (by decide +kernel) ?_
    refine al_54 X hK hG hq1 (iv_vpin (iv_c 2 (a := 2) (b := 2) (by decide +kernel)) (by decide +kernel)) dX12_isNight_16 (fun f5 hf5 => ?_)
    have hf5 := sg_nw_now hf5
    have of5 := hf5
    have hf5 : iv 0 1 f5 := sg_sp_now hf5 (iv_c 2 (a := 2) (b := 2) (by decide +kernel)) (by decide +kernel) rfl
    refine lv_if_ne (tgt := 24) X.1 X.2.1 dX12_isNight_17 (by decide) (fun c6 => ?_) (fun c6 => ?_)
    · exact B4_24 _ _ hS (lv_sub hl [] rfl)
    · refine lv_iconst (v := 1) X.1 X.2.1 dX12_isNight_20 (by decide +kernel) ?_
      refine lv_goto (tgt := 25) X.1 X.2.1 dX12_isNight_21 (by decide) ?_
      exact sg_zretP X hr (sg_zn (iv_of (iv_c 1 (a := 1) (b := 1) (by decide +kernel)) (a' := 0) (b' := 1) (by decide +kernel))) hlk hS (iv_of (iv_c 1 (a := 1) (b := 1) (by decide +kernel)) (a' := 0) (b' := 1) (by decide +kernel)) dX12_isNight_25

theorem ca_X12_isNight_1   (X : CallFix p m c cc nL s args sg_tbl own) (hK : va_K D vwCl tys s) (hG : sgG (KT P) D vwCl (fun q : Nat => base ≤ q) tys ad ks H) (hC : sgC base s) (hA : ∀ q : Nat, A q → base ≤ q) (hS : va_S A s.heap H locs) (hb : base ≤ s.heap.size) (hp4 : P.2.2.2.2.1 = true) (a0 : Nat) (h0 : isK ad ks 12 a0) (hl : Cond.methodLink own index yX12_isNight ∈ sg_tbl) (hsize : ls.size = nL) (hst : st0 = [].reverse ++ .ref a0 :: rest) (hW : (rest.map fun v => v.category).sum ≤ 8) (hR : 2 ≤ R.frames ∧ 41 ≤ R.locals) (hf : cells ≤ R.cells ∧ slots ≤ R.slots) (hdg : decode cc pc = .ok (.invokevirtual index, 3)) (kk : ∀ (r : Int32) (locs1 : List Loc), (fun r : Int32 => iv 0 1 r) r → va_S A s.heap H locs1 → W p l e R s m args below meth c H locs1 cells slots Q (F0 m (pc + 3) ls (.int r :: rest))) : W p l e R s m args below meth c H locs cells slots Q (F0 m pc ls st0) :=
  sg_callPVi X hK hG hC hA hS hb (m_X12_isNight_1 l hp4 a0 h0) h0 (k := 12) (ci := 12) rfl (C := RX12) (T := TX12) (N := 53) rfl wl_9_22 wl_1_13 wl_9_21 wl_0_98 (n := 0) (by decide +kernel) rfl rfl rfl hl hsize hst hW hR hf hdg kk

set_option maxHeartbeats 8000000 in
set_option maxRecDepth 100000 in
theorem m_X12_copy_i (l : Launch) {D : va_G} {base : Nat} {tys : List (ClassId × FieldType)} {ad ks : List Nat} {P : sgPm} (a0 : Nat) (h0 : isK ad ks 54 a0) (a1 : Nat) (h1 : isK ad ks 65 a1) : sgMv l (KT P) D vwCl base tys ad ks yX12_copy cX12_copy 4 none ({ frames := 0, cells := 0, slots := 0, locals := 0 }) [.ref a0, .ref a1] := by
  refine sg_ofW (by decide +kernel) (Nat.le_of_ble_eq_true rfl) (fun p e s m below meth c X hr hlk hb hK hC hG ls hl => ?_)
  have hS : va_S (fun q : Nat => base ≤ q) s.heap s.heap [] := va_S.rf
  have hl : lv_has ls 4 [(0, .ref a0), (1, .ref a1)] := hl
  refine lv_bipush (v := 9) X.1 X.2.1 dX12_copy_0 (by decide +kernel) ?_
  refine lv_iconst (v := 4) X.1 X.2.1 dX12_copy_2 (by decide +kernel) ?_
  refine lv_aload_n X.1 X.2.1 dX12_copy_3 rfl (lv_at hl 0 rfl) ?_
  refine lv_bipush (v := 8) X.1 X.2.1 dX12_copy_4 (by decide +kernel) ?_
  refine al_54 X hK hG h0 (iv_vpin (iv_c 8 (a := 8) (b := 8) (by decide +kernel)) (by decide +kernel)) dX12_copy_6 (fun f1 hf1 => ?_)
  have hf1 := sg_nw_now hf1
  have of1 := hf1
  have hf1 : iv 0 60 f1 := sg_sp_now hf1 (iv_c 8 (a := 8) (b := 8) (by decide +kernel)) (by decide +kernel) rfl
  refine lv_imul X.1 X.2.1 dX12_copy_7 ?_
  refine lv_topi (fun f2 ef2 => ?_)
  refine lv_iadd X.1 X.2.1 dX12_copy_8 ?_
  refine lv_topi (fun f3 ef3 => ?_)
  refine lv_istore_n (lv' := [(2, .int f3), (0, .ref a0), (1, .ref a1)]) X.1 X.2.1 dX12_copy_9 rfl hl (by decide) rfl (fun ls hl => ?_)
  refine lv_iconst (v := 0) X.1 X.2.1 dX12_copy_10 (by decide +kernel) ?_
  refine lv_istore_n (lv' := [(3, .int 0), (2, .int f3), (0, .ref a0), (1, .ref a1)]) X.1 X.2.1 dX12_copy_11 rfl hl (by decide) rfl (fun ls hl => ?_)
  have B4_12 : ∀ (N : Nat) (H : Heap) (locs : List Loc) (ls : Array Slot) (z4_3 : Int32), sgG (KT P) D vwCl (fun q : Nat => base ≤ q) tys ad ks H → va_S (fun q : Nat => base ≤ q) s.heap H locs → lv_has ls 4 [(0, .ref a0), (1, .ref a1), (2, .int f3), (3, .int z4_3)] → iv 0 249 z4_3 → (250 - z4_3.toInt).toNat ≤ N → W p l e (headSpec (Cond.code yX12_copy cX12_copy 4 none :: sg_tbl) ({ frames := 0, cells := 0, slots := 0, locals := 0 })).room s m #[.ref a0, .ref a1] below meth c H locs 0 0 (MQ below (va_Qv (fun (_ : Unit) => True) (fun _ => sgB (KT P) D vwCl base tys ad ks) (fun q : Nat => base ≤ q)) #[.ref a0, .ref a1] s 0 0 (fun q : Nat => base ≤ q)) (F0 m 12 ls []) := by
    intro N; induction N with
    | zero =>
      intro H locs ls z4_3 hG hS hl hz4_3 hN
      exact absurd hN (by have := iv_up hz4_3; omega)
    | succ N ih4 =>
      intro H locs ls z4_3 hG hS hl hz4_3 hN4
      refine lv_iload_n X.1 X.2.1 dX12_copy_12 rfl (lv_at hl 3 rfl) ?_
      refine lv_iload_n X.1 X.2.1 dX12_copy_13 rfl (lv_at hl 2 rfl) ?_
      refine lv_icmp_ge (tgt := 29) X.1 X.2.1 dX12_copy_14 (by decide) (fun c5 => ?_) (fun c5 => ?_)
      · exact sg_vret X hr hlk hb hK hC hG hS dX12_copy_29
      · refine lv_aload_n X.1 X.2.1 dX12_copy_17 rfl (lv_at hl 1 rfl) ?_
        refine lv_iload_n X.1 X.2.1 dX12_copy_18 rfl (lv_at hl 3 rfl) ?_
        refine lv_aload_n X.1 X.2.1 dX12_copy_19 rfl (lv_at hl 0 rfl) ?_
        refine lv_iload_n X.1 X.2.1 dX12_copy_20 rfl (lv_at hl 3 rfl) ?_
        refine al_54 X hK hG h0 (iv_vpin (iv_lt (b' := 248) (iv_gt_of c5) hz4_3 (iv_add (a' := 9) (b' := 249) ef3 (iv_c 9 (a := 9) (b := 9) (by decide +kernel)) (iv_mul (a' := 0) (b' := 240) ef2 (iv_c 4 (a := 4) (b := 4) (by decide +kernel)) hf1 (by decide +kernel)) (by decide +kernel)) (by decide +kernel)) (by decide +kernel)) dX12_copy_21 (fun f6 hf6 => ?_)
        have hf6 := sg_nw_now hf6
        have of6 := hf6
        have hf6 : iv (-2147483648) 2147483647 f6 := sg_spa_now hf6
        refine as_65 X hK hG hS h1 (iv_vpin (iv_lt (b' := 248) (iv_gt_of c5) hz4_3 (iv_add (a' := 9) (b' := 249) ef3 (iv_c 9 (a := 9) (b := 9) (by decide +kernel)) (iv_mul (a' := 0) (b' := 240) ef2 (iv_c 4 (a := 4) (b := 4) (by decide +kernel)) hf1 (by decide +kernel)) (by decide +kernel)) (by decide +kernel)) (by decide +kernel)) of6 dX12_copy_22 (fun H locs hG hS ru7 => ?_)
        obtain ⟨y8, ey8⟩ : ∃ y : Int32, y = z4_3 + Int32.ofInt 1 := ⟨_, rfl⟩
        refine lv_iinc (v := y8) (lv' := [(3, .int y8), (0, .ref a0), (1, .ref a1), (2, .int f3)]) X.1 X.2.1 dX12_copy_23 hl (k := 3) rfl ey8.symm (by decide) rfl (fun ls hl => ?_)
        refine lv_goto (tgt := 12) X.1 X.2.1 dX12_copy_26 (by decide) ?_
        exact ih4 H _ _ y8 hG hS (lv_sub hl [1, 2, 3, 0] rfl) (iv_of (iv_add (a' := 1) (b' := 249) ey8 (iv_lt (b' := 248) (iv_gt_of c5) hz4_3 (iv_add (a' := 9) (b' := 249) ef3 (iv_c 9 (a := 9) (b := 9) (by decide +kernel)) (iv_mul (a' := 0) (b' := 240) ef2 (iv_c 4 (a := 4) (b := 4) (by decide +kernel)) hf1 (by decide +kernel)) (by decide +kernel)) (by decide +kernel)) (iv_c _ (a := 1) (b := 1) (by decide +kernel)) (by decide +kernel)) (a' := 0) (b' := 249) (by decide +kernel)) (iv_stepU ey8 (iv_lt (b' := 248) (iv_gt_of c5) hz4_3 (iv_add (a' := 9) (b' := 249) ef3 (iv_c 9 (a := 9) (b := 9) (by decide +kernel)) (iv_mul (a' := 0) (b' := 240) ef2 (iv_c 4 (a := 4) (b := 4) (by decide +kernel)) hf1 (by decide +kernel)) (by decide +kernel)) (by decide +kernel)) (by decide +kernel) hN4)
  exact B4_12 _ s.heap _ _ 0 hG hS (lv_sub hl [2, 3, 1, 0] rfl) (iv_of (iv_c 0 (a := 0) (b := 0) (by decide +kernel)) (a' := 0) (b' := 249) (by decide +kernel)) (Nat.le_refl _)

theorem ca_X12_copy_i   (X : CallFix p m c cc nL s args sg_tbl own) (hK : va_K D vwCl tys s) (hG : sgG (KT P) D vwCl (fun q : Nat => base ≤ q) tys ad ks H) (hC : sgC base s) (hS : va_S (fun q : Nat => base ≤ q) s.heap H locs) (hb : base ≤ s.heap.size) (a0 : Nat) (h0 : isK ad ks 54 a0) (a1 : Nat) (h1 : isK ad ks 65 a1) (hl : Cond.methodLink own index yX12_copy ∈ sg_tbl) (hsize : ls.size = nL) (hst : st0 = [.ref a0, .ref a1].reverse ++ rest) (hW : (rest.map fun v => v.category).sum ≤ 8) (hR : 1 ≤ R.frames ∧ 23 ≤ R.locals) (hf : cells ≤ R.cells ∧ slots ≤ R.slots) (hdg : decode cc pc = .ok (.invokestatic index, 3)) (kk : ∀ (H1 : Heap) (locs1 : List Loc), sgG (KT P) D vwCl (fun q : Nat => base ≤ q) tys ad ks H1 → va_S (fun q : Nat => base ≤ q) s.heap H1 locs1 → W p l e R s m args below meth c H1 locs1 cells slots Q (F0 m (pc + 3) ls rest)) : W p l e R s m args below meth c H locs cells slots Q (F0 m pc ls st0) :=
  sg_callSv X hK hG hC hS hb (m_X12_copy_i l a0 h0 a1 h1) wl_8_205 wl_1_13 wl_8_204 (n := 2) (by decide +kernel) rfl rfl rfl hl hsize hst hW hR hf hdg kk
end
