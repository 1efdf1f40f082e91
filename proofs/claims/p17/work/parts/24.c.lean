abbrev cX11_alike : ByteArray := prog_1_method_46_code
def yX11_alike : MethodName := ⟨RX11, "alike", "(I)I"⟩
abbrev cX11_back : ByteArray := prog_1_method_54_code
def yX11_back : MethodName := ⟨RX11, "back", "()I"⟩
abbrev cX11_count : ByteArray := prog_1_method_55_code
def yX11_count : MethodName := ⟨RX11, "count", "(I)I"⟩
abbrev cX11_fault : ByteArray := prog_1_method_4_code
def yX11_fault : MethodName := ⟨RX11, "fault", "(I)I"⟩
abbrev cX11_fit : ByteArray := prog_1_method_44_code
def yX11_fit : MethodName := ⟨RX11, "fit", "(I)I"⟩
abbrev cX11_image : ByteArray := prog_1_method_53_code
def yX11_image : MethodName := ⟨RX11, "image", "()I"⟩
abbrev cX11_leavesAll : ByteArray := prog_1_method_48_code
def yX11_leavesAll : MethodName := ⟨RX11, "leavesAll", "(I)Z"⟩
abbrev cX11_longest : ByteArray := prog_1_method_52_code
def yX11_longest : MethodName := ⟨RX11, "longest", "()I"⟩
abbrev cX11_odds : ByteArray := prog_1_method_49_code
def yX11_odds : MethodName := ⟨RX11, "odds", "(II)I"⟩
abbrev cX11_openings : ByteArray := prog_1_method_47_code
def yX11_openings : MethodName := ⟨RX11, "openings", "()I"⟩
abbrev cX11_room : ByteArray := prog_1_method_51_code
def yX11_room : MethodName := ⟨RX11, "room", "()I"⟩
abbrev cX11_tells : ByteArray := prog_1_method_45_code
def yX11_tells : MethodName := ⟨RX11, "tells", "()I"⟩
abbrev cX11_where : ByteArray := prog_1_method_50_code
def yX11_where : MethodName := ⟨RX11, "where", "(I)I"⟩
abbrev cX8_face : ByteArray := prog_10_method_2_code
def yX8_face : MethodName := ⟨RX8, "face", "(LLawnAhead$Ground;LLawnAhead$Law;)V"⟩
theorem dX11_alike_0 : decode cX11_alike 0 = .ok (.aload_n 0, 1) := by decide +kernel
theorem dX11_alike_1 : decode cX11_alike 1 = .ok (.invokevirtual 155, 3) := by decide +kernel
theorem dX11_alike_4 : decode cX11_alike 4 = .ok (.ifCond .ne 12, 3) := by decide +kernel
theorem dX11_alike_7 : decode cX11_alike 7 = .ok (.iload_n 1, 1) := by decide +kernel
theorem dX11_alike_8 : decode cX11_alike 8 = .ok (.ifCond .lt 8, 3) := by decide +kernel
theorem dX11_alike_11 : decode cX11_alike 11 = .ok (.iload_n 1, 1) := by decide +kernel
theorem dX11_alike_12 : decode cX11_alike 12 = .ok (.iconst 1, 1) := by decide +kernel
theorem dX11_alike_13 : decode cX11_alike 13 = .ok (.if_icmp .le 5, 3) := by decide +kernel
theorem dX11_alike_16 : decode cX11_alike 16 = .ok (.iconst (-1), 1) := by decide +kernel
theorem dX11_alike_17 : decode cX11_alike 17 = .ok (.ireturn, 1) := by decide +kernel
theorem dX11_alike_18 : decode cX11_alike 18 = .ok (.iconst 0, 1) := by decide +kernel
theorem dX11_alike_19 : decode cX11_alike 19 = .ok (.istore_n 2, 1) := by decide +kernel
theorem dX11_alike_20 : decode cX11_alike 20 = .ok (.aload_n 0, 1) := by decide +kernel
theorem dX11_alike_21 : decode cX11_alike 21 = .ok (.getfield 33, 3) := by decide +kernel
theorem dX11_alike_24 : decode cX11_alike 24 = .ok (.getfield 169, 3) := by decide +kernel
theorem dX11_alike_27 : decode cX11_alike 27 = .ok (.istore_n 3, 1) := by decide +kernel
theorem dX11_alike_28 : decode cX11_alike 28 = .ok (.iconst 0, 1) := by decide +kernel
theorem dX11_alike_29 : decode cX11_alike 29 = .ok (.istore 4, 2) := by decide +kernel
theorem dX11_alike_31 : decode cX11_alike 31 = .ok (.iload 4, 2) := by decide +kernel
theorem dX11_alike_33 : decode cX11_alike 33 = .ok (.aload_n 0, 1) := by decide +kernel
theorem dX11_alike_34 : decode cX11_alike 34 = .ok (.getfield 47, 3) := by decide +kernel
theorem dX11_alike_37 : decode cX11_alike 37 = .ok (.invokevirtual 376, 3) := by decide +kernel
theorem dX11_alike_40 : decode cX11_alike 40 = .ok (.if_icmp .ge 49, 3) := by decide +kernel
theorem dX11_alike_43 : decode cX11_alike 43 = .ok (.aload_n 0, 1) := by decide +kernel
theorem dX11_alike_44 : decode cX11_alike 44 = .ok (.getfield 47, 3) := by decide +kernel
theorem dX11_alike_47 : decode cX11_alike 47 = .ok (.aload_n 0, 1) := by decide +kernel
theorem dX11_alike_48 : decode cX11_alike 48 = .ok (.getfield 33, 3) := by decide +kernel
theorem dX11_alike_51 : decode cX11_alike 51 = .ok (.getfield 169, 3) := by decide +kernel
theorem dX11_alike_54 : decode cX11_alike 54 = .ok (.iload 4, 2) := by decide +kernel
theorem dX11_alike_56 : decode cX11_alike 56 = .ok (.invokevirtual 379, 3) := by decide +kernel
theorem dX11_alike_59 : decode cX11_alike 59 = .ok (.istore 5, 2) := by decide +kernel
theorem dX11_alike_61 : decode cX11_alike 61 = .ok (.iload 5, 2) := by decide +kernel
theorem dX11_alike_63 : decode cX11_alike 63 = .ok (.aload_n 0, 1) := by decide +kernel
theorem dX11_alike_64 : decode cX11_alike 64 = .ok (.getfield 33, 3) := by decide +kernel
theorem dX11_alike_67 : decode cX11_alike 67 = .ok (.getfield 169, 3) := by decide +kernel
theorem dX11_alike_70 : decode cX11_alike 70 = .ok (.if_icmp .ne 6, 3) := by decide +kernel
theorem dX11_alike_73 : decode cX11_alike 73 = .ok (.iinc 2 1, 3) := by decide +kernel
theorem dX11_alike_76 : decode cX11_alike 76 = .ok (.iload_n 3, 1) := by decide +kernel
theorem dX11_alike_77 : decode cX11_alike 77 = .ok (.iload 5, 2) := by decide +kernel
theorem dX11_alike_79 : decode cX11_alike 79 = .ok (.invokestatic 382, 3) := by decide +kernel
theorem dX11_alike_82 : decode cX11_alike 82 = .ok (.istore_n 3, 1) := by decide +kernel
theorem dX11_alike_83 : decode cX11_alike 83 = .ok (.iinc 4 1, 3) := by decide +kernel
theorem dX11_alike_86 : decode cX11_alike 86 = .ok (.goto (-55), 3) := by decide +kernel
theorem dX11_alike_89 : decode cX11_alike 89 = .ok (.iload_n 1, 1) := by decide +kernel
theorem dX11_alike_90 : decode cX11_alike 90 = .ok (.ifCond .ne 7, 3) := by decide +kernel
theorem dX11_alike_93 : decode cX11_alike 93 = .ok (.iload_n 2, 1) := by decide +kernel
theorem dX11_alike_94 : decode cX11_alike 94 = .ok (.goto 4, 3) := by decide +kernel
theorem dX11_alike_97 : decode cX11_alike 97 = .ok (.iload_n 3, 1) := by decide +kernel
theorem dX11_alike_98 : decode cX11_alike 98 = .ok (.ireturn, 1) := by decide +kernel
theorem dX11_back_0 : decode cX11_back 0 = .ok (.aload_n 0, 1) := by decide +kernel
theorem dX11_back_1 : decode cX11_back 1 = .ok (.getfield 40, 3) := by decide +kernel
theorem dX11_back_4 : decode cX11_back 4 = .ok (.aload_n 0, 1) := by decide +kernel
theorem dX11_back_5 : decode cX11_back 5 = .ok (.getfield 33, 3) := by decide +kernel
theorem dX11_back_8 : decode cX11_back 8 = .ok (.invokevirtual 408, 3) := by decide +kernel
theorem dX11_back_11 : decode cX11_back 11 = .ok (.ifCond .eq 13, 3) := by decide +kernel
theorem dX11_back_14 : decode cX11_back 14 = .ok (.aload_n 0, 1) := by decide +kernel
theorem dX11_back_15 : decode cX11_back 15 = .ok (.getfield 33, 3) := by decide +kernel
theorem dX11_back_18 : decode cX11_back 18 = .ok (.getfield 177, 3) := by decide +kernel
theorem dX11_back_21 : decode cX11_back 21 = .ok (.goto 4, 3) := by decide +kernel
theorem dX11_back_24 : decode cX11_back 24 = .ok (.iconst (-1), 1) := by decide +kernel
theorem dX11_back_25 : decode cX11_back 25 = .ok (.ireturn, 1) := by decide +kernel
theorem dX11_count_0 : decode cX11_count 0 = .ok (.iload_n 1, 1) := by decide +kernel
theorem dX11_count_1 : decode cX11_count 1 = .ok (.tableswitch 206 0 15 #[79, 87, 98, 103, 108, 116, 121, 129, 137, 153, 161, 169, 174, 182, 190, 198], 79) := by decide +kernel
theorem dX11_count_80 : decode cX11_count 80 = .ok (.aload_n 0, 1) := by decide +kernel
theorem dX11_count_81 : decode cX11_count 81 = .ok (.getfield 47, 3) := by decide +kernel
theorem dX11_count_84 : decode cX11_count 84 = .ok (.getfield 148, 3) := by decide +kernel
theorem dX11_count_87 : decode cX11_count 87 = .ok (.ireturn, 1) := by decide +kernel
theorem dX11_count_88 : decode cX11_count 88 = .ok (.aload_n 0, 1) := by decide +kernel
theorem dX11_count_89 : decode cX11_count 89 = .ok (.getfield 33, 3) := by decide +kernel
theorem dX11_count_92 : decode cX11_count 92 = .ok (.getfield 169, 3) := by decide +kernel
theorem dX11_count_95 : decode cX11_count 95 = .ok (.invokestatic 206, 3) := by decide +kernel
theorem dX11_count_98 : decode cX11_count 98 = .ok (.ireturn, 1) := by decide +kernel
theorem dX11_count_99 : decode cX11_count 99 = .ok (.aload_n 0, 1) := by decide +kernel
theorem dX11_count_100 : decode cX11_count 100 = .ok (.getfield 115, 3) := by decide +kernel
theorem dX11_count_103 : decode cX11_count 103 = .ok (.ireturn, 1) := by decide +kernel
theorem dX11_count_104 : decode cX11_count 104 = .ok (.aload_n 0, 1) := by decide +kernel
theorem dX11_count_105 : decode cX11_count 105 = .ok (.getfield 119, 3) := by decide +kernel
theorem dX11_count_108 : decode cX11_count 108 = .ok (.ireturn, 1) := by decide +kernel
theorem dX11_count_109 : decode cX11_count 109 = .ok (.aload_n 0, 1) := by decide +kernel
theorem dX11_count_110 : decode cX11_count 110 = .ok (.getfield 10, 3) := by decide +kernel
theorem dX11_count_113 : decode cX11_count 113 = .ok (.getfield 101, 3) := by decide +kernel
theorem dX11_count_116 : decode cX11_count 116 = .ok (.ireturn, 1) := by decide +kernel
theorem dX11_count_117 : decode cX11_count 117 = .ok (.aload_n 0, 1) := by decide +kernel
theorem dX11_count_118 : decode cX11_count 118 = .ok (.getfield 93, 3) := by decide +kernel
theorem dX11_count_121 : decode cX11_count 121 = .ok (.ireturn, 1) := by decide +kernel
theorem dX11_count_122 : decode cX11_count 122 = .ok (.aload_n 0, 1) := by decide +kernel
theorem dX11_count_123 : decode cX11_count 123 = .ok (.getfield 33, 3) := by decide +kernel
theorem dX11_count_126 : decode cX11_count 126 = .ok (.getfield 177, 3) := by decide +kernel
theorem dX11_count_129 : decode cX11_count 129 = .ok (.ireturn, 1) := by decide +kernel
theorem dX11_count_130 : decode cX11_count 130 = .ok (.aload_n 0, 1) := by decide +kernel
theorem dX11_count_131 : decode cX11_count 131 = .ok (.getfield 33, 3) := by decide +kernel
theorem dX11_count_134 : decode cX11_count 134 = .ok (.getfield 197, 3) := by decide +kernel
theorem dX11_count_137 : decode cX11_count 137 = .ok (.ireturn, 1) := by decide +kernel
theorem dX11_count_138 : decode cX11_count 138 = .ok (.aload_n 0, 1) := by decide +kernel
theorem dX11_count_139 : decode cX11_count 139 = .ok (.getfield 33, 3) := by decide +kernel
theorem dX11_count_142 : decode cX11_count 142 = .ok (.getfield 193, 3) := by decide +kernel
theorem dX11_count_145 : decode cX11_count 145 = .ok (.ifCond .eq 7, 3) := by decide +kernel
theorem dX11_count_148 : decode cX11_count 148 = .ok (.iconst 1, 1) := by decide +kernel
theorem dX11_count_149 : decode cX11_count 149 = .ok (.goto 4, 3) := by decide +kernel
theorem dX11_count_152 : decode cX11_count 152 = .ok (.iconst 0, 1) := by decide +kernel
theorem dX11_count_153 : decode cX11_count 153 = .ok (.ireturn, 1) := by decide +kernel
theorem dX11_count_154 : decode cX11_count 154 = .ok (.aload_n 0, 1) := by decide +kernel
theorem dX11_count_155 : decode cX11_count 155 = .ok (.getfield 33, 3) := by decide +kernel
theorem dX11_count_158 : decode cX11_count 158 = .ok (.getfield 200, 3) := by decide +kernel
theorem dX11_count_161 : decode cX11_count 161 = .ok (.ireturn, 1) := by decide +kernel
theorem dX11_count_162 : decode cX11_count 162 = .ok (.aload_n 0, 1) := by decide +kernel
theorem dX11_count_163 : decode cX11_count 163 = .ok (.getfield 33, 3) := by decide +kernel
theorem dX11_count_166 : decode cX11_count 166 = .ok (.getfield 203, 3) := by decide +kernel
theorem dX11_count_169 : decode cX11_count 169 = .ok (.ireturn, 1) := by decide +kernel
theorem dX11_count_170 : decode cX11_count 170 = .ok (.aload_n 0, 1) := by decide +kernel
theorem dX11_count_171 : decode cX11_count 171 = .ok (.getfield 187, 3) := by decide +kernel
theorem dX11_count_174 : decode cX11_count 174 = .ok (.ireturn, 1) := by decide +kernel
theorem dX11_count_175 : decode cX11_count 175 = .ok (.aload_n 0, 1) := by decide +kernel
theorem dX11_count_176 : decode cX11_count 176 = .ok (.getfield 89, 3) := by decide +kernel
theorem dX11_count_179 : decode cX11_count 179 = .ok (.getfield 411, 3) := by decide +kernel
theorem dX11_count_182 : decode cX11_count 182 = .ok (.ireturn, 1) := by decide +kernel
theorem dX11_count_183 : decode cX11_count 183 = .ok (.aload_n 0, 1) := by decide +kernel
theorem dX11_count_184 : decode cX11_count 184 = .ok (.getfield 40, 3) := by decide +kernel
theorem dX11_count_187 : decode cX11_count 187 = .ok (.invokevirtual 268, 3) := by decide +kernel
theorem dX11_count_190 : decode cX11_count 190 = .ok (.ireturn, 1) := by decide +kernel
theorem dX11_count_191 : decode cX11_count 191 = .ok (.aload_n 0, 1) := by decide +kernel
theorem dX11_count_192 : decode cX11_count 192 = .ok (.getfield 40, 3) := by decide +kernel
theorem dX11_count_195 : decode cX11_count 195 = .ok (.getfield 265, 3) := by decide +kernel
theorem dX11_count_198 : decode cX11_count 198 = .ok (.ireturn, 1) := by decide +kernel
theorem dX11_count_199 : decode cX11_count 199 = .ok (.aload_n 0, 1) := by decide +kernel
theorem dX11_count_200 : decode cX11_count 200 = .ok (.getfield 33, 3) := by decide +kernel
theorem dX11_count_203 : decode cX11_count 203 = .ok (.getfield 169, 3) := by decide +kernel
theorem dX11_count_206 : decode cX11_count 206 = .ok (.ireturn, 1) := by decide +kernel
theorem dX11_count_207 : decode cX11_count 207 = .ok (.ldc_w 271, 3) := by decide +kernel
theorem dX11_count_210 : decode cX11_count 210 = .ok (.ireturn, 1) := by decide +kernel
theorem dX11_fault_0 : decode cX11_fault 0 = .ok (.iload_n 1, 1) := by decide +kernel
theorem dX11_fault_1 : decode cX11_fault 1 = .ok (.tableswitch 97 0 2 #[27, 47, 72], 27) := by decide +kernel
theorem dX11_fault_28 : decode cX11_fault 28 = .ok (.aload_n 0, 1) := by decide +kernel
theorem dX11_fault_29 : decode cX11_fault 29 = .ok (.getfield 51, 3) := by decide +kernel
theorem dX11_fault_32 : decode cX11_fault 32 = .ok (.aload_n 0, 1) := by decide +kernel
theorem dX11_fault_33 : decode cX11_fault 33 = .ok (.getfield 10, 3) := by decide +kernel
theorem dX11_fault_36 : decode cX11_fault 36 = .ok (.invokevirtual 108, 3) := by decide +kernel
theorem dX11_fault_39 : decode cX11_fault 39 = .ok (.pop, 1) := by decide +kernel
theorem dX11_fault_40 : decode cX11_fault 40 = .ok (.aload_n 0, 1) := by decide +kernel
theorem dX11_fault_41 : decode cX11_fault 41 = .ok (.getfield 10, 3) := by decide +kernel
theorem dX11_fault_44 : decode cX11_fault 44 = .ok (.getfield 112, 3) := by decide +kernel
theorem dX11_fault_47 : decode cX11_fault 47 = .ok (.ireturn, 1) := by decide +kernel
theorem dX11_fault_48 : decode cX11_fault 48 = .ok (.aload_n 0, 1) := by decide +kernel
theorem dX11_fault_49 : decode cX11_fault 49 = .ok (.getfield 18, 3) := by decide +kernel
theorem dX11_fault_52 : decode cX11_fault 52 = .ok (.aload_n 0, 1) := by decide +kernel
theorem dX11_fault_53 : decode cX11_fault 53 = .ok (.getfield 115, 3) := by decide +kernel
theorem dX11_fault_56 : decode cX11_fault 56 = .ok (.aaload, 1) := by decide +kernel
theorem dX11_fault_57 : decode cX11_fault 57 = .ok (.aload_n 0, 1) := by decide +kernel
theorem dX11_fault_58 : decode cX11_fault 58 = .ok (.getfield 10, 3) := by decide +kernel
theorem dX11_fault_61 : decode cX11_fault 61 = .ok (.invokevirtual 118, 3) := by decide +kernel
theorem dX11_fault_64 : decode cX11_fault 64 = .ok (.pop, 1) := by decide +kernel
theorem dX11_fault_65 : decode cX11_fault 65 = .ok (.aload_n 0, 1) := by decide +kernel
theorem dX11_fault_66 : decode cX11_fault 66 = .ok (.getfield 10, 3) := by decide +kernel
theorem dX11_fault_69 : decode cX11_fault 69 = .ok (.getfield 112, 3) := by decide +kernel
theorem dX11_fault_72 : decode cX11_fault 72 = .ok (.ireturn, 1) := by decide +kernel
theorem dX11_fault_73 : decode cX11_fault 73 = .ok (.aload_n 0, 1) := by decide +kernel
theorem dX11_fault_74 : decode cX11_fault 74 = .ok (.getfield 24, 3) := by decide +kernel
theorem dX11_fault_77 : decode cX11_fault 77 = .ok (.aload_n 0, 1) := by decide +kernel
theorem dX11_fault_78 : decode cX11_fault 78 = .ok (.getfield 119, 3) := by decide +kernel
theorem dX11_fault_81 : decode cX11_fault 81 = .ok (.aaload, 1) := by decide +kernel
theorem dX11_fault_82 : decode cX11_fault 82 = .ok (.aload_n 0, 1) := by decide +kernel
theorem dX11_fault_83 : decode cX11_fault 83 = .ok (.getfield 10, 3) := by decide +kernel
theorem dX11_fault_86 : decode cX11_fault 86 = .ok (.invokevirtual 122, 3) := by decide +kernel
theorem dX11_fault_89 : decode cX11_fault 89 = .ok (.pop, 1) := by decide +kernel
theorem dX11_fault_90 : decode cX11_fault 90 = .ok (.aload_n 0, 1) := by decide +kernel
theorem dX11_fault_91 : decode cX11_fault 91 = .ok (.getfield 10, 3) := by decide +kernel
theorem dX11_fault_94 : decode cX11_fault 94 = .ok (.getfield 112, 3) := by decide +kernel
theorem dX11_fault_97 : decode cX11_fault 97 = .ok (.ireturn, 1) := by decide +kernel
theorem dX11_fault_98 : decode cX11_fault 98 = .ok (.bipush (-2), 2) := by decide +kernel
theorem dX11_fault_100 : decode cX11_fault 100 = .ok (.ireturn, 1) := by decide +kernel
theorem dX11_fit_0 : decode cX11_fit 0 = .ok (.aload_n 0, 1) := by decide +kernel
theorem dX11_fit_1 : decode cX11_fit 1 = .ok (.invokevirtual 155, 3) := by decide +kernel
theorem dX11_fit_4 : decode cX11_fit 4 = .ok (.ifCond .ne 8, 3) := by decide +kernel
theorem dX11_fit_7 : decode cX11_fit 7 = .ok (.iload_n 1, 1) := by decide +kernel
theorem dX11_fit_8 : decode cX11_fit 8 = .ok (.iconst (-1), 1) := by decide +kernel
theorem dX11_fit_9 : decode cX11_fit 9 = .ok (.if_icmp .ge 7, 3) := by decide +kernel
theorem dX11_fit_12 : decode cX11_fit 12 = .ok (.iconst (-1), 1) := by decide +kernel
theorem dX11_fit_13 : decode cX11_fit 13 = .ok (.goto 11, 3) := by decide +kernel
theorem dX11_fit_16 : decode cX11_fit 16 = .ok (.aload_n 0, 1) := by decide +kernel
theorem dX11_fit_17 : decode cX11_fit 17 = .ok (.getfield 89, 3) := by decide +kernel
theorem dX11_fit_20 : decode cX11_fit 20 = .ok (.iload_n 1, 1) := by decide +kernel
theorem dX11_fit_21 : decode cX11_fit 21 = .ok (.invokevirtual 370, 3) := by decide +kernel
theorem dX11_fit_24 : decode cX11_fit 24 = .ok (.ireturn, 1) := by decide +kernel
theorem dX11_image_0 : decode cX11_image 0 = .ok (.aload_n 0, 1) := by decide +kernel
theorem dX11_image_1 : decode cX11_image 1 = .ok (.invokevirtual 155, 3) := by decide +kernel
theorem dX11_image_4 : decode cX11_image 4 = .ok (.ifCond .eq 5, 3) := by decide +kernel
theorem dX11_image_7 : decode cX11_image 7 = .ok (.iconst (-1), 1) := by decide +kernel
theorem dX11_image_8 : decode cX11_image 8 = .ok (.ireturn, 1) := by decide +kernel
theorem dX11_image_9 : decode cX11_image 9 = .ok (.aload_n 0, 1) := by decide +kernel
theorem dX11_image_10 : decode cX11_image 10 = .ok (.getfield 40, 3) := by decide +kernel
theorem dX11_image_13 : decode cX11_image 13 = .ok (.aload_n 0, 1) := by decide +kernel
theorem dX11_image_14 : decode cX11_image 14 = .ok (.getfield 33, 3) := by decide +kernel
theorem dX11_image_17 : decode cX11_image 17 = .ok (.invokevirtual 404, 3) := by decide +kernel
theorem dX11_image_20 : decode cX11_image 20 = .ok (.aload_n 0, 1) := by decide +kernel
theorem dX11_image_21 : decode cX11_image 21 = .ok (.getfield 33, 3) := by decide +kernel
theorem dX11_image_24 : decode cX11_image 24 = .ok (.getfield 177, 3) := by decide +kernel
theorem dX11_image_27 : decode cX11_image 27 = .ok (.ireturn, 1) := by decide +kernel
theorem dX11_leavesAll_0 : decode cX11_leavesAll 0 = .ok (.aload_n 0, 1) := by decide +kernel
theorem dX11_leavesAll_1 : decode cX11_leavesAll 1 = .ok (.getfield 47, 3) := by decide +kernel
theorem dX11_leavesAll_4 : decode cX11_leavesAll 4 = .ok (.aload_n 0, 1) := by decide +kernel
theorem dX11_leavesAll_5 : decode cX11_leavesAll 5 = .ok (.getfield 33, 3) := by decide +kernel
theorem dX11_leavesAll_8 : decode cX11_leavesAll 8 = .ok (.getfield 169, 3) := by decide +kernel
theorem dX11_leavesAll_11 : decode cX11_leavesAll 11 = .ok (.iload_n 1, 1) := by decide +kernel
theorem dX11_leavesAll_12 : decode cX11_leavesAll 12 = .ok (.invokevirtual 379, 3) := by decide +kernel
theorem dX11_leavesAll_15 : decode cX11_leavesAll 15 = .ok (.aload_n 0, 1) := by decide +kernel
theorem dX11_leavesAll_16 : decode cX11_leavesAll 16 = .ok (.getfield 33, 3) := by decide +kernel
theorem dX11_leavesAll_19 : decode cX11_leavesAll 19 = .ok (.getfield 169, 3) := by decide +kernel
theorem dX11_leavesAll_22 : decode cX11_leavesAll 22 = .ok (.if_icmp .ne 57, 3) := by decide +kernel
theorem dX11_leavesAll_25 : decode cX11_leavesAll 25 = .ok (.aload_n 0, 1) := by decide +kernel
theorem dX11_leavesAll_26 : decode cX11_leavesAll 26 = .ok (.getfield 47, 3) := by decide +kernel
theorem dX11_leavesAll_29 : decode cX11_leavesAll 29 = .ok (.aload_n 0, 1) := by decide +kernel
theorem dX11_leavesAll_30 : decode cX11_leavesAll 30 = .ok (.getfield 47, 3) := by decide +kernel
theorem dX11_leavesAll_33 : decode cX11_leavesAll 33 = .ok (.getfield 184, 3) := by decide +kernel
theorem dX11_leavesAll_36 : decode cX11_leavesAll 36 = .ok (.iload_n 1, 1) := by decide +kernel
theorem dX11_leavesAll_37 : decode cX11_leavesAll 37 = .ok (.invokevirtual 379, 3) := by decide +kernel
theorem dX11_leavesAll_40 : decode cX11_leavesAll 40 = .ok (.aload_n 0, 1) := by decide +kernel
theorem dX11_leavesAll_41 : decode cX11_leavesAll 41 = .ok (.getfield 47, 3) := by decide +kernel
theorem dX11_leavesAll_44 : decode cX11_leavesAll 44 = .ok (.getfield 184, 3) := by decide +kernel
theorem dX11_leavesAll_47 : decode cX11_leavesAll 47 = .ok (.if_icmp .ne 32, 3) := by decide +kernel
theorem dX11_leavesAll_50 : decode cX11_leavesAll 50 = .ok (.aload_n 0, 1) := by decide +kernel
theorem dX11_leavesAll_51 : decode cX11_leavesAll 51 = .ok (.getfield 47, 3) := by decide +kernel
theorem dX11_leavesAll_54 : decode cX11_leavesAll 54 = .ok (.aload_n 0, 1) := by decide +kernel
theorem dX11_leavesAll_55 : decode cX11_leavesAll 55 = .ok (.getfield 33, 3) := by decide +kernel
theorem dX11_leavesAll_58 : decode cX11_leavesAll 58 = .ok (.getfield 174, 3) := by decide +kernel
theorem dX11_leavesAll_61 : decode cX11_leavesAll 61 = .ok (.iload_n 1, 1) := by decide +kernel
theorem dX11_leavesAll_62 : decode cX11_leavesAll 62 = .ok (.invokevirtual 379, 3) := by decide +kernel
theorem dX11_leavesAll_65 : decode cX11_leavesAll 65 = .ok (.aload_n 0, 1) := by decide +kernel
theorem dX11_leavesAll_66 : decode cX11_leavesAll 66 = .ok (.getfield 33, 3) := by decide +kernel
theorem dX11_leavesAll_69 : decode cX11_leavesAll 69 = .ok (.getfield 174, 3) := by decide +kernel
theorem dX11_leavesAll_72 : decode cX11_leavesAll 72 = .ok (.if_icmp .ne 7, 3) := by decide +kernel
theorem dX11_leavesAll_75 : decode cX11_leavesAll 75 = .ok (.iconst 1, 1) := by decide +kernel
theorem dX11_leavesAll_76 : decode cX11_leavesAll 76 = .ok (.goto 4, 3) := by decide +kernel
theorem dX11_leavesAll_79 : decode cX11_leavesAll 79 = .ok (.iconst 0, 1) := by decide +kernel
theorem dX11_leavesAll_80 : decode cX11_leavesAll 80 = .ok (.ireturn, 1) := by decide +kernel
theorem dX11_longest_0 : decode cX11_longest 0 = .ok (.aload_n 0, 1) := by decide +kernel
theorem dX11_longest_1 : decode cX11_longest 1 = .ok (.invokevirtual 155, 3) := by decide +kernel
theorem dX11_longest_4 : decode cX11_longest 4 = .ok (.ifCond .eq 7, 3) := by decide +kernel
theorem dX11_longest_7 : decode cX11_longest 7 = .ok (.iconst (-1), 1) := by decide +kernel
theorem dX11_longest_8 : decode cX11_longest 8 = .ok (.goto 17, 3) := by decide +kernel
theorem dX11_longest_11 : decode cX11_longest 11 = .ok (.aload_n 0, 1) := by decide +kernel
theorem dX11_longest_12 : decode cX11_longest 12 = .ok (.getfield 47, 3) := by decide +kernel
theorem dX11_longest_15 : decode cX11_longest 15 = .ok (.aload_n 0, 1) := by decide +kernel
theorem dX11_longest_16 : decode cX11_longest 16 = .ok (.getfield 33, 3) := by decide +kernel
theorem dX11_longest_19 : decode cX11_longest 19 = .ok (.getfield 169, 3) := by decide +kernel
theorem dX11_longest_22 : decode cX11_longest 22 = .ok (.invokevirtual 401, 3) := by decide +kernel
theorem dX11_longest_25 : decode cX11_longest 25 = .ok (.ireturn, 1) := by decide +kernel
theorem dX11_odds_0 : decode cX11_odds 0 = .ok (.aload_n 0, 1) := by decide +kernel
theorem dX11_odds_1 : decode cX11_odds 1 = .ok (.invokevirtual 155, 3) := by decide +kernel
theorem dX11_odds_4 : decode cX11_odds 4 = .ok (.ifCond .ne 22, 3) := by decide +kernel
theorem dX11_odds_7 : decode cX11_odds 7 = .ok (.iload_n 1, 1) := by decide +kernel
theorem dX11_odds_8 : decode cX11_odds 8 = .ok (.ifCond .lt 18, 3) := by decide +kernel
theorem dX11_odds_11 : decode cX11_odds 11 = .ok (.iload_n 1, 1) := by decide +kernel
theorem dX11_odds_12 : decode cX11_odds 12 = .ok (.iconst 3, 1) := by decide +kernel
theorem dX11_odds_13 : decode cX11_odds 13 = .ok (.if_icmp .gt 13, 3) := by decide +kernel
theorem dX11_odds_16 : decode cX11_odds 16 = .ok (.iload_n 2, 1) := by decide +kernel
theorem dX11_odds_17 : decode cX11_odds 17 = .ok (.ifCond .lt 9, 3) := by decide +kernel
theorem dX11_odds_20 : decode cX11_odds 20 = .ok (.iload_n 2, 1) := by decide +kernel
theorem dX11_odds_21 : decode cX11_odds 21 = .ok (.bipush 100, 2) := by decide +kernel
theorem dX11_odds_23 : decode cX11_odds 23 = .ok (.if_icmp .le 5, 3) := by decide +kernel
theorem dX11_odds_26 : decode cX11_odds 26 = .ok (.iconst (-1), 1) := by decide +kernel
theorem dX11_odds_27 : decode cX11_odds 27 = .ok (.ireturn, 1) := by decide +kernel
theorem dX11_odds_28 : decode cX11_odds 28 = .ok (.aload_n 0, 1) := by decide +kernel
theorem dX11_odds_29 : decode cX11_odds 29 = .ok (.getfield 33, 3) := by decide +kernel
theorem dX11_odds_32 : decode cX11_odds 32 = .ok (.getfield 193, 3) := by decide +kernel
theorem dX11_odds_35 : decode cX11_odds 35 = .ok (.ifCond .eq 9, 3) := by decide +kernel
theorem dX11_odds_38 : decode cX11_odds 38 = .ok (.ldc_w 393, 3) := by decide +kernel
theorem dX11_odds_41 : decode cX11_odds 41 = .ok (.goto 17, 3) := by decide +kernel
theorem dX11_odds_44 : decode cX11_odds 44 = .ok (.aload_n 0, 1) := by decide +kernel
theorem dX11_odds_45 : decode cX11_odds 45 = .ok (.getfield 75, 3) := by decide +kernel
theorem dX11_odds_48 : decode cX11_odds 48 = .ok (.aload_n 0, 1) := by decide +kernel
theorem dX11_odds_49 : decode cX11_odds 49 = .ok (.getfield 33, 3) := by decide +kernel
theorem dX11_odds_52 : decode cX11_odds 52 = .ok (.iload_n 1, 1) := by decide +kernel
theorem dX11_odds_53 : decode cX11_odds 53 = .ok (.iload_n 2, 1) := by decide +kernel
theorem dX11_odds_54 : decode cX11_odds 54 = .ok (.invokevirtual 394, 3) := by decide +kernel
theorem dX11_odds_57 : decode cX11_odds 57 = .ok (.l2i, 1) := by decide +kernel
theorem dX11_odds_58 : decode cX11_odds 58 = .ok (.ireturn, 1) := by decide +kernel
theorem dX11_openings_0 : decode cX11_openings 0 = .ok (.aload_n 0, 1) := by decide +kernel
theorem dX11_openings_1 : decode cX11_openings 1 = .ok (.invokevirtual 155, 3) := by decide +kernel
theorem dX11_openings_4 : decode cX11_openings 4 = .ok (.ifCond .eq 5, 3) := by decide +kernel
theorem dX11_openings_7 : decode cX11_openings 7 = .ok (.iconst (-1), 1) := by decide +kernel
theorem dX11_openings_8 : decode cX11_openings 8 = .ok (.ireturn, 1) := by decide +kernel
theorem dX11_openings_9 : decode cX11_openings 9 = .ok (.aload_n 0, 1) := by decide +kernel
theorem dX11_openings_10 : decode cX11_openings 10 = .ok (.getfield 59, 3) := by decide +kernel
theorem dX11_openings_13 : decode cX11_openings 13 = .ok (.aload_n 0, 1) := by decide +kernel
theorem dX11_openings_14 : decode cX11_openings 14 = .ok (.getfield 33, 3) := by decide +kernel
theorem dX11_openings_17 : decode cX11_openings 17 = .ok (.getfield 169, 3) := by decide +kernel
theorem dX11_openings_20 : decode cX11_openings 20 = .ok (.aload_n 0, 1) := by decide +kernel
theorem dX11_openings_21 : decode cX11_openings 21 = .ok (.getfield 33, 3) := by decide +kernel
theorem dX11_openings_24 : decode cX11_openings 24 = .ok (.getfield 174, 3) := by decide +kernel
theorem dX11_openings_27 : decode cX11_openings 27 = .ok (.aload_n 0, 1) := by decide +kernel
theorem dX11_openings_28 : decode cX11_openings 28 = .ok (.getfield 33, 3) := by decide +kernel
theorem dX11_openings_31 : decode cX11_openings 31 = .ok (.getfield 177, 3) := by decide +kernel
theorem dX11_openings_34 : decode cX11_openings 34 = .ok (.invokevirtual 244, 3) := by decide +kernel
theorem dX11_openings_37 : decode cX11_openings 37 = .ok (.istore_n 1, 1) := by decide +kernel
theorem dX11_openings_38 : decode cX11_openings 38 = .ok (.iload_n 1, 1) := by decide +kernel
theorem dX11_openings_39 : decode cX11_openings 39 = .ok (.istore_n 2, 1) := by decide +kernel
theorem dX11_openings_40 : decode cX11_openings 40 = .ok (.iconst 0, 1) := by decide +kernel
theorem dX11_openings_41 : decode cX11_openings 41 = .ok (.istore_n 3, 1) := by decide +kernel
theorem dX11_openings_42 : decode cX11_openings 42 = .ok (.iload_n 3, 1) := by decide +kernel
theorem dX11_openings_43 : decode cX11_openings 43 = .ok (.aload_n 0, 1) := by decide +kernel
theorem dX11_openings_44 : decode cX11_openings 44 = .ok (.getfield 47, 3) := by decide +kernel
theorem dX11_openings_47 : decode cX11_openings 47 = .ok (.invokevirtual 376, 3) := by decide +kernel
theorem dX11_openings_50 : decode cX11_openings 50 = .ok (.if_icmp .ge 31, 3) := by decide +kernel
theorem dX11_openings_53 : decode cX11_openings 53 = .ok (.aload_n 0, 1) := by decide +kernel
theorem dX11_openings_54 : decode cX11_openings 54 = .ok (.iload_n 3, 1) := by decide +kernel
theorem dX11_openings_55 : decode cX11_openings 55 = .ok (.invokevirtual 387, 3) := by decide +kernel
theorem dX11_openings_58 : decode cX11_openings 58 = .ok (.ifCond .eq 17, 3) := by decide +kernel
theorem dX11_openings_61 : decode cX11_openings 61 = .ok (.iload_n 2, 1) := by decide +kernel
theorem dX11_openings_62 : decode cX11_openings 62 = .ok (.aload_n 0, 1) := by decide +kernel
theorem dX11_openings_63 : decode cX11_openings 63 = .ok (.getfield 47, 3) := by decide +kernel
theorem dX11_openings_66 : decode cX11_openings 66 = .ok (.iload_n 1, 1) := by decide +kernel
theorem dX11_openings_67 : decode cX11_openings 67 = .ok (.iload_n 3, 1) := by decide +kernel
theorem dX11_openings_68 : decode cX11_openings 68 = .ok (.invokevirtual 390, 3) := by decide +kernel
theorem dX11_openings_71 : decode cX11_openings 71 = .ok (.iconst (-1), 1) := by decide +kernel
theorem dX11_openings_72 : decode cX11_openings 72 = .ok (.ixor, 1) := by decide +kernel
theorem dX11_openings_73 : decode cX11_openings 73 = .ok (.iand, 1) := by decide +kernel
theorem dX11_openings_74 : decode cX11_openings 74 = .ok (.istore_n 2, 1) := by decide +kernel
theorem dX11_openings_75 : decode cX11_openings 75 = .ok (.iinc 3 1, 3) := by decide +kernel
theorem dX11_openings_78 : decode cX11_openings 78 = .ok (.goto (-36), 3) := by decide +kernel
theorem dX11_openings_81 : decode cX11_openings 81 = .ok (.iload_n 2, 1) := by decide +kernel
theorem dX11_openings_82 : decode cX11_openings 82 = .ok (.invokestatic 206, 3) := by decide +kernel
theorem dX11_openings_85 : decode cX11_openings 85 = .ok (.ireturn, 1) := by decide +kernel
theorem dX11_room_0 : decode cX11_room 0 = .ok (.aload_n 0, 1) := by decide +kernel
theorem dX11_room_1 : decode cX11_room 1 = .ok (.invokevirtual 155, 3) := by decide +kernel
theorem dX11_room_4 : decode cX11_room 4 = .ok (.ifCond .eq 7, 3) := by decide +kernel
theorem dX11_room_7 : decode cX11_room 7 = .ok (.iconst (-1), 1) := by decide +kernel
theorem dX11_room_8 : decode cX11_room 8 = .ok (.goto 34, 3) := by decide +kernel
theorem dX11_room_11 : decode cX11_room 11 = .ok (.aload_n 0, 1) := by decide +kernel
theorem dX11_room_12 : decode cX11_room 12 = .ok (.getfield 59, 3) := by decide +kernel
theorem dX11_room_15 : decode cX11_room 15 = .ok (.aload_n 0, 1) := by decide +kernel
theorem dX11_room_16 : decode cX11_room 16 = .ok (.getfield 33, 3) := by decide +kernel
theorem dX11_room_19 : decode cX11_room 19 = .ok (.getfield 169, 3) := by decide +kernel
theorem dX11_room_22 : decode cX11_room 22 = .ok (.aload_n 0, 1) := by decide +kernel
theorem dX11_room_23 : decode cX11_room 23 = .ok (.getfield 33, 3) := by decide +kernel
theorem dX11_room_26 : decode cX11_room 26 = .ok (.getfield 174, 3) := by decide +kernel
theorem dX11_room_29 : decode cX11_room 29 = .ok (.aload_n 0, 1) := by decide +kernel
theorem dX11_room_30 : decode cX11_room 30 = .ok (.getfield 33, 3) := by decide +kernel
theorem dX11_room_33 : decode cX11_room 33 = .ok (.getfield 177, 3) := by decide +kernel
theorem dX11_room_36 : decode cX11_room 36 = .ok (.invokevirtual 244, 3) := by decide +kernel
theorem dX11_room_39 : decode cX11_room 39 = .ok (.invokestatic 206, 3) := by decide +kernel
theorem dX11_room_42 : decode cX11_room 42 = .ok (.ireturn, 1) := by decide +kernel
theorem dX11_tells_0 : decode cX11_tells 0 = .ok (.iconst (-1), 1) := by decide +kernel
theorem dX11_tells_1 : decode cX11_tells 1 = .ok (.istore_n 1, 1) := by decide +kernel
theorem dX11_tells_2 : decode cX11_tells 2 = .ok (.iconst 0, 1) := by decide +kernel
theorem dX11_tells_3 : decode cX11_tells 3 = .ok (.istore_n 2, 1) := by decide +kernel
theorem dX11_tells_4 : decode cX11_tells 4 = .ok (.iconst 0, 1) := by decide +kernel
theorem dX11_tells_5 : decode cX11_tells 5 = .ok (.istore_n 3, 1) := by decide +kernel
theorem dX11_tells_6 : decode cX11_tells 6 = .ok (.iload_n 3, 1) := by decide +kernel
theorem dX11_tells_7 : decode cX11_tells 7 = .ok (.aload_n 0, 1) := by decide +kernel
theorem dX11_tells_8 : decode cX11_tells 8 = .ok (.getfield 47, 3) := by decide +kernel
theorem dX11_tells_11 : decode cX11_tells 11 = .ok (.getfield 148, 3) := by decide +kernel
theorem dX11_tells_14 : decode cX11_tells 14 = .ok (.if_icmp .ge 59, 3) := by decide +kernel
theorem dX11_tells_17 : decode cX11_tells 17 = .ok (.aload_n 0, 1) := by decide +kernel
theorem dX11_tells_18 : decode cX11_tells 18 = .ok (.iconst 1, 1) := by decide +kernel
theorem dX11_tells_19 : decode cX11_tells 19 = .ok (.iload_n 3, 1) := by decide +kernel
theorem dX11_tells_20 : decode cX11_tells 20 = .ok (.ishl, 1) := by decide +kernel
theorem dX11_tells_21 : decode cX11_tells 21 = .ok (.invokevirtual 166, 3) := by decide +kernel
theorem dX11_tells_24 : decode cX11_tells 24 = .ok (.ifCond .ne 43, 3) := by decide +kernel
theorem dX11_tells_27 : decode cX11_tells 27 = .ok (.aload_n 0, 1) := by decide +kernel
theorem dX11_tells_28 : decode cX11_tells 28 = .ok (.getfield 89, 3) := by decide +kernel
theorem dX11_tells_31 : decode cX11_tells 31 = .ok (.aload_n 0, 1) := by decide +kernel
theorem dX11_tells_32 : decode cX11_tells 32 = .ok (.getfield 47, 3) := by decide +kernel
theorem dX11_tells_35 : decode cX11_tells 35 = .ok (.iload_n 3, 1) := by decide +kernel
theorem dX11_tells_36 : decode cX11_tells 36 = .ok (.aload_n 0, 1) := by decide +kernel
theorem dX11_tells_37 : decode cX11_tells 37 = .ok (.getfield 33, 3) := by decide +kernel
theorem dX11_tells_40 : decode cX11_tells 40 = .ok (.getfield 169, 3) := by decide +kernel
theorem dX11_tells_43 : decode cX11_tells 43 = .ok (.invokevirtual 170, 3) := by decide +kernel
theorem dX11_tells_46 : decode cX11_tells 46 = .ok (.invokevirtual 373, 3) := by decide +kernel
theorem dX11_tells_49 : decode cX11_tells 49 = .ok (.istore 4, 2) := by decide +kernel
theorem dX11_tells_51 : decode cX11_tells 51 = .ok (.iload_n 1, 1) := by decide +kernel
theorem dX11_tells_52 : decode cX11_tells 52 = .ok (.iconst (-1), 1) := by decide +kernel
theorem dX11_tells_53 : decode cX11_tells 53 = .ok (.if_icmp .eq 9, 3) := by decide +kernel
theorem dX11_tells_56 : decode cX11_tells 56 = .ok (.iload 4, 2) := by decide +kernel
theorem dX11_tells_58 : decode cX11_tells 58 = .ok (.iload_n 2, 1) := by decide +kernel
theorem dX11_tells_59 : decode cX11_tells 59 = .ok (.if_icmp .ge 8, 3) := by decide +kernel
theorem dX11_tells_62 : decode cX11_tells 62 = .ok (.iload_n 3, 1) := by decide +kernel
theorem dX11_tells_63 : decode cX11_tells 63 = .ok (.istore_n 1, 1) := by decide +kernel
theorem dX11_tells_64 : decode cX11_tells 64 = .ok (.iload 4, 2) := by decide +kernel
theorem dX11_tells_66 : decode cX11_tells 66 = .ok (.istore_n 2, 1) := by decide +kernel
theorem dX11_tells_67 : decode cX11_tells 67 = .ok (.iinc 3 1, 3) := by decide +kernel
theorem dX11_tells_70 : decode cX11_tells 70 = .ok (.goto (-64), 3) := by decide +kernel
theorem dX11_tells_73 : decode cX11_tells 73 = .ok (.iload_n 1, 1) := by decide +kernel
theorem dX11_tells_74 : decode cX11_tells 74 = .ok (.ireturn, 1) := by decide +kernel
theorem dX11_where_0 : decode cX11_where 0 = .ok (.aload_n 0, 1) := by decide +kernel
theorem dX11_where_1 : decode cX11_where 1 = .ok (.invokevirtual 155, 3) := by decide +kernel
theorem dX11_where_4 : decode cX11_where 4 = .ok (.ifCond .ne 26, 3) := by decide +kernel
theorem dX11_where_7 : decode cX11_where 7 = .ok (.iload_n 1, 1) := by decide +kernel
theorem dX11_where_8 : decode cX11_where 8 = .ok (.ifCond .lt 22, 3) := by decide +kernel
theorem dX11_where_11 : decode cX11_where 11 = .ok (.iload_n 1, 1) := by decide +kernel
theorem dX11_where_12 : decode cX11_where 12 = .ok (.iconst 1, 1) := by decide +kernel
theorem dX11_where_13 : decode cX11_where 13 = .ok (.if_icmp .gt 17, 3) := by decide +kernel
theorem dX11_where_16 : decode cX11_where 16 = .ok (.aload_n 0, 1) := by decide +kernel
theorem dX11_where_17 : decode cX11_where 17 = .ok (.getfield 75, 3) := by decide +kernel
theorem dX11_where_20 : decode cX11_where 20 = .ok (.aload_n 0, 1) := by decide +kernel
theorem dX11_where_21 : decode cX11_where 21 = .ok (.getfield 33, 3) := by decide +kernel
theorem dX11_where_24 : decode cX11_where 24 = .ok (.invokevirtual 398, 3) := by decide +kernel
theorem dX11_where_27 : decode cX11_where 27 = .ok (.ifCond .ne 5, 3) := by decide +kernel
theorem dX11_where_30 : decode cX11_where 30 = .ok (.iconst (-1), 1) := by decide +kernel
theorem dX11_where_31 : decode cX11_where 31 = .ok (.ireturn, 1) := by decide +kernel
theorem dX11_where_32 : decode cX11_where 32 = .ok (.iload_n 1, 1) := by decide +kernel
theorem dX11_where_33 : decode cX11_where 33 = .ok (.ifCond .ne 13, 3) := by decide +kernel
theorem dX11_where_36 : decode cX11_where 36 = .ok (.aload_n 0, 1) := by decide +kernel
theorem dX11_where_37 : decode cX11_where 37 = .ok (.getfield 75, 3) := by decide +kernel
theorem dX11_where_40 : decode cX11_where 40 = .ok (.getfield 255, 3) := by decide +kernel
theorem dX11_where_43 : decode cX11_where 43 = .ok (.goto 10, 3) := by decide +kernel
theorem dX11_where_46 : decode cX11_where 46 = .ok (.aload_n 0, 1) := by decide +kernel
theorem dX11_where_47 : decode cX11_where 47 = .ok (.getfield 75, 3) := by decide +kernel
theorem dX11_where_50 : decode cX11_where 50 = .ok (.getfield 326, 3) := by decide +kernel
theorem dX11_where_53 : decode cX11_where 53 = .ok (.ireturn, 1) := by decide +kernel
theorem dX8_face_0 : decode cX8_face 0 = .ok (.aload_n 0, 1) := by decide +kernel
theorem dX8_face_1 : decode cX8_face 1 = .ok (.aload_n 1, 1) := by decide +kernel
theorem dX8_face_2 : decode cX8_face 2 = .ok (.putfield 32, 3) := by decide +kernel
theorem dX8_face_5 : decode cX8_face 5 = .ok (.aload_n 0, 1) := by decide +kernel
theorem dX8_face_6 : decode cX8_face 6 = .ok (.aload_n 2, 1) := by decide +kernel
theorem dX8_face_7 : decode cX8_face 7 = .ok (.putfield 36, 3) := by decide +kernel
theorem dX8_face_10 : decode cX8_face 10 = .ok (.aload_n 0, 1) := by decide +kernel
theorem dX8_face_11 : decode cX8_face 11 = .ok (.getfield 11, 3) := by decide +kernel
theorem dX8_face_14 : decode cX8_face 14 = .ok (.iconst 0, 1) := by decide +kernel
theorem dX8_face_15 : decode cX8_face 15 = .ok (.invokestatic 40, 3) := by decide +kernel
theorem dX8_face_18 : decode cX8_face 18 = .ok (.aload_n 0, 1) := by decide +kernel
theorem dX8_face_19 : decode cX8_face 19 = .ok (.getfield 15, 3) := by decide +kernel
theorem dX8_face_22 : decode cX8_face 22 = .ok (.iconst 0, 1) := by decide +kernel
theorem dX8_face_23 : decode cX8_face 23 = .ok (.invokestatic 40, 3) := by decide +kernel
theorem dX8_face_26 : decode cX8_face 26 = .ok (.aload_n 0, 1) := by decide +kernel
theorem dX8_face_27 : decode cX8_face 27 = .ok (.getfield 18, 3) := by decide +kernel
theorem dX8_face_30 : decode cX8_face 30 = .ok (.iconst 0, 1) := by decide +kernel
theorem dX8_face_31 : decode cX8_face 31 = .ok (.invokestatic 40, 3) := by decide +kernel
theorem dX8_face_34 : decode cX8_face 34 = .ok (.return_, 1) := by decide +kernel
theorem wl_5_234 : (.methodLink RX11 370 yX1_fitting : Cond) ∈ sg_tbl := tb_5 _ (List.mem_of_getElem? (i := 234) (by decide +kernel)) (by decide +kernel)
theorem wl_6_6 : (.methodLink RX11 373 yX1_apart : Cond) ∈ sg_tbl := tb_6 _ (List.mem_of_getElem? (i := 6) (by decide +kernel)) (by decide +kernel)
theorem wl_6_29 : (.methodLink RX11 382 Lib.Math.min.name : Cond) ∈ sg_tbl := tb_6 _ (List.mem_of_getElem? (i := 29) (by decide +kernel)) (by decide +kernel)
theorem wl_6_17 : (.methodLink RX11 376 yX4_mirrors : Cond) ∈ sg_tbl := tb_6 _ (List.mem_of_getElem? (i := 17) (by decide +kernel)) (by decide +kernel)
theorem wl_6_21 : (.methodLink RX11 379 yX4_mirroredBits : Cond) ∈ sg_tbl := tb_6 _ (List.mem_of_getElem? (i := 21) (by decide +kernel)) (by decide +kernel)
theorem wl_6_34 : (.methodLink RX11 387 yX11_leavesAll : Cond) ∈ sg_tbl := tb_6 _ (List.mem_of_getElem? (i := 34) (by decide +kernel)) (by decide +kernel)
theorem wl_6_38 : (.methodLink RX11 390 yX4_mirroredLower : Cond) ∈ sg_tbl := tb_6 _ (List.mem_of_getElem? (i := 38) (by decide +kernel)) (by decide +kernel)
theorem wl_6_46 : (.constant RX11 393 (1000000000) : Cond) ∈ sg_tbl := tb_6 _ (List.mem_of_getElem? (i := 46) (by decide +kernel)) (by decide +kernel)
theorem wl_6_47 : (.methodLink RX11 394 yX0_oddsOf : Cond) ∈ sg_tbl := tb_6 _ (List.mem_of_getElem? (i := 47) (by decide +kernel)) (by decide +kernel)
theorem wl_6_62 : (.methodLink RX11 398 yX0_placeMole : Cond) ∈ sg_tbl := tb_6 _ (List.mem_of_getElem? (i := 62) (by decide +kernel)) (by decide +kernel)
theorem wl_6_74 : (.methodLink RX11 401 yX4_longestRow : Cond) ∈ sg_tbl := tb_6 _ (List.mem_of_getElem? (i := 74) (by decide +kernel)) (by decide +kernel)
theorem wl_6_83 : (.methodLink RX11 404 yX5_takeImage : Cond) ∈ sg_tbl := tb_6 _ (List.mem_of_getElem? (i := 83) (by decide +kernel)) (by decide +kernel)
theorem wl_6_92 : (.methodLink RX11 408 yX5_bringBack : Cond) ∈ sg_tbl := tb_6 _ (List.mem_of_getElem? (i := 92) (by decide +kernel)) (by decide +kernel)
theorem wl_2_207 : (.fieldLink RX11 115 "LawnAhead" "lawCount" "I" : Cond) ∈ sg_tbl := tb_2 _ (List.mem_of_getElem? (i := 207) (by decide +kernel)) (by decide +kernel)
theorem wl_2_195 : (.fieldLink RX11 10 "LawnAhead" "tape" "LLawnAhead$Tape;" : Cond) ∈ sg_tbl := tb_2 _ (List.mem_of_getElem? (i := 195) (by decide +kernel)) (by decide +kernel)
theorem wl_1_42 : (.fieldLink RX11 101 "LawnAhead$Tape" "length" "I" : Cond) ∈ sg_tbl := tb_1 _ (List.mem_of_getElem? (i := 42) (by decide +kernel)) (by decide +kernel)
theorem wl_2_209 : (.fieldLink RX11 93 "LawnAhead" "holding" "I" : Cond) ∈ sg_tbl := tb_2 _ (List.mem_of_getElem? (i := 209) (by decide +kernel)) (by decide +kernel)
theorem wl_2_186 : (.fieldLink RX11 411 "LawnAhead$Books" "count" "I" : Cond) ∈ sg_tbl := tb_2 _ (List.mem_of_getElem? (i := 186) (by decide +kernel)) (by decide +kernel)
theorem wl_2_206 : (.fieldLink RX11 51 "LawnAhead" "spare" "LLawnAhead$Ground;" : Cond) ∈ sg_tbl := tb_2 _ (List.mem_of_getElem? (i := 206) (by decide +kernel)) (by decide +kernel)
theorem wl_3_26 : (.methodLink RX11 108 yX4_read : Cond) ∈ sg_tbl := tb_3 _ (List.mem_of_getElem? (i := 26) (by decide +kernel)) (by decide +kernel)
theorem wl_1_46 : (.fieldLink RX11 112 "LawnAhead$Tape" "wrongAt" "I" : Cond) ∈ sg_tbl := tb_1 _ (List.mem_of_getElem? (i := 46) (by decide +kernel)) (by decide +kernel)
theorem wl_2_196 : (.fieldLink RX11 18 "LawnAhead" "lawShelf" "[LLawnAhead$Law;" : Cond) ∈ sg_tbl := tb_2 _ (List.mem_of_getElem? (i := 196) (by decide +kernel)) (by decide +kernel)
theorem wl_3_205 : (.methodLink RX11 118 yX6_read : Cond) ∈ sg_tbl := tb_3 _ (List.mem_of_getElem? (i := 205) (by decide +kernel)) (by decide +kernel)
theorem wl_4_14 : (.methodLink RX11 122 yX3_read : Cond) ∈ sg_tbl := tb_4 _ (List.mem_of_getElem? (i := 14) (by decide +kernel)) (by decide +kernel)
theorem wl_4_67 : (.methodLink RX8 40 yJ7_fill_53178 : Cond) ∈ sg_tbl := tb_4 _ (List.mem_of_getElem? (i := 67) (by decide +kernel)) (by decide +kernel)
theorem wl_5_233 : (.code yX11_fit cX11_fit 2 (some .int) : Cond) ∈ sg_tbl := tb_5 _ (List.mem_of_getElem? (i := 233) (by decide +kernel)) (by decide +kernel)
theorem wl_5_231 : (.instanceMethod yX11_fit : Cond) ∈ sg_tbl := tb_5 _ (List.mem_of_getElem? (i := 231) (by decide +kernel)) (by decide +kernel)
theorem wl_5_232 : (.selects RX11 yX11_fit yX11_fit : Cond) ∈ sg_tbl := tb_5 _ (List.mem_of_getElem? (i := 232) (by decide +kernel)) (by decide +kernel)
theorem wl_6_5 : (.code yX11_tells cX11_tells 5 (some .int) : Cond) ∈ sg_tbl := tb_6 _ (List.mem_of_getElem? (i := 5) (by decide +kernel)) (by decide +kernel)
theorem wl_6_3 : (.instanceMethod yX11_tells : Cond) ∈ sg_tbl := tb_6 _ (List.mem_of_getElem? (i := 3) (by decide +kernel)) (by decide +kernel)
theorem wl_6_4 : (.selects RX11 yX11_tells yX11_tells : Cond) ∈ sg_tbl := tb_6 _ (List.mem_of_getElem? (i := 4) (by decide +kernel)) (by decide +kernel)
theorem wl_6_16 : (.code yX11_alike cX11_alike 6 (some .int) : Cond) ∈ sg_tbl := tb_6 _ (List.mem_of_getElem? (i := 16) (by decide +kernel)) (by decide +kernel)
theorem wl_6_14 : (.instanceMethod yX11_alike : Cond) ∈ sg_tbl := tb_6 _ (List.mem_of_getElem? (i := 14) (by decide +kernel)) (by decide +kernel)
theorem wl_6_15 : (.selects RX11 yX11_alike yX11_alike : Cond) ∈ sg_tbl := tb_6 _ (List.mem_of_getElem? (i := 15) (by decide +kernel)) (by decide +kernel)
theorem wl_6_37 : (.code yX11_leavesAll cX11_leavesAll 2 (some .boolean) : Cond) ∈ sg_tbl := tb_6 _ (List.mem_of_getElem? (i := 37) (by decide +kernel)) (by decide +kernel)
theorem wl_6_36 : (.instanceMethod yX11_leavesAll : Cond) ∈ sg_tbl := tb_6 _ (List.mem_of_getElem? (i := 36) (by decide +kernel)) (by decide +kernel)
theorem wl_0_45 : (.selects RX11 yX11_leavesAll yX11_leavesAll : Cond) ∈ sg_tbl := tb_0 _ (List.mem_of_getElem? (i := 45) (by decide +kernel)) (by decide +kernel)
theorem wl_6_33 : (.code yX11_openings cX11_openings 4 (some .int) : Cond) ∈ sg_tbl := tb_6 _ (List.mem_of_getElem? (i := 33) (by decide +kernel)) (by decide +kernel)
theorem wl_6_31 : (.instanceMethod yX11_openings : Cond) ∈ sg_tbl := tb_6 _ (List.mem_of_getElem? (i := 31) (by decide +kernel)) (by decide +kernel)
theorem wl_6_32 : (.selects RX11 yX11_openings yX11_openings : Cond) ∈ sg_tbl := tb_6 _ (List.mem_of_getElem? (i := 32) (by decide +kernel)) (by decide +kernel)
theorem wl_6_45 : (.code yX11_odds cX11_odds 3 (some .int) : Cond) ∈ sg_tbl := tb_6 _ (List.mem_of_getElem? (i := 45) (by decide +kernel)) (by decide +kernel)
theorem wl_6_43 : (.instanceMethod yX11_odds : Cond) ∈ sg_tbl := tb_6 _ (List.mem_of_getElem? (i := 43) (by decide +kernel)) (by decide +kernel)
theorem wl_6_44 : (.selects RX11 yX11_odds yX11_odds : Cond) ∈ sg_tbl := tb_6 _ (List.mem_of_getElem? (i := 44) (by decide +kernel)) (by decide +kernel)
theorem wl_6_61 : (.code yX11_where cX11_where 2 (some .int) : Cond) ∈ sg_tbl := tb_6 _ (List.mem_of_getElem? (i := 61) (by decide +kernel)) (by decide +kernel)
theorem wl_6_59 : (.instanceMethod yX11_where : Cond) ∈ sg_tbl := tb_6 _ (List.mem_of_getElem? (i := 59) (by decide +kernel)) (by decide +kernel)
theorem wl_6_60 : (.selects RX11 yX11_where yX11_where : Cond) ∈ sg_tbl := tb_6 _ (List.mem_of_getElem? (i := 60) (by decide +kernel)) (by decide +kernel)
theorem wl_6_69 : (.code yX11_room cX11_room 1 (some .int) : Cond) ∈ sg_tbl := tb_6 _ (List.mem_of_getElem? (i := 69) (by decide +kernel)) (by decide +kernel)
theorem wl_6_67 : (.instanceMethod yX11_room : Cond) ∈ sg_tbl := tb_6 _ (List.mem_of_getElem? (i := 67) (by decide +kernel)) (by decide +kernel)
theorem wl_6_68 : (.selects RX11 yX11_room yX11_room : Cond) ∈ sg_tbl := tb_6 _ (List.mem_of_getElem? (i := 68) (by decide +kernel)) (by decide +kernel)
theorem wl_6_73 : (.code yX11_longest cX11_longest 1 (some .int) : Cond) ∈ sg_tbl := tb_6 _ (List.mem_of_getElem? (i := 73) (by decide +kernel)) (by decide +kernel)
theorem wl_6_71 : (.instanceMethod yX11_longest : Cond) ∈ sg_tbl := tb_6 _ (List.mem_of_getElem? (i := 71) (by decide +kernel)) (by decide +kernel)
theorem wl_6_72 : (.selects RX11 yX11_longest yX11_longest : Cond) ∈ sg_tbl := tb_6 _ (List.mem_of_getElem? (i := 72) (by decide +kernel)) (by decide +kernel)
theorem wl_6_82 : (.code yX11_image cX11_image 1 (some .int) : Cond) ∈ sg_tbl := tb_6 _ (List.mem_of_getElem? (i := 82) (by decide +kernel)) (by decide +kernel)
theorem wl_6_80 : (.instanceMethod yX11_image : Cond) ∈ sg_tbl := tb_6 _ (List.mem_of_getElem? (i := 80) (by decide +kernel)) (by decide +kernel)
theorem wl_6_81 : (.selects RX11 yX11_image yX11_image : Cond) ∈ sg_tbl := tb_6 _ (List.mem_of_getElem? (i := 81) (by decide +kernel)) (by decide +kernel)
theorem wl_6_91 : (.code yX11_back cX11_back 1 (some .int) : Cond) ∈ sg_tbl := tb_6 _ (List.mem_of_getElem? (i := 91) (by decide +kernel)) (by decide +kernel)
theorem wl_6_89 : (.instanceMethod yX11_back : Cond) ∈ sg_tbl := tb_6 _ (List.mem_of_getElem? (i := 89) (by decide +kernel)) (by decide +kernel)
theorem wl_6_90 : (.selects RX11 yX11_back yX11_back : Cond) ∈ sg_tbl := tb_6 _ (List.mem_of_getElem? (i := 90) (by decide +kernel)) (by decide +kernel)
theorem wl_6_99 : (.code yX11_count cX11_count 2 (some .int) : Cond) ∈ sg_tbl := tb_6 _ (List.mem_of_getElem? (i := 99) (by decide +kernel)) (by decide +kernel)
theorem wl_6_97 : (.instanceMethod yX11_count : Cond) ∈ sg_tbl := tb_6 _ (List.mem_of_getElem? (i := 97) (by decide +kernel)) (by decide +kernel)
theorem wl_6_98 : (.selects RX11 yX11_count yX11_count : Cond) ∈ sg_tbl := tb_6 _ (List.mem_of_getElem? (i := 98) (by decide +kernel)) (by decide +kernel)
theorem wl_3_25 : (.code yX11_fault cX11_fault 2 (some .int) : Cond) ∈ sg_tbl := tb_3 _ (List.mem_of_getElem? (i := 25) (by decide +kernel)) (by decide +kernel)
theorem wl_3_23 : (.instanceMethod yX11_fault : Cond) ∈ sg_tbl := tb_3 _ (List.mem_of_getElem? (i := 23) (by decide +kernel)) (by decide +kernel)
theorem wl_3_24 : (.selects RX11 yX11_fault yX11_fault : Cond) ∈ sg_tbl := tb_3 _ (List.mem_of_getElem? (i := 24) (by decide +kernel)) (by decide +kernel)
theorem wl_4_66 : (.code yX8_face cX8_face 3 none : Cond) ∈ sg_tbl := tb_4 _ (List.mem_of_getElem? (i := 66) (by decide +kernel)) (by decide +kernel)
theorem wl_4_64 : (.instanceMethod yX8_face : Cond) ∈ sg_tbl := tb_4 _ (List.mem_of_getElem? (i := 64) (by decide +kernel)) (by decide +kernel)
theorem wl_4_65 : (.selects RX8 yX8_face yX8_face : Cond) ∈ sg_tbl := tb_4 _ (List.mem_of_getElem? (i := 65) (by decide +kernel)) (by decide +kernel)
section
variable {p : Program} {l : Launch} {e : Env} {R : Room} {s : State} {m : MethodId} {args : Array Value} {below : List Frame} {meth : Method} {c : Code} {H : Heap} {locs : List Loc} {cells slots : Nat} {Q : State → Prop} {cc : ByteArray} {nL pc : Nat} {ls : Array Slot} {rest : List Value} {own : String} {D : va_G} {A : Nat → Prop} {tys : List (ClassId × FieldType)} {ad ks : List Nat} {P : sgPm} {H0 : Heap} {index : Nat} {base : Nat} {st0 : List Value} {a : Nat}
theorem gf_X10_3   (X : CallFix p m c cc nL s args sg_tbl own) (hK : va_K D vwCl tys s) (hG : sgG (KT P) D vwCl A tys ad ks H) (ha : isK ad ks 10 a) (hl : Cond.fieldLink own index "LawnAhead$Tape" "wrongAt" "I" ∈ sg_tbl) (hdg : decode cc pc = .ok (.getfield index, 3)) (kk : ∀ x : Int32, iv (-2147483648) 2147483647 x → fld D H 10 a 3 (.int x) → W p l e R s m args below meth c H locs cells slots Q (F0 m (pc + 3) ls (.int x :: rest))) : W p l e R s m args below meth c H locs cells slots Q (F0 m pc ls (.ref a :: rest)) :=
  sg_get X hK hG ha (k := 10) (ci := 10) rfl (C := RX10) (T := TX10) (N := 4) rfl inL_X10 3 (by decide) rfl hl (fun _ h => h) hdg (fun v hv hf => by obtain ⟨x, rfl, hx⟩ := hv; exact kk x hx hf)
theorem gf_X11_0   (X : CallFix p m c cc nL s args sg_tbl own) (hK : va_K D vwCl tys s) (hG : sgG (KT P) D vwCl A tys ad ks H) (ha : isK ad ks 11 a) (hl : Cond.fieldLink own index "LawnAhead" "tape" "LLawnAhead$Tape;" ∈ sg_tbl) (hdg : decode cc pc = .ok (.getfield index, 3)) (kk : ∀ x : Nat, isK ad ks 10 x → fld D H 11 a 0 (.ref x) → W p l e R s m args below meth c H locs cells slots Q (F0 m (pc + 3) ls (.ref x :: rest))) : W p l e R s m args below meth c H locs cells slots Q (F0 m pc ls (.ref a :: rest)) :=
  sg_get X hK hG ha (k := 11) (ci := 11) rfl (C := RX11) (T := TX11) (N := 17) rfl inL_X11 0 (by decide) rfl hl (fun _ h => h) hdg (fun v hv hf => by
    obtain ⟨h1, -⟩ | ⟨x, rfl, hx⟩ := hv
    · cases h1
    · exact kk x hx hf)
theorem gf_X11_1   (X : CallFix p m c cc nL s args sg_tbl own) (hK : va_K D vwCl tys s) (hG : sgG (KT P) D vwCl A tys ad ks H) (ha : isK ad ks 11 a) (hl : Cond.fieldLink own index "LawnAhead" "lawShelf" "[LLawnAhead$Law;" ∈ sg_tbl) (hdg : decode cc pc = .ok (.getfield index, 3)) (kk : ∀ x : Nat, isK ad ks 43 x → fld D H 11 a 1 (.ref x) → W p l e R s m args below meth c H locs cells slots Q (F0 m (pc + 3) ls (.ref x :: rest))) : W p l e R s m args below meth c H locs cells slots Q (F0 m pc ls (.ref a :: rest)) :=
  sg_get X hK hG ha (k := 11) (ci := 11) rfl (C := RX11) (T := TX11) (N := 17) rfl inL_X11 1 (by decide) rfl hl (fun _ h => h) hdg (fun v hv hf => by
    obtain ⟨h1, -⟩ | ⟨x, rfl, hx⟩ := hv
    · cases h1
    · exact kk x hx hf)
theorem gf_X11_11h   (X : CallFix p m c cc nL s args sg_tbl own) (hK : va_K D vwCl tys s) (hG : sgG (KT P) D vwCl A tys ad ks H) (ha : isK ad ks 11 a) (hl : Cond.fieldLink own index "LawnAhead" "spare" "LLawnAhead$Ground;" ∈ sg_tbl) (hdg : decode cc pc = .ok (.getfield index, 3)) (kk : ∀ x : Nat, isK ad ks 4 x → fld D H 11 a 11 (.ref x) → gof (KT P) 11 a 11 (.ref x) → W p l e R s m args below meth c H locs cells slots Q (F0 m (pc + 3) ls (.ref x :: rest))) : W p l e R s m args below meth c H locs cells slots Q (F0 m pc ls (.ref a :: rest)) :=
  sg_getH X hK hG ha (k := 11) (ci := 11) rfl (C := RX11) (T := TX11) (N := 17) rfl inL_X11 11 (by decide) rfl hl (fun _ h => h) hdg (fun v hv hf hg => by
    obtain ⟨h1, -⟩ | ⟨x, rfl, hx⟩ := hv
    · cases h1
    · exact kk x hx hf hg)
theorem gf_X11_12   (X : CallFix p m c cc nL s args sg_tbl own) (hK : va_K D vwCl tys s) (hG : sgG (KT P) D vwCl A tys ad ks H) (ha : isK ad ks 11 a) (hl : Cond.fieldLink own index "LawnAhead" "lawCount" "I" ∈ sg_tbl) (hdg : decode cc pc = .ok (.getfield index, 3)) (kk : ∀ x : Int32, iv 0 4 x → iv (P.2.2.2.2.2.2.1.val : Int) (P.2.2.2.2.2.2.1.val : Int) x → fld D H 11 a 12 (.int x) → W p l e R s m args below meth c H locs cells slots Q (F0 m (pc + 3) ls (.int x :: rest))) : W p l e R s m args below meth c H locs cells slots Q (F0 m pc ls (.ref a :: rest)) :=
  sg_get X hK hG ha (k := 11) (ci := 11) rfl (C := RX11) (T := TX11) (N := 17) rfl inL_X11 12 (by decide) rfl hl (fun _ h => h) hdg (fun v hv hf => by obtain ⟨x, rfl, hx⟩ := hv; exact kk x (sg_pin4 hx) hx hf)
theorem gf_X11_14   (X : CallFix p m c cc nL s args sg_tbl own) (hK : va_K D vwCl tys s) (hG : sgG (KT P) D vwCl A tys ad ks H) (ha : isK ad ks 11 a) (hl : Cond.fieldLink own index "LawnAhead" "holding" "I" ∈ sg_tbl) (hdg : decode cc pc = .ok (.getfield index, 3)) (kk : ∀ x : Int32, iv (-2147483648) 2147483647 x → fld D H 11 a 14 (.int x) → W p l e R s m args below meth c H locs cells slots Q (F0 m (pc + 3) ls (.int x :: rest))) : W p l e R s m args below meth c H locs cells slots Q (F0 m pc ls (.ref a :: rest)) :=
  sg_get X hK hG ha (k := 11) (ci := 11) rfl (C := RX11) (T := TX11) (N := 17) rfl inL_X11 14 (by decide) rfl hl (fun _ h => h) hdg (fun v hv hf => by obtain ⟨x, rfl, hx⟩ := hv; exact kk x hx hf)
theorem gg_X11_10   (X : CallFix p m c cc nL s args sg_tbl own) (hK : va_K D vwCl tys s) (hG : sgG (KT P) D vwCl A tys ad ks H) (ha : isK ad ks 11 a) (hl : Cond.fieldLink own index "LawnAhead" "ground" "LLawnAhead$Ground;" ∈ sg_tbl) {v : Value} (hf : fld D H 11 a 10 v) (hdg : decode cc pc = .ok (.getfield index, 3)) (kk : W p l e R s m args below meth c H locs cells slots Q (F0 m (pc + 3) ls (v :: rest))) : W p l e R s m args below meth c H locs cells slots Q (F0 m pc ls (.ref a :: rest)) :=
  sg_getf X hK hG ha (k := 11) (ci := 11) rfl (C := RX11) (T := TX11) (N := 17) rfl inL_X11 10 (by decide) (show 10 < 17 by decide) hl (fun _ h => h) hf hdg kk
theorem pf_X8_0  {x : Value}  (X : CallFix p m c cc nL s args sg_tbl own) (hK : va_K D vwCl tys s) (hG : sgG (KT P) D vwCl A tys ad ks H) (hS : va_S A H0 H locs) (ha : isK ad ks 8 a) (hl : Cond.fieldLink own index "LawnAhead$Sight" "ground" "LLawnAhead$Ground;" ∈ sg_tbl) (hv : okV ad ks (.inr (.inl (false, 4))) x) (hdg : decode cc pc = .ok (.putfield index, 3)) (kk : ∀ (H1 : Heap) (locs1 : List Loc), sgG (KT P) D vwCl A tys ad ks H1 → va_S A H0 H1 locs1 → fld D H1 8 a 0 x → sgFr (KT P) D vwCl ad ks H H1 (fun a' j' => a' = a ∧ j' = 0) → W p l e R s m args below meth c H1 locs1 cells slots Q (F0 m (pc + 3) ls rest)) : W p l e R s m args below meth c H locs cells slots Q (F0 m pc ls (x :: .ref a :: rest)) :=
  sg_put X hK hG hS ha (k := 8) (ci := 8) rfl (C := RX8) (T := TX8) (N := 9) rfl inL_X8 tyX8 tyX8_ok nmX8 0 (by decide) rfl hl (fun _ h => h) rfl (ty := (tyX8 0)) rfl (by rcases hv with ⟨-, rfl⟩ | ⟨y, rfl, -⟩ <;> rfl) (by rcases hv with ⟨-, rfl⟩ | ⟨y, rfl, -⟩ <;> rfl) hv hdg kk
theorem pf_X8_1xn    (X : CallFix p m c cc nL s args sg_tbl own) (hK : va_K D vwCl tys s) (hG : sgG (KT P) D vwCl A tys ad ks H) (hS : va_S A H0 H locs) (ha : isK ad ks 8 a) (hl : Cond.fieldLink own index "LawnAhead$Sight" "law" "LLawnAhead$Law;" ∈ sg_tbl) (hv : okV ad ks (.inr (.inl (true, 999))) (.null)) (hdg : decode cc pc = .ok (.putfield index, 3)) (kk : ∀ (H1 : Heap) (locs1 : List Loc), sgG (KT (false, P.2)) D vwCl A tys ad ks H1 → va_S A H0 H1 locs1 → W p l e R s m args below meth c H1 locs1 cells slots Q (F0 m (pc + 3) ls rest)) : W p l e R s m args below meth c H locs cells slots Q (F0 m pc ls (.null :: .ref a :: rest)) :=
  sg_put1 (kt' := KT (false, P.2)) X hK hG hS ha (k := 8) (by decide) (ci := 8) (fts := [.inr (.inl (false, 4)), bif P.1 then .inr (.inl (false, 6)) else .inr (.inl (true, 999)), .inr (.inl (false, 36)), .inr (.inl (false, 37)), .inr (.inl (false, 38)), .inr (.inl (false, 39)), .inr (.inl (false, 40)), .inr (.inl (false, 41)), .inl (0, 270)]) (fts' := [.inr (.inl (false, 4)), bif (false, P.2).1 then .inr (.inl (false, 6)) else .inr (.inl (true, 999)), .inr (.inl (false, 36)), .inr (.inl (false, 37)), .inr (.inl (false, 38)), .inr (.inl (false, 39)), .inr (.inl (false, 40)), .inr (.inl (false, 41)), .inl (0, 270)]) rfl rfl (C := RX8) (T := TX8) (N := 9) rfl inL_X8 tyX8 tyX8_ok nmX8 1 (by decide) rfl (t' := .inr (.inl (true, 999))) rfl (fun i hi => by match i, hi with
    | 0, hi => rfl
    | 1, hi => exact absurd rfl hi
    | 2, hi => rfl
    | 3, hi => rfl
    | 4, hi => rfl
    | 5, hi => rfl
    | 6, hi => rfl
    | 7, hi => rfl
    | 8, hi => rfl
    | i + 9, hi => rfl) (fun i hi => by match i, hi with
    | 0, hi => rfl
    | 1, hi => rfl
    | 2, hi => rfl
    | 3, hi => rfl
    | 4, hi => rfl
    | 5, hi => rfl
    | 6, hi => rfl
    | 7, hi => rfl
    | 8, hi => exact absurd rfl hi
    | 9, hi => rfl
    | 10, hi => rfl
    | 11, hi => rfl
    | 12, hi => rfl
    | 13, hi => rfl
    | 14, hi => rfl
    | 15, hi => rfl
    | 16, hi => rfl
    | 17, hi => rfl
    | 18, hi => rfl
    | 19, hi => rfl
    | 20, hi => rfl
    | 21, hi => rfl
    | 22, hi => rfl
    | 23, hi => rfl
    | 24, hi => rfl
    | 25, hi => rfl
    | 26, hi => rfl
    | 27, hi => rfl
    | 28, hi => rfl
    | 29, hi => rfl
    | 30, hi => rfl
    | 31, hi => rfl
    | 32, hi => rfl
    | 33, hi => rfl
    | 34, hi => rfl
    | 35, hi => rfl
    | 36, hi => rfl
    | 37, hi => rfl
    | 38, hi => rfl
    | 39, hi => rfl
    | 40, hi => rfl
    | 41, hi => rfl
    | 42, hi => rfl
    | 43, hi => rfl
    | 44, hi => rfl
    | 45, hi => rfl
    | 46, hi => rfl
    | 47, hi => rfl
    | 48, hi => rfl
    | 49, hi => rfl
    | 50, hi => rfl
    | 51, hi => rfl
    | 52, hi => rfl
    | 53, hi => rfl
    | 54, hi => rfl
    | 55, hi => rfl
    | 56, hi => rfl
    | 57, hi => rfl
    | 58, hi => rfl
    | 59, hi => rfl
    | 60, hi => rfl
    | 61, hi => rfl
    | 62, hi => rfl
    | 63, hi => rfl
    | 64, hi => rfl
    | 65, hi => rfl
    | 66, hi => rfl
    | 67, hi => rfl
    | i + 68, hi => rfl) hl (fun _ h => h) rfl (ty := (tyX8 1)) rfl rfl rfl hv hdg kk
theorem al_43  {i : Int32}  (X : CallFix p m c cc nL s args sg_tbl own) (hK : va_K D vwCl tys s) (hG : sgG (KT P) D vwCl A tys ad ks H) (ha : isK ad ks 43 a) (hin : vp_in i 5) (hdg : decode cc pc = .ok (.aaload, 1)) (kk : ∀ x : Nat, isK ad ks 6 x → W p l e R s m args below meth c H locs cells slots Q (F0 m (pc + 1) ls (.ref x :: rest))) : W p l e R s m args below meth c H locs cells slots Q (F0 m pc ls (.int i :: .ref a :: rest)) :=
  sg_aald X hK hG ha (k := 43) rfl hin hdg (fun v hv => by rcases hv with ⟨h1, -⟩ | ⟨x, rfl, hx⟩ <;> first | (cases h1; done) | exact kk x hx)
theorem al_44h  {i : Int32}  (X : CallFix p m c cc nL s args sg_tbl own) (hK : va_K D vwCl tys s) (hG : sgG (KT P) D vwCl A tys ad ks H) (ha : isK ad ks 44 a) (hin : vp_in i 5) (hdg : decode cc pc = .ok (.aaload, 1)) (kk : ∀ x : Nat, isK ad ks 3 x → gof (KT P) 44 a i.toNatClampNeg (.ref x) → W p l e R s m args below meth c H locs cells slots Q (F0 m (pc + 1) ls (.ref x :: rest))) : W p l e R s m args below meth c H locs cells slots Q (F0 m pc ls (.int i :: .ref a :: rest)) :=
  sg_aaldH X hK hG ha (k := 44) rfl hin hdg (fun v hv hg => by rcases hv with ⟨h1, -⟩ | ⟨x, rfl, hx⟩ <;> first | (cases h1; done) | exact kk x hx hg)
set_option maxHeartbeats 8000000 in
set_option maxRecDepth 100000 in
theorem m_X11_fit (l : Launch) {D : va_G} {base : Nat} {tys : List (ClassId × FieldType)} {ad ks : List Nat} {P : sgPm} (a0 : Nat) (h0 : isK ad ks 11 a0) (x1 : Int32) : sgMi l (KT P) D vwCl base tys ad ks yX11_fit cX11_fit 2 (some .int) ({ frames := 2, cells := 0, slots := 0, locals := 48 }) [.ref a0, .int x1] (fun r : Int32 => True) := by
  refine sg_ofW (by decide +kernel) (Nat.le_of_ble_eq_true rfl) (fun p e s m below meth c X hr hlk hb hK hC hG ls hl => ?_)
  have hS : va_S (fun q : Nat => base ≤ q) s.heap s.heap [] := va_S.rf
  have hl : lv_has ls 2 [(0, .ref a0), (1, .int x1)] := hl
  refine lv_aload_n X.1 X.2.1 dX11_fit_0 rfl (lv_at hl 0 rfl) ?_
  refine ca_X11_noLawn X hK hG hC (fun _ h => h) hS hb a0 h0 wl_4_74 hl.1 (rest := []) rfl (Nat.le_of_ble_eq_true rfl) ⟨Nat.le_of_ble_eq_true rfl, Nat.le_of_ble_eq_true rfl⟩ ⟨Nat.le_of_ble_eq_true rfl, Nat.le_of_ble_eq_true rfl⟩ dX11_fit_1 (fun f1 locs hf1 hS => ?_)
  have B3_12 : ∀ (locs : List Loc) (ls : Array Slot), va_S (fun q : Nat => base ≤ q) s.heap s.heap locs → lv_has ls 2 [] → W p l e (headSpec (Cond.code yX11_fit cX11_fit 2 (some .int) :: sg_tbl) ({ frames := 2, cells := 0, slots := 0, locals := 48 })).room s m #[.ref a0, .int x1] below meth c s.heap locs 0 0 (MQ below (va_Qi (fun r (_ : Unit) => (fun r : Int32 => True) r) (fun _ => sgB (KT P) D vwCl base tys ad ks) (fun q : Nat => base ≤ q)) #[.ref a0, .int x1] s 0 0 (fun q : Nat => base ≤ q)) (F0 m 12 ls []) := by
    intro locs ls hS hl
    refine lv_iconst (v := (-1)) X.1 X.2.1 dX11_fit_12 (by decide +kernel) ?_
    refine lv_goto (tgt := 24) X.1 X.2.1 dX11_fit_13 (by decide) ?_
    exact sg_iret X hr hlk hb hK hC hG hS trivial dX11_fit_24
  refine lv_if_ne (tgt := 12) X.1 X.2.1 dX11_fit_4 (by decide) (fun c2 => ?_) (fun c2 => ?_)
  · exact B3_12 _ _ hS (lv_sub hl [] rfl)
  · refine lv_iload_n X.1 X.2.1 dX11_fit_7 rfl (lv_at hl 1 rfl) ?_
    refine lv_iconst (v := (-1)) X.1 X.2.1 dX11_fit_8 (by decide +kernel) ?_
    refine lv_icmp_ge (tgt := 16) X.1 X.2.1 dX11_fit_9 (by decide) (fun c4 => ?_) (fun c4 => ?_)
    · refine lv_aload_n X.1 X.2.1 dX11_fit_16 rfl (lv_at hl 0 rfl) ?_
      refine gf_X11_9 X hK hG h0 wl_2_204 dX11_fit_17 (fun q5 hq5 kq5 => ?_)
      refine lv_iload_n X.1 X.2.1 dX11_fit_20 rfl (lv_at hl 1 rfl) ?_
      refine ca_X1_fitting X hK hG hC (fun _ h => h) hS hb q5 hq5 x1 wl_5_234 hl.1 (rest := []) rfl (Nat.le_of_ble_eq_true rfl) ⟨Nat.le_of_ble_eq_true rfl, Nat.le_of_ble_eq_true rfl⟩ ⟨Nat.le_of_ble_eq_true rfl, Nat.le_of_ble_eq_true rfl⟩ dX11_fit_21 (fun f6 locs hf6 hS => ?_)
      exact sg_iret X hr hlk hb hK hC hG hS trivial dX11_fit_24
    · exact B3_12 _ _ hS (lv_sub hl [] rfl)

theorem ca_X11_fit   (X : CallFix p m c cc nL s args sg_tbl own) (hK : va_K D vwCl tys s) (hG : sgG (KT P) D vwCl (fun q : Nat => base ≤ q) tys ad ks H) (hC : sgC base s) (hS : va_S (fun q : Nat => base ≤ q) s.heap H locs) (hb : base ≤ s.heap.size) (a0 : Nat) (h0 : isK ad ks 11 a0) (x1 : Int32) (hl : Cond.methodLink own index yX11_fit ∈ sg_tbl) (hsize : ls.size = nL) (hst : st0 = [.int x1].reverse ++ .ref a0 :: rest) (hW : (rest.map fun v => v.category).sum ≤ 8) (hR : 3 ≤ R.frames ∧ 69 ≤ R.locals) (hf : cells ≤ R.cells ∧ slots ≤ R.slots) (hdg : decode cc pc = .ok (.invokevirtual index, 3)) (kk : ∀ (r : Int32) (H1 : Heap) (locs1 : List Loc), (fun r : Int32 => True) r → sgG (KT P) D vwCl (fun q : Nat => base ≤ q) tys ad ks H1 → va_S (fun q : Nat => base ≤ q) s.heap H1 locs1 → W p l e R s m args below meth c H1 locs1 cells slots Q (F0 m (pc + 3) ls (.int r :: rest))) : W p l e R s m args below meth c H locs cells slots Q (F0 m pc ls st0) :=
  sg_callVi X hK hG hC hS hb (m_X11_fit l a0 h0 x1) h0 (k := 11) (ci := 11) rfl (C := RX11) (T := TX11) (N := 17) rfl wl_5_233 wl_1_1 wl_5_231 wl_5_232 (n := 1) (by decide +kernel) rfl rfl rfl hl hsize hst hW hR hf hdg kk

set_option maxHeartbeats 8000000 in
set_option maxRecDepth 100000 in
theorem m_X11_tells (l : Launch) {D : va_G} {base : Nat} {tys : List (ClassId × FieldType)} {ad ks : List Nat} {P : sgPm} (a0 : Nat) (h0 : isK ad ks 11 a0) : sgMi l (KT P) D vwCl base tys ad ks yX11_tells cX11_tells 5 (some .int) ({ frames := 2, cells := 0, slots := 0, locals := 48 }) [.ref a0] (fun r : Int32 => True) := by
  refine sg_ofW (by decide +kernel) (Nat.le_of_ble_eq_true rfl) (fun p e s m below meth c X hr hlk hb hK hC hG ls hl => ?_)
  have hS : va_S (fun q : Nat => base ≤ q) s.heap s.heap [] := va_S.rf
  have hl : lv_has ls 5 [(0, .ref a0)] := hl
  refine lv_iconst (v := (-1)) X.1 X.2.1 dX11_tells_0 (by decide +kernel) ?_
  refine lv_istore_n (lv' := [(1, .int (-1)), (0, .ref a0)]) X.1 X.2.1 dX11_tells_1 rfl hl (by decide) rfl (fun ls hl => ?_)
  refine lv_iconst (v := 0) X.1 X.2.1 dX11_tells_2 (by decide +kernel) ?_
  refine lv_istore_n (lv' := [(2, .int 0), (1, .int (-1)), (0, .ref a0)]) X.1 X.2.1 dX11_tells_3 rfl hl (by decide) rfl (fun ls hl => ?_)
  refine lv_iconst (v := 0) X.1 X.2.1 dX11_tells_4 (by decide +kernel) ?_
  refine lv_istore_n (lv' := [(3, .int 0), (2, .int 0), (1, .int (-1)), (0, .ref a0)]) X.1 X.2.1 dX11_tells_5 rfl hl (by decide) rfl (fun ls hl => ?_)
  have B1_6 : ∀ (N : Nat) (locs : List Loc) (ls : Array Slot) (z1_1 : Int32) (z1_2 : Int32) (z1_3 : Int32), va_S (fun q : Nat => base ≤ q) s.heap s.heap locs → lv_has ls 5 [(0, .ref a0), (1, .int z1_1), (2, .int z1_2), (3, .int z1_3)] → iv (-1) 30 z1_1 → iv 0 30 z1_3 → (31 - z1_3.toInt).toNat ≤ N → W p l e (headSpec (Cond.code yX11_tells cX11_tells 5 (some .int) :: sg_tbl) ({ frames := 2, cells := 0, slots := 0, locals := 48 })).room s m #[.ref a0] below meth c s.heap locs 0 0 (MQ below (va_Qi (fun r (_ : Unit) => (fun r : Int32 => True) r) (fun _ => sgB (KT P) D vwCl base tys ad ks) (fun q : Nat => base ≤ q)) #[.ref a0] s 0 0 (fun q : Nat => base ≤ q)) (F0 m 6 ls []) := by
    intro N; induction N with
    | zero =>
      intro locs ls z1_1 z1_2 z1_3 hS hl hz1_1 hz1_3 hN
      exact absurd hN (by have := iv_up hz1_3; omega)
    | succ N ih1 =>
      intro locs ls z1_1 z1_2 z1_3 hS hl hz1_1 hz1_3 hN1
      refine lv_iload_n X.1 X.2.1 dX11_tells_6 rfl (lv_at hl 3 rfl) ?_
      refine lv_aload_n X.1 X.2.1 dX11_tells_7 rfl (lv_at hl 0 rfl) ?_
      refine gf_X11_10 X hK hG h0 wl_2_205 dX11_tells_8 (fun q2 hq2 kq2 => ?_)
      refine gf_X4_5 X hK hG hq2 wl_1_220 dX11_tells_11 (fun f3 hf3 kf3 => ?_)
      refine lv_icmp_ge (tgt := 73) X.1 X.2.1 dX11_tells_14 (by decide) (fun c4 => ?_) (fun c4 => ?_)
      · refine lv_iload_n X.1 X.2.1 dX11_tells_73 rfl (lv_at hl 1 rfl) ?_
        exact sg_iret X hr hlk hb hK hC hG hS trivial dX11_tells_74
      · refine lv_aload_n X.1 X.2.1 dX11_tells_17 rfl (lv_at hl 0 rfl) ?_
        refine lv_iconst (v := 1) X.1 X.2.1 dX11_tells_18 (by decide +kernel) ?_
        refine lv_iload_n X.1 X.2.1 dX11_tells_19 rfl (lv_at hl 3 rfl) ?_
        refine lv_ishl X.1 X.2.1 dX11_tells_20 ?_
        refine lv_topi (fun f5 ef5 => ?_)
        refine ca_X11_kindOf X hK hG hC (fun _ h => h) hS hb a0 h0 f5 wl_5_221 hl.1 (rest := []) rfl (Nat.le_of_ble_eq_true rfl) ⟨Nat.le_of_ble_eq_true rfl, Nat.le_of_ble_eq_true rfl⟩ ⟨Nat.le_of_ble_eq_true rfl, Nat.le_of_ble_eq_true rfl⟩ dX11_tells_21 (fun f6 locs hf6 hS => ?_)
        have B8_67 : ∀ (locs : List Loc) (ls : Array Slot) (z8_1 : Int32) (z8_2 : Int32), va_S (fun q : Nat => base ≤ q) s.heap s.heap locs → lv_has ls 5 [(0, .ref a0), (1, .int z8_1), (2, .int z8_2), (3, .int z1_3)] → iv (-1) 30 z8_1 → W p l e (headSpec (Cond.code yX11_tells cX11_tells 5 (some .int) :: sg_tbl) ({ frames := 2, cells := 0, slots := 0, locals := 48 })).room s m #[.ref a0] below meth c s.heap locs 0 0 (MQ below (va_Qi (fun r (_ : Unit) => (fun r : Int32 => True) r) (fun _ => sgB (KT P) D vwCl base tys ad ks) (fun q : Nat => base ≤ q)) #[.ref a0] s 0 0 (fun q : Nat => base ≤ q)) (F0 m 67 ls []) := by
          intro locs ls z8_1 z8_2 hS hl hz8_1
          obtain ⟨y9, ey9⟩ : ∃ y : Int32, y = z1_3 + Int32.ofInt 1 := ⟨_, rfl⟩
          refine lv_iinc (v := y9) (lv' := [(3, .int y9), (0, .ref a0), (1, .int z8_1), (2, .int z8_2)]) X.1 X.2.1 dX11_tells_67 hl (k := 3) rfl ey9.symm (by decide) rfl (fun ls hl => ?_)
          refine lv_goto (tgt := 6) X.1 X.2.1 dX11_tells_70 (by decide) ?_
          exact ih1 _ _ z8_1 z8_2 y9 hS (lv_sub hl [1, 2, 3, 0] rfl) hz8_1 (iv_of (iv_add (a' := 1) (b' := 30) ey9 (iv_lt (b' := 29) (iv_gt_of c4) hz1_3 hf3 (by decide +kernel)) (iv_c _ (a := 1) (b := 1) (by decide +kernel)) (by decide +kernel)) (a' := 0) (b' := 30) (by decide +kernel)) (iv_stepU ey9 (iv_lt (b' := 29) (iv_gt_of c4) hz1_3 hf3 (by decide +kernel)) (by decide +kernel) hN1)
        refine lv_if_ne (tgt := 67) X.1 X.2.1 dX11_tells_24 (by decide) (fun c7 => ?_) (fun c7 => ?_)
        · exact B8_67 _ _ z1_1 z1_2 hS (lv_sub hl [0, 1, 2, 3] rfl) hz1_1
        · refine lv_aload_n X.1 X.2.1 dX11_tells_27 rfl (lv_at hl 0 rfl) ?_
          refine gf_X11_9 X hK hG h0 wl_2_204 dX11_tells_28 (fun q10 hq10 kq10 => ?_)
          refine lv_aload_n X.1 X.2.1 dX11_tells_31 rfl (lv_at hl 0 rfl) ?_
          refine gg_X11_10 X hK hG h0 wl_2_205 kq2 dX11_tells_32 ?_
          refine lv_iload_n X.1 X.2.1 dX11_tells_35 rfl (lv_at hl 3 rfl) ?_
          refine lv_aload_n X.1 X.2.1 dX11_tells_36 rfl (lv_at hl 0 rfl) ?_
          refine gf_X11_3 X hK hG h0 wl_2_198 dX11_tells_37 (fun q11 hq11 kq11 => ?_)
          refine gf_X9_0 X hK hG hq11 wl_1_118 dX11_tells_40 (fun f12 hf12 kf12 => ?_)
          refine ca_X4_around X hK hG hC (fun _ h => h) hS hb q2 hq2 z1_3 f12 wl_5_225 hl.1 (rest := [.ref q10]) rfl (Nat.le_of_ble_eq_true rfl) ⟨Nat.le_of_ble_eq_true rfl, Nat.le_of_ble_eq_true rfl⟩ ⟨Nat.le_of_ble_eq_true rfl, Nat.le_of_ble_eq_true rfl⟩ dX11_tells_43 (fun f13 locs hf13 hS => ?_)
          refine ca_X1_apart X hK hG hC (fun _ h => h) hS hb q10 hq10 f13 wl_6_6 hl.1 (rest := []) rfl (Nat.le_of_ble_eq_true rfl) ⟨Nat.le_of_ble_eq_true rfl, Nat.le_of_ble_eq_true rfl⟩ ⟨Nat.le_of_ble_eq_true rfl, Nat.le_of_ble_eq_true rfl⟩ dX11_tells_46 (fun f14 locs hf14 hS => ?_)
          refine lv_istore (lv' := [(4, .int f14), (0, .ref a0), (1, .int z1_1), (2, .int z1_2), (3, .int z1_3)]) X.1 X.2.1 dX11_tells_49 hl (by decide) rfl (fun ls hl => ?_)
          refine lv_iload_n X.1 X.2.1 dX11_tells_51 rfl (lv_at hl 2 rfl) ?_
          refine lv_iconst (v := (-1)) X.1 X.2.1 dX11_tells_52 (by decide +kernel) ?_
          have B16_62 : ∀ (locs : List Loc) (ls : Array Slot), va_S (fun q : Nat => base ≤ q) s.heap s.heap locs → lv_has ls 5 [(0, .ref a0), (3, .int z1_3), (4, .int f14)] → W p l e (headSpec (Cond.code yX11_tells cX11_tells 5 (some .int) :: sg_tbl) ({ frames := 2, cells := 0, slots := 0, locals := 48 })).room s m #[.ref a0] below meth c s.heap locs 0 0 (MQ below (va_Qi (fun r (_ : Unit) => (fun r : Int32 => True) r) (fun _ => sgB (KT P) D vwCl base tys ad ks) (fun q : Nat => base ≤ q)) #[.ref a0] s 0 0 (fun q : Nat => base ≤ q)) (F0 m 62 ls []) := by
            intro locs ls hS hl
            refine lv_iload_n X.1 X.2.1 dX11_tells_62 rfl (lv_at hl 1 rfl) ?_
            refine lv_istore_n (lv' := [(1, .int z1_3), (0, .ref a0), (3, .int z1_3), (4, .int f14)]) X.1 X.2.1 dX11_tells_63 rfl hl (by decide) rfl (fun ls hl => ?_)
            refine lv_iload X.1 X.2.1 dX11_tells_64 (lv_at hl 3 rfl) ?_
            refine lv_istore_n (lv' := [(2, .int f14), (1, .int z1_3), (0, .ref a0), (3, .int z1_3), (4, .int f14)]) X.1 X.2.1 dX11_tells_66 rfl hl (by decide) rfl (fun ls hl => ?_)
            exact B8_67 _ _ z1_3 f14 hS (lv_sub hl [2, 1, 0, 3] rfl) (iv_of (iv_lt (b' := 29) (iv_gt_of c4) hz1_3 hf3 (by decide +kernel)) (a' := (-1)) (b' := 30) (by decide +kernel))
          refine lv_icmp_eq (tgt := 62) X.1 X.2.1 dX11_tells_53 (by decide) (fun c15 => ?_) (fun c15 => ?_)
          · exact B16_62 _ _ hS (lv_sub hl [1, 4, 0] rfl)
          · refine lv_iload X.1 X.2.1 dX11_tells_56 (lv_at hl 0 rfl) ?_
            refine lv_iload_n X.1 X.2.1 dX11_tells_58 rfl (lv_at hl 3 rfl) ?_
            refine lv_icmp_ge (tgt := 67) X.1 X.2.1 dX11_tells_59 (by decide) (fun c17 => ?_) (fun c17 => ?_)
            · exact B8_67 _ _ z1_1 z1_2 hS (lv_sub hl [1, 2, 3, 4] rfl) (iv_of (iv_ne_lo (a' := 0) c15 hz1_1 (by decide +kernel)) (a' := (-1)) (b' := 30) (by decide +kernel))
            · exact B16_62 _ _ hS (lv_sub hl [1, 4, 0] rfl)
  exact B1_6 _ _ _ (-1) 0 0 hS (lv_sub hl [3, 2, 1, 0] rfl) (iv_of (iv_c (-1) (a := (-1)) (b := (-1)) (by decide +kernel)) (a' := (-1)) (b' := 30) (by decide +kernel)) (iv_of (iv_c 0 (a := 0) (b := 0) (by decide +kernel)) (a' := 0) (b' := 30) (by decide +kernel)) (Nat.le_refl _)

theorem ca_X11_tells   (X : CallFix p m c cc nL s args sg_tbl own) (hK : va_K D vwCl tys s) (hG : sgG (KT P) D vwCl (fun q : Nat => base ≤ q) tys ad ks H) (hC : sgC base s) (hS : va_S (fun q : Nat => base ≤ q) s.heap H locs) (hb : base ≤ s.heap.size) (a0 : Nat) (h0 : isK ad ks 11 a0) (hl : Cond.methodLink own index yX11_tells ∈ sg_tbl) (hsize : ls.size = nL) (hst : st0 = [].reverse ++ .ref a0 :: rest) (hW : (rest.map fun v => v.category).sum ≤ 8) (hR : 3 ≤ R.frames ∧ 72 ≤ R.locals) (hf : cells ≤ R.cells ∧ slots ≤ R.slots) (hdg : decode cc pc = .ok (.invokevirtual index, 3)) (kk : ∀ (r : Int32) (H1 : Heap) (locs1 : List Loc), (fun r : Int32 => True) r → sgG (KT P) D vwCl (fun q : Nat => base ≤ q) tys ad ks H1 → va_S (fun q : Nat => base ≤ q) s.heap H1 locs1 → W p l e R s m args below meth c H1 locs1 cells slots Q (F0 m (pc + 3) ls (.int r :: rest))) : W p l e R s m args below meth c H locs cells slots Q (F0 m pc ls st0) :=
  sg_callVi X hK hG hC hS hb (m_X11_tells l a0 h0) h0 (k := 11) (ci := 11) rfl (C := RX11) (T := TX11) (N := 17) rfl wl_6_5 wl_1_1 wl_6_3 wl_6_4 (n := 0) (by decide +kernel) rfl rfl rfl hl hsize hst hW hR hf hdg kk

set_option maxHeartbeats 8000000 in
set_option maxRecDepth 100000 in
theorem m_X11_alike (l : Launch) {D : va_G} {base : Nat} {tys : List (ClassId × FieldType)} {ad ks : List Nat} {P : sgPm} (a0 : Nat) (h0 : isK ad ks 11 a0) (x1 : Int32) : sgMi l (KT P) D vwCl base tys ad ks yX11_alike cX11_alike 6 (some .int) ({ frames := 3, cells := 0, slots := 0, locals := 69 }) [.ref a0, .int x1] (fun r : Int32 => True) := by
  refine sg_ofW (by decide +kernel) (Nat.le_of_ble_eq_true rfl) (fun p e s m below meth c X hr hlk hb hK hC hG ls hl => ?_)
  have hS : va_S (fun q : Nat => base ≤ q) s.heap s.heap [] := va_S.rf
  have hl : lv_has ls 6 [(0, .ref a0), (1, .int x1)] := hl
  refine lv_aload_n X.1 X.2.1 dX11_alike_0 rfl (lv_at hl 0 rfl) ?_
  refine ca_X11_noLawn X hK hG hC (fun _ h => h) hS hb a0 h0 wl_4_74 hl.1 (rest := []) rfl (Nat.le_of_ble_eq_true rfl) ⟨Nat.le_of_ble_eq_true rfl, Nat.le_of_ble_eq_true rfl⟩ ⟨Nat.le_of_ble_eq_true rfl, Nat.le_of_ble_eq_true rfl⟩ dX11_alike_1 (fun f1 locs hf1 hS => ?_)
  refine lv_if_ne (tgt := 16) X.1 X.2.1 dX11_alike_4 (by decide) (fun c2 => ?_) (fun c2 => ?_)
  · refine lv_iconst (v := (-1)) X.1 X.2.1 dX11_alike_16 (by decide +kernel) ?_
    exact sg_iret X hr hlk hb hK hC hG hS trivial dX11_alike_17
  · refine lv_iload_n X.1 X.2.1 dX11_alike_7 rfl (lv_at hl 1 rfl) ?_
    refine lv_if_lt (tgt := 16) X.1 X.2.1 dX11_alike_8 (by decide) (fun c3 => ?_) (fun c3 => ?_)
    · refine lv_iconst (v := (-1)) X.1 X.2.1 dX11_alike_16 (by decide +kernel) ?_
      exact sg_iret X hr hlk hb hK hC hG hS trivial dX11_alike_17
    · refine lv_iload_n X.1 X.2.1 dX11_alike_11 rfl (lv_at hl 1 rfl) ?_
      refine lv_iconst (v := 1) X.1 X.2.1 dX11_alike_12 (by decide +kernel) ?_
      refine lv_icmp_le (tgt := 18) X.1 X.2.1 dX11_alike_13 (by decide) (fun c4 => ?_) (fun c4 => ?_)
      · refine lv_iconst (v := 0) X.1 X.2.1 dX11_alike_18 (by decide +kernel) ?_
        refine lv_istore_n (lv' := [(2, .int 0), (0, .ref a0), (1, .int x1)]) X.1 X.2.1 dX11_alike_19 rfl hl (by decide) rfl (fun ls hl => ?_)
        refine lv_aload_n X.1 X.2.1 dX11_alike_20 rfl (lv_at hl 1 rfl) ?_
        refine gf_X11_3 X hK hG h0 wl_2_198 dX11_alike_21 (fun q5 hq5 kq5 => ?_)
        refine gf_X9_0 X hK hG hq5 wl_1_118 dX11_alike_24 (fun f6 hf6 kf6 => ?_)
        refine lv_istore_n (lv' := [(3, .int f6), (2, .int 0), (0, .ref a0), (1, .int x1)]) X.1 X.2.1 dX11_alike_27 rfl hl (by decide) rfl (fun ls hl => ?_)
        refine lv_iconst (v := 0) X.1 X.2.1 dX11_alike_28 (by decide +kernel) ?_
        refine lv_istore (lv' := [(4, .int 0), (3, .int f6), (2, .int 0), (0, .ref a0), (1, .int x1)]) X.1 X.2.1 dX11_alike_29 hl (by decide) rfl (fun ls hl => ?_)
        have B7_31 : ∀ (N : Nat) (locs : List Loc) (ls : Array Slot) (z7_2 : Int32) (z7_3 : Int32) (z7_4 : Int32), va_S (fun q : Nat => base ≤ q) s.heap s.heap locs → lv_has ls 6 [(0, .ref a0), (1, .int x1), (2, .int z7_2), (3, .int z7_3), (4, .int z7_4)] → iv (-2147483648) 1073741823 z7_3 → iv 0 8 z7_4 → (9 - z7_4.toInt).toNat ≤ N → W p l e (headSpec (Cond.code yX11_alike cX11_alike 6 (some .int) :: sg_tbl) ({ frames := 3, cells := 0, slots := 0, locals := 69 })).room s m #[.ref a0, .int x1] below meth c s.heap locs 0 0 (MQ below (va_Qi (fun r (_ : Unit) => (fun r : Int32 => True) r) (fun _ => sgB (KT P) D vwCl base tys ad ks) (fun q : Nat => base ≤ q)) #[.ref a0, .int x1] s 0 0 (fun q : Nat => base ≤ q)) (F0 m 31 ls []) := by
          intro N; induction N with
          | zero =>
            intro locs ls z7_2 z7_3 z7_4 hS hl hz7_3 hz7_4 hN
            exact absurd hN (by have := iv_up hz7_4; omega)
          | succ N ih7 =>
            intro locs ls z7_2 z7_3 z7_4 hS hl hz7_3 hz7_4 hN7
            refine lv_iload X.1 X.2.1 dX11_alike_31 (lv_at hl 4 rfl) ?_
            refine lv_aload_n X.1 X.2.1 dX11_alike_33 rfl (lv_at hl 0 rfl) ?_
            refine gf_X11_10 X hK hG h0 wl_2_205 dX11_alike_34 (fun q8 hq8 kq8 => ?_)
            refine ca_X4_mirrors X hK hG hC (fun _ h => h) hS hb q8 hq8 wl_6_17 hl.1 (rest := [.int z7_4]) rfl (Nat.le_of_ble_eq_true rfl) ⟨Nat.le_of_ble_eq_true rfl, Nat.le_of_ble_eq_true rfl⟩ ⟨Nat.le_of_ble_eq_true rfl, Nat.le_of_ble_eq_true rfl⟩ dX11_alike_37 (fun f9 locs hf9 hS => ?_)
            refine lv_icmp_ge (tgt := 89) X.1 X.2.1 dX11_alike_40 (by decide) (fun c10 => ?_) (fun c10 => ?_)
            · refine lv_iload_n X.1 X.2.1 dX11_alike_89 rfl (lv_at hl 1 rfl) ?_
              refine lv_if_ne (tgt := 97) X.1 X.2.1 dX11_alike_90 (by decide) (fun c11 => ?_) (fun c11 => ?_)
              · refine lv_iload_n X.1 X.2.1 dX11_alike_97 rfl (lv_at hl 3 rfl) ?_
                exact sg_iret X hr hlk hb hK hC hG hS trivial dX11_alike_98
              · refine lv_iload_n X.1 X.2.1 dX11_alike_93 rfl (lv_at hl 2 rfl) ?_
                refine lv_goto (tgt := 98) X.1 X.2.1 dX11_alike_94 (by decide) ?_
                exact sg_iret X hr hlk hb hK hC hG hS trivial dX11_alike_98
            · refine lv_aload_n X.1 X.2.1 dX11_alike_43 rfl (lv_at hl 0 rfl) ?_
              refine gg_X11_10 X hK hG h0 wl_2_205 kq8 dX11_alike_44 ?_
              refine lv_aload_n X.1 X.2.1 dX11_alike_47 rfl (lv_at hl 0 rfl) ?_
              refine gg_X11_3 X hK hG h0 wl_2_198 kq5 dX11_alike_48 ?_
              refine gg_X9_0 X hK hG hq5 wl_1_118 kf6 dX11_alike_51 ?_
              refine lv_iload X.1 X.2.1 dX11_alike_54 (lv_at hl 4 rfl) ?_
              refine ca_X4_mirroredBits X hK hG hC (fun _ h => h) hS hb q8 hq8 f6 z7_4 wl_6_21 hl.1 (rest := []) rfl (Nat.le_of_ble_eq_true rfl) ⟨Nat.le_of_ble_eq_true rfl, Nat.le_of_ble_eq_true rfl⟩ ⟨Nat.le_of_ble_eq_true rfl, Nat.le_of_ble_eq_true rfl⟩ dX11_alike_56 (fun f12 locs hf12 hS => ?_)
              refine lv_istore (lv' := [(5, .int f12), (0, .ref a0), (1, .int x1), (2, .int z7_2), (3, .int z7_3), (4, .int z7_4)]) X.1 X.2.1 dX11_alike_59 hl (by decide) rfl (fun ls hl => ?_)
              refine lv_iload X.1 X.2.1 dX11_alike_61 (lv_at hl 0 rfl) ?_
              refine lv_aload_n X.1 X.2.1 dX11_alike_63 rfl (lv_at hl 1 rfl) ?_
              refine gg_X11_3 X hK hG h0 wl_2_198 kq5 dX11_alike_64 ?_
              refine gg_X9_0 X hK hG hq5 wl_1_118 kf6 dX11_alike_67 ?_
              have B14_76 : ∀ (locs : List Loc) (ls : Array Slot) (z14_2 : Int32), va_S (fun q : Nat => base ≤ q) s.heap s.heap locs → lv_has ls 6 [(0, .ref a0), (1, .int x1), (2, .int z14_2), (3, .int z7_3), (4, .int z7_4), (5, .int f12)] → W p l e (headSpec (Cond.code yX11_alike cX11_alike 6 (some .int) :: sg_tbl) ({ frames := 3, cells := 0, slots := 0, locals := 69 })).room s m #[.ref a0, .int x1] below meth c s.heap locs 0 0 (MQ below (va_Qi (fun r (_ : Unit) => (fun r : Int32 => True) r) (fun _ => sgB (KT P) D vwCl base tys ad ks) (fun q : Nat => base ≤ q)) #[.ref a0, .int x1] s 0 0 (fun q : Nat => base ≤ q)) (F0 m 76 ls []) := by
                intro locs ls z14_2 hS hl
                refine lv_iload_n X.1 X.2.1 dX11_alike_76 rfl (lv_at hl 3 rfl) ?_
                refine lv_iload X.1 X.2.1 dX11_alike_77 (lv_at hl 5 rfl) ?_
                refine va_mmin X.1 X.2.1 (X.2.2.1.trans hl.1.symm) X.2.2.2.1 (X.2.2.2.2 _ wl_6_29) (X.2.2.2.2 _ wl_3_64) (X.2.2.2.2 _ wl_1_15) (X.2.2.2.2 _ wl_3_65) (Nat.le_of_ble_eq_true rfl) (Nat.le_of_ble_eq_true rfl) (Nat.le_of_ble_eq_true rfl) (Nat.le_of_ble_eq_true rfl) dX11_alike_79 ?_
                refine lv_topi (fun f15 ef15 => ?_)
                refine lv_istore_n (lv' := [(3, .int f15), (0, .ref a0), (1, .int x1), (2, .int z14_2), (4, .int z7_4), (5, .int f12)]) X.1 X.2.1 dX11_alike_82 rfl hl (by decide) rfl (fun ls hl => ?_)
                obtain ⟨y16, ey16⟩ : ∃ y : Int32, y = z7_4 + Int32.ofInt 1 := ⟨_, rfl⟩
                refine lv_iinc (v := y16) (lv' := [(4, .int y16), (3, .int f15), (0, .ref a0), (1, .int x1), (2, .int z14_2), (5, .int f12)]) X.1 X.2.1 dX11_alike_83 hl (k := 4) rfl ey16.symm (by decide) rfl (fun ls hl => ?_)
                refine lv_goto (tgt := 31) X.1 X.2.1 dX11_alike_86 (by decide) ?_
                exact ih7 _ _ z14_2 f15 y16 hS (lv_sub hl [2, 3, 4, 1, 0] rfl) (iv_min (a' := (-2147483648)) (b' := 1073741823) ef15 hz7_3 (iv_top f12) (by decide +kernel)) (iv_of (iv_add (a' := 1) (b' := 8) ey16 (iv_lt (b' := 7) (iv_gt_of c10) hz7_4 hf9 (by decide +kernel)) (iv_c _ (a := 1) (b := 1) (by decide +kernel)) (by decide +kernel)) (a' := 0) (b' := 8) (by decide +kernel)) (iv_stepU ey16 (iv_lt (b' := 7) (iv_gt_of c10) hz7_4 hf9 (by decide +kernel)) (by decide +kernel) hN7)
              refine lv_icmp_ne (tgt := 76) X.1 X.2.1 dX11_alike_70 (by decide) (fun c13 => ?_) (fun c13 => ?_)
              · exact B14_76 _ _ z7_2 hS (lv_sub hl [1, 2, 3, 4, 5, 0] rfl)
              · obtain ⟨y17, ey17⟩ : ∃ y : Int32, y = z7_2 + Int32.ofInt 1 := ⟨_, rfl⟩
                refine lv_iinc (v := y17) (lv' := [(2, .int y17), (5, .int f12), (0, .ref a0), (1, .int x1), (3, .int z7_3), (4, .int z7_4)]) X.1 X.2.1 dX11_alike_73 hl (k := 3) rfl ey17.symm (by decide) rfl (fun ls hl => ?_)
                exact B14_76 _ _ y17 hS (lv_sub hl [2, 3, 0, 4, 5, 1] rfl)
        exact B7_31 _ _ _ 0 f6 0 hS (lv_sub hl [3, 4, 2, 1, 0] rfl) (iv_of hf6 (a' := (-2147483648)) (b' := 1073741823) (by decide +kernel)) (iv_of (iv_c 0 (a := 0) (b := 0) (by decide +kernel)) (a' := 0) (b' := 8) (by decide +kernel)) (Nat.le_refl _)
      · refine lv_iconst (v := (-1)) X.1 X.2.1 dX11_alike_16 (by decide +kernel) ?_
        exact sg_iret X hr hlk hb hK hC hG hS trivial dX11_alike_17

theorem ca_X11_alike   (X : CallFix p m c cc nL s args sg_tbl own) (hK : va_K D vwCl tys s) (hG : sgG (KT P) D vwCl (fun q : Nat => base ≤ q) tys ad ks H) (hC : sgC base s) (hS : va_S (fun q : Nat => base ≤ q) s.heap H locs) (hb : base ≤ s.heap.size) (a0 : Nat) (h0 : isK ad ks 11 a0) (x1 : Int32) (hl : Cond.methodLink own index yX11_alike ∈ sg_tbl) (hsize : ls.size = nL) (hst : st0 = [.int x1].reverse ++ .ref a0 :: rest) (hW : (rest.map fun v => v.category).sum ≤ 8) (hR : 4 ≤ R.frames ∧ 94 ≤ R.locals) (hf : cells ≤ R.cells ∧ slots ≤ R.slots) (hdg : decode cc pc = .ok (.invokevirtual index, 3)) (kk : ∀ (r : Int32) (H1 : Heap) (locs1 : List Loc), (fun r : Int32 => True) r → sgG (KT P) D vwCl (fun q : Nat => base ≤ q) tys ad ks H1 → va_S (fun q : Nat => base ≤ q) s.heap H1 locs1 → W p l e R s m args below meth c H1 locs1 cells slots Q (F0 m (pc + 3) ls (.int r :: rest))) : W p l e R s m args below meth c H locs cells slots Q (F0 m pc ls st0) :=
  sg_callVi X hK hG hC hS hb (m_X11_alike l a0 h0 x1) h0 (k := 11) (ci := 11) rfl (C := RX11) (T := TX11) (N := 17) rfl wl_6_16 wl_1_1 wl_6_14 wl_6_15 (n := 1) (by decide +kernel) rfl rfl rfl hl hsize hst hW hR hf hdg kk

set_option maxHeartbeats 8000000 in
set_option maxRecDepth 100000 in
theorem m_X11_leavesAll (l : Launch) {D : va_G} {base : Nat} {tys : List (ClassId × FieldType)} {ad ks : List Nat} {P : sgPm} {Hx : Heap} (a0 : Nat) (h0 : isK ad ks 11 a0) (x1 : Int32) : sgPi l (KT P) D vwCl base tys ad ks Hx yX11_leavesAll cX11_leavesAll 2 (some .boolean) ({ frames := 3, cells := 0, slots := 0, locals := 69 }) [.ref a0, .int x1] (fun r : Int32 => iv 0 1 r) := by
  refine sg_ofP (Pq := fun Hx => va_Qi (fun r (_ : Unit) => (fun r : Int32 => iv 0 1 r) r) (fun _ t => t.heap = Hx) (fun _ : Nat => False)) (by decide +kernel) (Nat.le_of_ble_eq_true rfl) (fun p e s m below meth c X hr hlk hb hK hC hG ls hl => ?_)
  have hS : va_S (fun _ : Nat => False) s.heap s.heap [] := va_S.rf
  have hl : lv_has ls 2 [(0, .ref a0), (1, .int x1)] := hl
  refine lv_aload_n X.1 X.2.1 dX11_leavesAll_0 rfl (lv_at hl 0 rfl) ?_
  refine gf_X11_10 X hK hG h0 wl_2_205 dX11_leavesAll_1 (fun q1 hq1 kq1 => ?_)
  refine lv_aload_n X.1 X.2.1 dX11_leavesAll_4 rfl (lv_at hl 0 rfl) ?_
  refine gf_X11_3 X hK hG h0 wl_2_198 dX11_leavesAll_5 (fun q2 hq2 kq2 => ?_)
  refine gf_X9_0 X hK hG hq2 wl_1_118 dX11_leavesAll_8 (fun f3 hf3 kf3 => ?_)
  refine lv_iload_n X.1 X.2.1 dX11_leavesAll_11 rfl (lv_at hl 1 rfl) ?_
  refine ca_X4_mirroredBits X hK hG hC (fun _ h => h.elim) hS hb q1 hq1 f3 x1 wl_6_21 hl.1 (rest := []) rfl (Nat.le_of_ble_eq_true rfl) ⟨Nat.le_of_ble_eq_true rfl, Nat.le_of_ble_eq_true rfl⟩ ⟨Nat.le_of_ble_eq_true rfl, Nat.le_of_ble_eq_true rfl⟩ dX11_leavesAll_12 (fun f4 locs hf4 hS => ?_)
  refine lv_aload_n X.1 X.2.1 dX11_leavesAll_15 rfl (lv_at hl 0 rfl) ?_
  refine gg_X11_3 X hK hG h0 wl_2_198 kq2 dX11_leavesAll_16 ?_
  refine gg_X9_0 X hK hG hq2 wl_1_118 kf3 dX11_leavesAll_19 ?_
  have B6_79 : ∀ (locs : List Loc) (ls : Array Slot), va_S (fun _ : Nat => False) s.heap s.heap locs → lv_has ls 2 [] → W p l e (headSpec (Cond.code yX11_leavesAll cX11_leavesAll 2 (some .boolean) :: sg_tbl) ({ frames := 3, cells := 0, slots := 0, locals := 69 })).room s m #[.ref a0, .int x1] below meth c s.heap locs 0 0 (MQ below (va_Qi (fun r (_ : Unit) => (fun r : Int32 => iv 0 1 r) r) (fun _ t => t.heap = s.heap) (fun _ : Nat => False)) #[.ref a0, .int x1] s 0 0 (fun _ : Nat => False)) (F0 m 79 ls []) := by
    intro locs ls hS hl
    refine lv_iconst (v := 0) X.1 X.2.1 dX11_leavesAll_79 (by decide +kernel) ?_
    exact sg_zretP X hr (sg_zn (iv_of (iv_c 0 (a := 0) (b := 0) (by decide +kernel)) (a' := 0) (b' := 1) (by decide +kernel))) hlk hS (iv_of (iv_c 0 (a := 0) (b := 0) (by decide +kernel)) (a' := 0) (b' := 1) (by decide +kernel)) dX11_leavesAll_80
  refine lv_icmp_ne (tgt := 79) X.1 X.2.1 dX11_leavesAll_22 (by decide) (fun c5 => ?_) (fun c5 => ?_)
  · exact B6_79 _ _ hS (lv_sub hl [] rfl)
  · refine lv_aload_n X.1 X.2.1 dX11_leavesAll_25 rfl (lv_at hl 0 rfl) ?_
    refine gg_X11_10 X hK hG h0 wl_2_205 kq1 dX11_leavesAll_26 ?_
    refine lv_aload_n X.1 X.2.1 dX11_leavesAll_29 rfl (lv_at hl 0 rfl) ?_
    refine gg_X11_10 X hK hG h0 wl_2_205 kq1 dX11_leavesAll_30 ?_
    refine gf_X4_10 X hK hG hq1 wl_1_233 dX11_leavesAll_33 (fun f7 hf7 kf7 => ?_)
    refine lv_iload_n X.1 X.2.1 dX11_leavesAll_36 rfl (lv_at hl 1 rfl) ?_
    refine ca_X4_mirroredBits X hK hG hC (fun _ h => h.elim) hS hb q1 hq1 f7 x1 wl_6_21 hl.1 (rest := []) rfl (Nat.le_of_ble_eq_true rfl) ⟨Nat.le_of_ble_eq_true rfl, Nat.le_of_ble_eq_true rfl⟩ ⟨Nat.le_of_ble_eq_true rfl, Nat.le_of_ble_eq_true rfl⟩ dX11_leavesAll_37 (fun f8 locs hf8 hS => ?_)
    refine lv_aload_n X.1 X.2.1 dX11_leavesAll_40 rfl (lv_at hl 0 rfl) ?_
    refine gg_X11_10 X hK hG h0 wl_2_205 kq1 dX11_leavesAll_41 ?_
    refine gg_X4_10 X hK hG hq1 wl_1_233 kf7 dX11_leavesAll_44 ?_
    refine lv_icmp_ne (tgt := 79) X.1 X.2.1 dX11_leavesAll_47 (by decide) (fun c9 => ?_) (fun c9 => ?_)
    · exact B6_79 _ _ hS (lv_sub hl [] rfl)
    · refine lv_aload_n X.1 X.2.1 dX11_leavesAll_50 rfl (lv_at hl 0 rfl) ?_
      refine gg_X11_10 X hK hG h0 wl_2_205 kq1 dX11_leavesAll_51 ?_
      refine lv_aload_n X.1 X.2.1 dX11_leavesAll_54 rfl (lv_at hl 0 rfl) ?_
      refine gg_X11_3 X hK hG h0 wl_2_198 kq2 dX11_leavesAll_55 ?_
      refine gf_X9_1 X hK hG hq2 wl_1_122 dX11_leavesAll_58 (fun f10 hf10 kf10 => ?_)
      refine lv_iload_n X.1 X.2.1 dX11_leavesAll_61 rfl (lv_at hl 1 rfl) ?_
      refine ca_X4_mirroredBits X hK hG hC (fun _ h => h.elim) hS hb q1 hq1 f10 x1 wl_6_21 hl.1 (rest := []) rfl (Nat.le_of_ble_eq_true rfl) ⟨Nat.le_of_ble_eq_true rfl, Nat.le_of_ble_eq_true rfl⟩ ⟨Nat.le_of_ble_eq_true rfl, Nat.le_of_ble_eq_true rfl⟩ dX11_leavesAll_62 (fun f11 locs hf11 hS => ?_)
      refine lv_aload_n X.1 X.2.1 dX11_leavesAll_65 rfl (lv_at hl 0 rfl) ?_
      refine gg_X11_3 X hK hG h0 wl_2_198 kq2 dX11_leavesAll_66 ?_
      refine gg_X9_1 X hK hG hq2 wl_1_122 kf10 dX11_leavesAll_69 ?_
      refine lv_icmp_ne (tgt := 79) X.1 X.2.1 dX11_leavesAll_72 (by decide) (fun c12 => ?_) (fun c12 => ?_)
      · exact B6_79 _ _ hS (lv_sub hl [] rfl)
      · refine lv_iconst (v := 1) X.1 X.2.1 dX11_leavesAll_75 (by decide +kernel) ?_
        refine lv_goto (tgt := 80) X.1 X.2.1 dX11_leavesAll_76 (by decide) ?_
        exact sg_zretP X hr (sg_zn (iv_of (iv_c 1 (a := 1) (b := 1) (by decide +kernel)) (a' := 0) (b' := 1) (by decide +kernel))) hlk hS (iv_of (iv_c 1 (a := 1) (b := 1) (by decide +kernel)) (a' := 0) (b' := 1) (by decide +kernel)) dX11_leavesAll_80

theorem ca_X11_leavesAll   (X : CallFix p m c cc nL s args sg_tbl own) (hK : va_K D vwCl tys s) (hG : sgG (KT P) D vwCl (fun q : Nat => base ≤ q) tys ad ks H) (hC : sgC base s) (hA : ∀ q : Nat, A q → base ≤ q) (hS : va_S A s.heap H locs) (hb : base ≤ s.heap.size) (a0 : Nat) (h0 : isK ad ks 11 a0) (x1 : Int32) (hl : Cond.methodLink own index yX11_leavesAll ∈ sg_tbl) (hsize : ls.size = nL) (hst : st0 = [.int x1].reverse ++ .ref a0 :: rest) (hW : (rest.map fun v => v.category).sum ≤ 8) (hR : 4 ≤ R.frames ∧ 90 ≤ R.locals) (hf : cells ≤ R.cells ∧ slots ≤ R.slots) (hdg : decode cc pc = .ok (.invokevirtual index, 3)) (kk : ∀ (r : Int32) (locs1 : List Loc), (fun r : Int32 => iv 0 1 r) r → va_S A s.heap H locs1 → W p l e R s m args below meth c H locs1 cells slots Q (F0 m (pc + 3) ls (.int r :: rest))) : W p l e R s m args below meth c H locs cells slots Q (F0 m pc ls st0) :=
  sg_callPVi X hK hG hC hA hS hb (m_X11_leavesAll l a0 h0 x1) h0 (k := 11) (ci := 11) rfl (C := RX11) (T := TX11) (N := 17) rfl wl_6_37 wl_1_1 wl_6_36 wl_0_45 (n := 1) (by decide +kernel) rfl rfl rfl hl hsize hst hW hR hf hdg kk

set_option maxHeartbeats 8000000 in
set_option maxRecDepth 100000 in
theorem m_X11_openings (l : Launch) {D : va_G} {base : Nat} {tys : List (ClassId × FieldType)} {ad ks : List Nat} {P : sgPm} (a0 : Nat) (h0 : isK ad ks 11 a0) : sgMi l (KT P) D vwCl base tys ad ks yX11_openings cX11_openings 4 (some .int) ({ frames := 5, cells := 0, slots := 0, locals := 129 }) [.ref a0] (fun r : Int32 => True) := by
  refine sg_ofW (by decide +kernel) (Nat.le_of_ble_eq_true rfl) (fun p e s m below meth c X hr hlk hb hK hC hG ls hl => ?_)
  have hS : va_S (fun q : Nat => base ≤ q) s.heap s.heap [] := va_S.rf
  have hl : lv_has ls 4 [(0, .ref a0)] := hl
  refine lv_aload_n X.1 X.2.1 dX11_openings_0 rfl (lv_at hl 0 rfl) ?_
  refine ca_X11_noLawn X hK hG hC (fun _ h => h) hS hb a0 h0 wl_4_74 hl.1 (rest := []) rfl (Nat.le_of_ble_eq_true rfl) ⟨Nat.le_of_ble_eq_true rfl, Nat.le_of_ble_eq_true rfl⟩ ⟨Nat.le_of_ble_eq_true rfl, Nat.le_of_ble_eq_true rfl⟩ dX11_openings_1 (fun f1 locs hf1 hS => ?_)
  refine lv_if_eq (tgt := 9) X.1 X.2.1 dX11_openings_4 (by decide) (fun c2 => ?_) (fun c2 => ?_)
  · refine lv_aload_n X.1 X.2.1 dX11_openings_9 rfl (lv_at hl 0 rfl) ?_
    refine gf_X11_5 X hK hG h0 wl_2_200 dX11_openings_10 (fun q3 hq3 kq3 => ?_)
    refine lv_aload_n X.1 X.2.1 dX11_openings_13 rfl (lv_at hl 0 rfl) ?_
    refine gf_X11_3 X hK hG h0 wl_2_198 dX11_openings_14 (fun q4 hq4 kq4 => ?_)
    refine gf_X9_0 X hK hG hq4 wl_1_118 dX11_openings_17 (fun f5 hf5 kf5 => ?_)
    refine lv_aload_n X.1 X.2.1 dX11_openings_20 rfl (lv_at hl 0 rfl) ?_
    refine gg_X11_3 X hK hG h0 wl_2_198 kq4 dX11_openings_21 ?_
    refine gf_X9_1 X hK hG hq4 wl_1_122 dX11_openings_24 (fun f6 hf6 kf6 => ?_)
    refine lv_aload_n X.1 X.2.1 dX11_openings_27 rfl (lv_at hl 0 rfl) ?_
    refine gg_X11_3 X hK hG h0 wl_2_198 kq4 dX11_openings_28 ?_
    refine gf_X9_3 X hK hG hq4 wl_1_130 dX11_openings_31 (fun f7 hf7 kf7 => ?_)
    refine ca_X8_growing X hK hG hC hS hb q3 hq3 f5 f6 f7 wl_4_208 hl.1 (rest := []) rfl (Nat.le_of_ble_eq_true rfl) ⟨Nat.le_of_ble_eq_true rfl, Nat.le_of_ble_eq_true rfl⟩ ⟨Nat.le_of_ble_eq_true rfl, Nat.le_of_ble_eq_true rfl⟩ dX11_openings_34 (fun f8 H locs hf8 hG hS => ?_)
    refine lv_istore_n (lv' := [(1, .int f8), (0, .ref a0)]) X.1 X.2.1 dX11_openings_37 rfl hl (by decide) rfl (fun ls hl => ?_)
    refine lv_iload_n X.1 X.2.1 dX11_openings_38 rfl (lv_at hl 0 rfl) ?_
    refine lv_istore_n (lv' := [(2, .int f8), (1, .int f8), (0, .ref a0)]) X.1 X.2.1 dX11_openings_39 rfl hl (by decide) rfl (fun ls hl => ?_)
    refine lv_iconst (v := 0) X.1 X.2.1 dX11_openings_40 (by decide +kernel) ?_
    refine lv_istore_n (lv' := [(3, .int 0), (2, .int f8), (1, .int f8), (0, .ref a0)]) X.1 X.2.1 dX11_openings_41 rfl hl (by decide) rfl (fun ls hl => ?_)
    have B9_42 : ∀ (N : Nat) (locs : List Loc) (ls : Array Slot) (z9_2 : Int32) (z9_3 : Int32), va_S (fun q : Nat => base ≤ q) s.heap H locs → lv_has ls 4 [(0, .ref a0), (1, .int f8), (2, .int z9_2), (3, .int z9_3)] → iv 0 8 z9_3 → (9 - z9_3.toInt).toNat ≤ N → W p l e (headSpec (Cond.code yX11_openings cX11_openings 4 (some .int) :: sg_tbl) ({ frames := 5, cells := 0, slots := 0, locals := 129 })).room s m #[.ref a0] below meth c H locs 0 0 (MQ below (va_Qi (fun r (_ : Unit) => (fun r : Int32 => True) r) (fun _ => sgB (KT P) D vwCl base tys ad ks) (fun q : Nat => base ≤ q)) #[.ref a0] s 0 0 (fun q : Nat => base ≤ q)) (F0 m 42 ls []) := by
      intro N; induction N with
      | zero =>
        intro locs ls z9_2 z9_3 hS hl hz9_3 hN
        exact absurd hN (by have := iv_up hz9_3; omega)
      | succ N ih9 =>
        intro locs ls z9_2 z9_3 hS hl hz9_3 hN9
        refine lv_iload_n X.1 X.2.1 dX11_openings_42 rfl (lv_at hl 3 rfl) ?_
        refine lv_aload_n X.1 X.2.1 dX11_openings_43 rfl (lv_at hl 0 rfl) ?_
        refine gf_X11_10 X hK hG h0 wl_2_205 dX11_openings_44 (fun q10 hq10 kq10 => ?_)
        refine ca_X4_mirrors X hK hG hC (fun _ h => h) hS hb q10 hq10 wl_6_17 hl.1 (rest := [.int z9_3]) rfl (Nat.le_of_ble_eq_true rfl) ⟨Nat.le_of_ble_eq_true rfl, Nat.le_of_ble_eq_true rfl⟩ ⟨Nat.le_of_ble_eq_true rfl, Nat.le_of_ble_eq_true rfl⟩ dX11_openings_47 (fun f11 locs hf11 hS => ?_)
        refine lv_icmp_ge (tgt := 81) X.1 X.2.1 dX11_openings_50 (by decide) (fun c12 => ?_) (fun c12 => ?_)
        · refine lv_iload_n X.1 X.2.1 dX11_openings_81 rfl (lv_at hl 2 rfl) ?_
          refine ca_J6_bitCount_0f7a4 X hK hG hC (fun _ h => h) hS hb z9_2 wl_4_193 hl.1 (rest := []) rfl (Nat.le_of_ble_eq_true rfl) ⟨Nat.le_of_ble_eq_true rfl, Nat.le_of_ble_eq_true rfl⟩ ⟨Nat.le_of_ble_eq_true rfl, Nat.le_of_ble_eq_true rfl⟩ dX11_openings_82 (fun f13 locs hf13 hS => ?_)
          exact sg_iret X hr hlk hb hK hC hG hS trivial dX11_openings_85
        · refine lv_aload_n X.1 X.2.1 dX11_openings_53 rfl (lv_at hl 0 rfl) ?_
          refine lv_iload_n X.1 X.2.1 dX11_openings_54 rfl (lv_at hl 3 rfl) ?_
          refine ca_X11_leavesAll X hK hG hC (fun _ h => h) hS hb a0 h0 z9_3 wl_6_34 hl.1 (rest := []) rfl (Nat.le_of_ble_eq_true rfl) ⟨Nat.le_of_ble_eq_true rfl, Nat.le_of_ble_eq_true rfl⟩ ⟨Nat.le_of_ble_eq_true rfl, Nat.le_of_ble_eq_true rfl⟩ dX11_openings_55 (fun f14 locs hf14 hS => ?_)
          have B16_75 : ∀ (locs : List Loc) (ls : Array Slot) (z16_2 : Int32), va_S (fun q : Nat => base ≤ q) s.heap H locs → lv_has ls 4 [(0, .ref a0), (1, .int f8), (2, .int z16_2), (3, .int z9_3)] → W p l e (headSpec (Cond.code yX11_openings cX11_openings 4 (some .int) :: sg_tbl) ({ frames := 5, cells := 0, slots := 0, locals := 129 })).room s m #[.ref a0] below meth c H locs 0 0 (MQ below (va_Qi (fun r (_ : Unit) => (fun r : Int32 => True) r) (fun _ => sgB (KT P) D vwCl base tys ad ks) (fun q : Nat => base ≤ q)) #[.ref a0] s 0 0 (fun q : Nat => base ≤ q)) (F0 m 75 ls []) := by
            intro locs ls z16_2 hS hl
            obtain ⟨y17, ey17⟩ : ∃ y : Int32, y = z9_3 + Int32.ofInt 1 := ⟨_, rfl⟩
            refine lv_iinc (v := y17) (lv' := [(3, .int y17), (0, .ref a0), (1, .int f8), (2, .int z16_2)]) X.1 X.2.1 dX11_openings_75 hl (k := 3) rfl ey17.symm (by decide) rfl (fun ls hl => ?_)
            refine lv_goto (tgt := 42) X.1 X.2.1 dX11_openings_78 (by decide) ?_
            exact ih9 _ _ z16_2 y17 hS (lv_sub hl [1, 2, 3, 0] rfl) (iv_of (iv_add (a' := 1) (b' := 8) ey17 (iv_lt (b' := 7) (iv_gt_of c12) hz9_3 hf11 (by decide +kernel)) (iv_c _ (a := 1) (b := 1) (by decide +kernel)) (by decide +kernel)) (a' := 0) (b' := 8) (by decide +kernel)) (iv_stepU ey17 (iv_lt (b' := 7) (iv_gt_of c12) hz9_3 hf11 (by decide +kernel)) (by decide +kernel) hN9)
          refine lv_if_eq (tgt := 75) X.1 X.2.1 dX11_openings_58 (by decide) (fun c15 => ?_) (fun c15 => ?_)
          · exact B16_75 _ _ z9_2 hS (lv_sub hl [0, 1, 2, 3] rfl)
          · refine lv_iload_n X.1 X.2.1 dX11_openings_61 rfl (lv_at hl 2 rfl) ?_
            refine lv_aload_n X.1 X.2.1 dX11_openings_62 rfl (lv_at hl 0 rfl) ?_
            refine gg_X11_10 X hK hG h0 wl_2_205 kq10 dX11_openings_63 ?_
            refine lv_iload_n X.1 X.2.1 dX11_openings_66 rfl (lv_at hl 1 rfl) ?_
            refine lv_iload_n X.1 X.2.1 dX11_openings_67 rfl (lv_at hl 3 rfl) ?_
            refine ca_X4_mirroredLower X hK hG hC (fun _ h => h) hS hb q10 hq10 f8 z9_3 wl_6_38 hl.1 (rest := [.int z9_2]) rfl (Nat.le_of_ble_eq_true rfl) ⟨Nat.le_of_ble_eq_true rfl, Nat.le_of_ble_eq_true rfl⟩ ⟨Nat.le_of_ble_eq_true rfl, Nat.le_of_ble_eq_true rfl⟩ dX11_openings_68 (fun f18 locs hf18 hS => ?_)
            refine lv_iconst (v := (-1)) X.1 X.2.1 dX11_openings_71 (by decide +kernel) ?_
            refine lv_ixor X.1 X.2.1 dX11_openings_72 ?_
            refine lv_topi (fun f19 ef19 => ?_)
            refine lv_iand X.1 X.2.1 dX11_openings_73 ?_
            refine lv_topi (fun f20 ef20 => ?_)
            refine lv_istore_n (lv' := [(2, .int f20), (0, .ref a0), (1, .int f8), (3, .int z9_3)]) X.1 X.2.1 dX11_openings_74 rfl hl (by decide) rfl (fun ls hl => ?_)
            exact B16_75 _ _ f20 hS (lv_sub hl [1, 2, 0, 3] rfl)
    exact B9_42 _ _ _ f8 0 hS (lv_sub hl [3, 2, 1, 0] rfl) (iv_of (iv_c 0 (a := 0) (b := 0) (by decide +kernel)) (a' := 0) (b' := 8) (by decide +kernel)) (Nat.le_refl _)
  · refine lv_iconst (v := (-1)) X.1 X.2.1 dX11_openings_7 (by decide +kernel) ?_
    exact sg_iret X hr hlk hb hK hC hG hS trivial dX11_openings_8

theorem ca_X11_openings   (X : CallFix p m c cc nL s args sg_tbl own) (hK : va_K D vwCl tys s) (hG : sgG (KT P) D vwCl (fun q : Nat => base ≤ q) tys ad ks H) (hC : sgC base s) (hS : va_S (fun q : Nat => base ≤ q) s.heap H locs) (hb : base ≤ s.heap.size) (a0 : Nat) (h0 : isK ad ks 11 a0) (hl : Cond.methodLink own index yX11_openings ∈ sg_tbl) (hsize : ls.size = nL) (hst : st0 = [].reverse ++ .ref a0 :: rest) (hW : (rest.map fun v => v.category).sum ≤ 8) (hR : 6 ≤ R.frames ∧ 152 ≤ R.locals) (hf : cells ≤ R.cells ∧ slots ≤ R.slots) (hdg : decode cc pc = .ok (.invokevirtual index, 3)) (kk : ∀ (r : Int32) (H1 : Heap) (locs1 : List Loc), (fun r : Int32 => True) r → sgG (KT P) D vwCl (fun q : Nat => base ≤ q) tys ad ks H1 → va_S (fun q : Nat => base ≤ q) s.heap H1 locs1 → W p l e R s m args below meth c H1 locs1 cells slots Q (F0 m (pc + 3) ls (.int r :: rest))) : W p l e R s m args below meth c H locs cells slots Q (F0 m pc ls st0) :=
  sg_callVi X hK hG hC hS hb (m_X11_openings l a0 h0) h0 (k := 11) (ci := 11) rfl (C := RX11) (T := TX11) (N := 17) rfl wl_6_33 wl_1_1 wl_6_31 wl_6_32 (n := 0) (by decide +kernel) rfl rfl rfl hl hsize hst hW hR hf hdg kk

set_option maxHeartbeats 8000000 in
set_option maxRecDepth 100000 in
theorem m_X11_odds (l : Launch) {D : va_G} {base : Nat} {tys : List (ClassId × FieldType)} {ad ks : List Nat} {P : sgPm} (a0 : Nat) (h0 : isK ad ks 11 a0) (x1 : Int32) (x2 : Int32) : sgMi l (KT P) D vwCl base tys ad ks yX11_odds cX11_odds 3 (some .int) ({ frames := 9, cells := 0, slots := 0, locals := 275 }) [.ref a0, .int x1, .int x2] (fun r : Int32 => True) := by
  refine sg_ofW (by decide +kernel) (Nat.le_of_ble_eq_true rfl) (fun p e s m below meth c X hr hlk hb hK hC hG ls hl => ?_)
  have hS : va_S (fun q : Nat => base ≤ q) s.heap s.heap [] := va_S.rf
  have hl : lv_has ls 3 [(0, .ref a0), (1, .int x1), (2, .int x2)] := hl
  refine lv_aload_n X.1 X.2.1 dX11_odds_0 rfl (lv_at hl 0 rfl) ?_
  refine ca_X11_noLawn X hK hG hC (fun _ h => h) hS hb a0 h0 wl_4_74 hl.1 (rest := []) rfl (Nat.le_of_ble_eq_true rfl) ⟨Nat.le_of_ble_eq_true rfl, Nat.le_of_ble_eq_true rfl⟩ ⟨Nat.le_of_ble_eq_true rfl, Nat.le_of_ble_eq_true rfl⟩ dX11_odds_1 (fun f1 locs hf1 hS => ?_)
  refine lv_if_ne (tgt := 26) X.1 X.2.1 dX11_odds_4 (by decide) (fun c2 => ?_) (fun c2 => ?_)
  · refine lv_iconst (v := (-1)) X.1 X.2.1 dX11_odds_26 (by decide +kernel) ?_
    exact sg_iret X hr hlk hb hK hC hG hS trivial dX11_odds_27
  · refine lv_iload_n X.1 X.2.1 dX11_odds_7 rfl (lv_at hl 1 rfl) ?_
    refine lv_if_lt (tgt := 26) X.1 X.2.1 dX11_odds_8 (by decide) (fun c3 => ?_) (fun c3 => ?_)
    · refine lv_iconst (v := (-1)) X.1 X.2.1 dX11_odds_26 (by decide +kernel) ?_
      exact sg_iret X hr hlk hb hK hC hG hS trivial dX11_odds_27
    · refine lv_iload_n X.1 X.2.1 dX11_odds_11 rfl (lv_at hl 1 rfl) ?_
      refine lv_iconst (v := 3) X.1 X.2.1 dX11_odds_12 (by decide +kernel) ?_
      refine lv_icmp_gt (tgt := 26) X.1 X.2.1 dX11_odds_13 (by decide) (fun c4 => ?_) (fun c4 => ?_)
      · refine lv_iconst (v := (-1)) X.1 X.2.1 dX11_odds_26 (by decide +kernel) ?_
        exact sg_iret X hr hlk hb hK hC hG hS trivial dX11_odds_27
      · refine lv_iload_n X.1 X.2.1 dX11_odds_16 rfl (lv_at hl 2 rfl) ?_
        refine lv_if_lt (tgt := 26) X.1 X.2.1 dX11_odds_17 (by decide) (fun c5 => ?_) (fun c5 => ?_)
        · refine lv_iconst (v := (-1)) X.1 X.2.1 dX11_odds_26 (by decide +kernel) ?_
          exact sg_iret X hr hlk hb hK hC hG hS trivial dX11_odds_27
        · refine lv_iload_n X.1 X.2.1 dX11_odds_20 rfl (lv_at hl 2 rfl) ?_
          refine lv_bipush (v := 100) X.1 X.2.1 dX11_odds_21 (by decide +kernel) ?_
          refine lv_icmp_le (tgt := 28) X.1 X.2.1 dX11_odds_23 (by decide) (fun c6 => ?_) (fun c6 => ?_)
          · refine lv_aload_n X.1 X.2.1 dX11_odds_28 rfl (lv_at hl 0 rfl) ?_
            refine gf_X11_3 X hK hG h0 wl_2_198 dX11_odds_29 (fun q7 hq7 kq7 => ?_)
            refine gf_X9_7 X hK hG hq7 wl_1_141 dX11_odds_32 (fun f8 hf8 kf8 => ?_)
            refine lv_if_eq (tgt := 44) X.1 X.2.1 dX11_odds_35 (by decide) (fun c9 => ?_) (fun c9 => ?_)
            · refine lv_aload_n X.1 X.2.1 dX11_odds_44 rfl (lv_at hl 0 rfl) ?_
              refine gf_X11_7 X hK hG h0 wl_2_202 dX11_odds_45 (fun q10 hq10 kq10 => ?_)
              refine lv_aload_n X.1 X.2.1 dX11_odds_48 rfl (lv_at hl 0 rfl) ?_
              refine gg_X11_3 X hK hG h0 wl_2_198 kq7 dX11_odds_49 ?_
              refine lv_iload_n X.1 X.2.1 dX11_odds_52 rfl (lv_at hl 1 rfl) ?_
              refine lv_iload_n X.1 X.2.1 dX11_odds_53 rfl (lv_at hl 2 rfl) ?_
              refine ca_X0_oddsOf X hK hG hC hS hb q10 hq10 q7 hq7 x1 (iv_of (iv_le (b' := 3) (iv_ge_of c4) (iv_ler (c' := 0) (iv_ge_of c3) (iv_c 0 (a := 0) (b := 0) (by decide +kernel)) (iv_top x1) (by decide +kernel)) (iv_c 3 (a := 3) (b := 3) (by decide +kernel)) (by decide +kernel)) (a' := (-2147483648)) (b' := 3) (by decide +kernel)) x2 wl_6_47 hl.1 (rest := []) rfl (Nat.le_of_ble_eq_true rfl) ⟨Nat.le_of_ble_eq_true rfl, Nat.le_of_ble_eq_true rfl⟩ ⟨Nat.le_of_ble_eq_true rfl, Nat.le_of_ble_eq_true rfl⟩ dX11_odds_54 (fun g11 H locs hg11 hG hS => ?_)
              obtain ⟨f12, ef12⟩ : ∃ y : Int32, y = (g11 : Int64).toInt32 := ⟨_, rfl⟩
              refine lv_l2i (v := f12) X.1 X.2.1 dX11_odds_57 ef12.symm ?_
              exact sg_iret X hr hlk hb hK hC hG hS trivial dX11_odds_58
            · refine lv_ldcw X.1 X.2.1 X.2.2.2.1 (X.2.2.2.2 _ wl_6_46) dX11_odds_38 ?_
              refine lv_goto (tgt := 58) X.1 X.2.1 dX11_odds_41 (by decide) ?_
              exact sg_iret X hr hlk hb hK hC hG hS trivial dX11_odds_58
          · refine lv_iconst (v := (-1)) X.1 X.2.1 dX11_odds_26 (by decide +kernel) ?_
            exact sg_iret X hr hlk hb hK hC hG hS trivial dX11_odds_27

theorem ca_X11_odds   (X : CallFix p m c cc nL s args sg_tbl own) (hK : va_K D vwCl tys s) (hG : sgG (KT P) D vwCl (fun q : Nat => base ≤ q) tys ad ks H) (hC : sgC base s) (hS : va_S (fun q : Nat => base ≤ q) s.heap H locs) (hb : base ≤ s.heap.size) (a0 : Nat) (h0 : isK ad ks 11 a0) (x1 : Int32) (x2 : Int32) (hl : Cond.methodLink own index yX11_odds ∈ sg_tbl) (hsize : ls.size = nL) (hst : st0 = [.int x1, .int x2].reverse ++ .ref a0 :: rest) (hW : (rest.map fun v => v.category).sum ≤ 8) (hR : 10 ≤ R.frames ∧ 297 ≤ R.locals) (hf : cells ≤ R.cells ∧ slots ≤ R.slots) (hdg : decode cc pc = .ok (.invokevirtual index, 3)) (kk : ∀ (r : Int32) (H1 : Heap) (locs1 : List Loc), (fun r : Int32 => True) r → sgG (KT P) D vwCl (fun q : Nat => base ≤ q) tys ad ks H1 → va_S (fun q : Nat => base ≤ q) s.heap H1 locs1 → W p l e R s m args below meth c H1 locs1 cells slots Q (F0 m (pc + 3) ls (.int r :: rest))) : W p l e R s m args below meth c H locs cells slots Q (F0 m pc ls st0) :=
  sg_callVi X hK hG hC hS hb (m_X11_odds l a0 h0 x1 x2) h0 (k := 11) (ci := 11) rfl (C := RX11) (T := TX11) (N := 17) rfl wl_6_45 wl_1_1 wl_6_43 wl_6_44 (n := 2) (by decide +kernel) rfl rfl rfl hl hsize hst hW hR hf hdg kk

set_option maxHeartbeats 8000000 in
set_option maxRecDepth 100000 in
theorem m_X11_where (l : Launch) {D : va_G} {base : Nat} {tys : List (ClassId × FieldType)} {ad ks : List Nat} {P : sgPm} (a0 : Nat) (h0 : isK ad ks 11 a0) (x1 : Int32) : sgMi l (KT P) D vwCl base tys ad ks yX11_where cX11_where 2 (some .int) ({ frames := 6, cells := 0, slots := 0, locals := 155 }) [.ref a0, .int x1] (fun r : Int32 => True) := by
  refine sg_ofW (by decide +kernel) (Nat.le_of_ble_eq_true rfl) (fun p e s m below meth c X hr hlk hb hK hC hG ls hl => ?_)
  have hS : va_S (fun q : Nat => base ≤ q) s.heap s.heap [] := va_S.rf
  have hl : lv_has ls 2 [(0, .ref a0), (1, .int x1)] := hl
  refine lv_aload_n X.1 X.2.1 dX11_where_0 rfl (lv_at hl 0 rfl) ?_
  refine ca_X11_noLawn X hK hG hC (fun _ h => h) hS hb a0 h0 wl_4_74 hl.1 (rest := []) rfl (Nat.le_of_ble_eq_true rfl) ⟨Nat.le_of_ble_eq_true rfl, Nat.le_of_ble_eq_true rfl⟩ ⟨Nat.le_of_ble_eq_true rfl, Nat.le_of_ble_eq_true rfl⟩ dX11_where_1 (fun f1 locs hf1 hS => ?_)
  refine lv_if_ne (tgt := 30) X.1 X.2.1 dX11_where_4 (by decide) (fun c2 => ?_) (fun c2 => ?_)
  · refine lv_iconst (v := (-1)) X.1 X.2.1 dX11_where_30 (by decide +kernel) ?_
    exact sg_iret X hr hlk hb hK hC hG hS trivial dX11_where_31
  · refine lv_iload_n X.1 X.2.1 dX11_where_7 rfl (lv_at hl 1 rfl) ?_
    refine lv_if_lt (tgt := 30) X.1 X.2.1 dX11_where_8 (by decide) (fun c3 => ?_) (fun c3 => ?_)
    · refine lv_iconst (v := (-1)) X.1 X.2.1 dX11_where_30 (by decide +kernel) ?_
      exact sg_iret X hr hlk hb hK hC hG hS trivial dX11_where_31
    · refine lv_iload_n X.1 X.2.1 dX11_where_11 rfl (lv_at hl 1 rfl) ?_
      refine lv_iconst (v := 1) X.1 X.2.1 dX11_where_12 (by decide +kernel) ?_
      refine lv_icmp_gt (tgt := 30) X.1 X.2.1 dX11_where_13 (by decide) (fun c4 => ?_) (fun c4 => ?_)
      · refine lv_iconst (v := (-1)) X.1 X.2.1 dX11_where_30 (by decide +kernel) ?_
        exact sg_iret X hr hlk hb hK hC hG hS trivial dX11_where_31
      · refine lv_aload_n X.1 X.2.1 dX11_where_16 rfl (lv_at hl 0 rfl) ?_
        refine gf_X11_7 X hK hG h0 wl_2_202 dX11_where_17 (fun q5 hq5 kq5 => ?_)
        refine lv_aload_n X.1 X.2.1 dX11_where_20 rfl (lv_at hl 0 rfl) ?_
        refine gf_X11_3 X hK hG h0 wl_2_198 dX11_where_21 (fun q6 hq6 kq6 => ?_)
        refine ca_X0_placeMole X hK hG hC hS hb q5 hq5 q6 hq6 wl_6_62 hl.1 (rest := []) rfl (Nat.le_of_ble_eq_true rfl) ⟨Nat.le_of_ble_eq_true rfl, Nat.le_of_ble_eq_true rfl⟩ ⟨Nat.le_of_ble_eq_true rfl, Nat.le_of_ble_eq_true rfl⟩ dX11_where_24 (fun f7 H locs hf7 hG hS => ?_)
        refine lv_if_ne (tgt := 32) X.1 X.2.1 dX11_where_27 (by decide) (fun c8 => ?_) (fun c8 => ?_)
        · refine lv_iload_n X.1 X.2.1 dX11_where_32 rfl (lv_at hl 1 rfl) ?_
          refine lv_if_ne (tgt := 46) X.1 X.2.1 dX11_where_33 (by decide) (fun c9 => ?_) (fun c9 => ?_)
          · refine lv_aload_n X.1 X.2.1 dX11_where_46 rfl (lv_at hl 0 rfl) ?_
            refine gf_X11_7 X hK hG h0 wl_2_202 dX11_where_47 (fun q10 hq10 kq10 => ?_)
            refine gf_X0_4 X hK hG hq10 wl_2_126 dX11_where_50 (fun f11 hf11 kf11 => ?_)
            exact sg_iret X hr hlk hb hK hC hG hS trivial dX11_where_53
          · refine lv_aload_n X.1 X.2.1 dX11_where_36 rfl (lv_at hl 0 rfl) ?_
            refine gf_X11_7 X hK hG h0 wl_2_202 dX11_where_37 (fun q12 hq12 kq12 => ?_)
            refine gf_X0_3 X hK hG hq12 wl_2_124 dX11_where_40 (fun f13 hf13 kf13 => ?_)
            refine lv_goto (tgt := 53) X.1 X.2.1 dX11_where_43 (by decide) ?_
            exact sg_iret X hr hlk hb hK hC hG hS trivial dX11_where_53
        · refine lv_iconst (v := (-1)) X.1 X.2.1 dX11_where_30 (by decide +kernel) ?_
          exact sg_iret X hr hlk hb hK hC hG hS trivial dX11_where_31

theorem ca_X11_where   (X : CallFix p m c cc nL s args sg_tbl own) (hK : va_K D vwCl tys s) (hG : sgG (KT P) D vwCl (fun q : Nat => base ≤ q) tys ad ks H) (hC : sgC base s) (hS : va_S (fun q : Nat => base ≤ q) s.heap H locs) (hb : base ≤ s.heap.size) (a0 : Nat) (h0 : isK ad ks 11 a0) (x1 : Int32) (hl : Cond.methodLink own index yX11_where ∈ sg_tbl) (hsize : ls.size = nL) (hst : st0 = [.int x1].reverse ++ .ref a0 :: rest) (hW : (rest.map fun v => v.category).sum ≤ 8) (hR : 7 ≤ R.frames ∧ 176 ≤ R.locals) (hf : cells ≤ R.cells ∧ slots ≤ R.slots) (hdg : decode cc pc = .ok (.invokevirtual index, 3)) (kk : ∀ (r : Int32) (H1 : Heap) (locs1 : List Loc), (fun r : Int32 => True) r → sgG (KT P) D vwCl (fun q : Nat => base ≤ q) tys ad ks H1 → va_S (fun q : Nat => base ≤ q) s.heap H1 locs1 → W p l e R s m args below meth c H1 locs1 cells slots Q (F0 m (pc + 3) ls (.int r :: rest))) : W p l e R s m args below meth c H locs cells slots Q (F0 m pc ls st0) :=
  sg_callVi X hK hG hC hS hb (m_X11_where l a0 h0 x1) h0 (k := 11) (ci := 11) rfl (C := RX11) (T := TX11) (N := 17) rfl wl_6_61 wl_1_1 wl_6_59 wl_6_60 (n := 1) (by decide +kernel) rfl rfl rfl hl hsize hst hW hR hf hdg kk

set_option maxHeartbeats 8000000 in
set_option maxRecDepth 100000 in
theorem m_X11_room (l : Launch) {D : va_G} {base : Nat} {tys : List (ClassId × FieldType)} {ad ks : List Nat} {P : sgPm} (a0 : Nat) (h0 : isK ad ks 11 a0) : sgMi l (KT P) D vwCl base tys ad ks yX11_room cX11_room 1 (some .int) ({ frames := 5, cells := 0, slots := 0, locals := 129 }) [.ref a0] (fun r : Int32 => True) := by
  refine sg_ofW (by decide +kernel) (Nat.le_of_ble_eq_true rfl) (fun p e s m below meth c X hr hlk hb hK hC hG ls hl => ?_)
  have hS : va_S (fun q : Nat => base ≤ q) s.heap s.heap [] := va_S.rf
  have hl : lv_has ls 1 [(0, .ref a0)] := hl
  refine lv_aload_n X.1 X.2.1 dX11_room_0 rfl (lv_at hl 0 rfl) ?_
  refine ca_X11_noLawn X hK hG hC (fun _ h => h) hS hb a0 h0 wl_4_74 hl.1 (rest := []) rfl (Nat.le_of_ble_eq_true rfl) ⟨Nat.le_of_ble_eq_true rfl, Nat.le_of_ble_eq_true rfl⟩ ⟨Nat.le_of_ble_eq_true rfl, Nat.le_of_ble_eq_true rfl⟩ dX11_room_1 (fun f1 locs hf1 hS => ?_)
  refine lv_if_eq (tgt := 11) X.1 X.2.1 dX11_room_4 (by decide) (fun c2 => ?_) (fun c2 => ?_)
  · refine lv_aload_n X.1 X.2.1 dX11_room_11 rfl (lv_at hl 0 rfl) ?_
    refine gf_X11_5 X hK hG h0 wl_2_200 dX11_room_12 (fun q3 hq3 kq3 => ?_)
    refine lv_aload_n X.1 X.2.1 dX11_room_15 rfl (lv_at hl 0 rfl) ?_
    refine gf_X11_3 X hK hG h0 wl_2_198 dX11_room_16 (fun q4 hq4 kq4 => ?_)
    refine gf_X9_0 X hK hG hq4 wl_1_118 dX11_room_19 (fun f5 hf5 kf5 => ?_)
    refine lv_aload_n X.1 X.2.1 dX11_room_22 rfl (lv_at hl 0 rfl) ?_
    refine gg_X11_3 X hK hG h0 wl_2_198 kq4 dX11_room_23 ?_
    refine gf_X9_1 X hK hG hq4 wl_1_122 dX11_room_26 (fun f6 hf6 kf6 => ?_)
    refine lv_aload_n X.1 X.2.1 dX11_room_29 rfl (lv_at hl 0 rfl) ?_
    refine gg_X11_3 X hK hG h0 wl_2_198 kq4 dX11_room_30 ?_
    refine gf_X9_3 X hK hG hq4 wl_1_130 dX11_room_33 (fun f7 hf7 kf7 => ?_)
    refine ca_X8_growing X hK hG hC hS hb q3 hq3 f5 f6 f7 wl_4_208 hl.1 (rest := []) rfl (Nat.le_of_ble_eq_true rfl) ⟨Nat.le_of_ble_eq_true rfl, Nat.le_of_ble_eq_true rfl⟩ ⟨Nat.le_of_ble_eq_true rfl, Nat.le_of_ble_eq_true rfl⟩ dX11_room_36 (fun f8 H locs hf8 hG hS => ?_)
    refine ca_J6_bitCount_0f7a4 X hK hG hC (fun _ h => h) hS hb f8 wl_4_193 hl.1 (rest := []) rfl (Nat.le_of_ble_eq_true rfl) ⟨Nat.le_of_ble_eq_true rfl, Nat.le_of_ble_eq_true rfl⟩ ⟨Nat.le_of_ble_eq_true rfl, Nat.le_of_ble_eq_true rfl⟩ dX11_room_39 (fun f9 locs hf9 hS => ?_)
    exact sg_iret X hr hlk hb hK hC hG hS trivial dX11_room_42
  · refine lv_iconst (v := (-1)) X.1 X.2.1 dX11_room_7 (by decide +kernel) ?_
    refine lv_goto (tgt := 42) X.1 X.2.1 dX11_room_8 (by decide) ?_
    exact sg_iret X hr hlk hb hK hC hG hS trivial dX11_room_42

theorem ca_X11_room   (X : CallFix p m c cc nL s args sg_tbl own) (hK : va_K D vwCl tys s) (hG : sgG (KT P) D vwCl (fun q : Nat => base ≤ q) tys ad ks H) (hC : sgC base s) (hS : va_S (fun q : Nat => base ≤ q) s.heap H locs) (hb : base ≤ s.heap.size) (a0 : Nat) (h0 : isK ad ks 11 a0) (hl : Cond.methodLink own index yX11_room ∈ sg_tbl) (hsize : ls.size = nL) (hst : st0 = [].reverse ++ .ref a0 :: rest) (hW : (rest.map fun v => v.category).sum ≤ 8) (hR : 6 ≤ R.frames ∧ 149 ≤ R.locals) (hf : cells ≤ R.cells ∧ slots ≤ R.slots) (hdg : decode cc pc = .ok (.invokevirtual index, 3)) (kk : ∀ (r : Int32) (H1 : Heap) (locs1 : List Loc), (fun r : Int32 => True) r → sgG (KT P) D vwCl (fun q : Nat => base ≤ q) tys ad ks H1 → va_S (fun q : Nat => base ≤ q) s.heap H1 locs1 → W p l e R s m args below meth c H1 locs1 cells slots Q (F0 m (pc + 3) ls (.int r :: rest))) : W p l e R s m args below meth c H locs cells slots Q (F0 m pc ls st0) :=
  sg_callVi X hK hG hC hS hb (m_X11_room l a0 h0) h0 (k := 11) (ci := 11) rfl (C := RX11) (T := TX11) (N := 17) rfl wl_6_69 wl_1_1 wl_6_67 wl_6_68 (n := 0) (by decide +kernel) rfl rfl rfl hl hsize hst hW hR hf hdg kk

set_option maxHeartbeats 8000000 in
set_option maxRecDepth 100000 in
theorem m_X11_longest (l : Launch) {D : va_G} {base : Nat} {tys : List (ClassId × FieldType)} {ad ks : List Nat} {P : sgPm} (a0 : Nat) (h0 : isK ad ks 11 a0) : sgMi l (KT P) D vwCl base tys ad ks yX11_longest cX11_longest 1 (some .int) ({ frames := 2, cells := 0, slots := 0, locals := 38 }) [.ref a0] (fun r : Int32 => True) := by
  refine sg_ofW (by decide +kernel) (Nat.le_of_ble_eq_true rfl) (fun p e s m below meth c X hr hlk hb hK hC hG ls hl => ?_)
  have hS : va_S (fun q : Nat => base ≤ q) s.heap s.heap [] := va_S.rf
  have hl : lv_has ls 1 [(0, .ref a0)] := hl
  refine lv_aload_n X.1 X.2.1 dX11_longest_0 rfl (lv_at hl 0 rfl) ?_
  refine ca_X11_noLawn X hK hG hC (fun _ h => h) hS hb a0 h0 wl_4_74 hl.1 (rest := []) rfl (Nat.le_of_ble_eq_true rfl) ⟨Nat.le_of_ble_eq_true rfl, Nat.le_of_ble_eq_true rfl⟩ ⟨Nat.le_of_ble_eq_true rfl, Nat.le_of_ble_eq_true rfl⟩ dX11_longest_1 (fun f1 locs hf1 hS => ?_)
  refine lv_if_eq (tgt := 11) X.1 X.2.1 dX11_longest_4 (by decide) (fun c2 => ?_) (fun c2 => ?_)
  · refine lv_aload_n X.1 X.2.1 dX11_longest_11 rfl (lv_at hl 0 rfl) ?_
    refine gf_X11_10 X hK hG h0 wl_2_205 dX11_longest_12 (fun q3 hq3 kq3 => ?_)
    refine lv_aload_n X.1 X.2.1 dX11_longest_15 rfl (lv_at hl 0 rfl) ?_
    refine gf_X11_3 X hK hG h0 wl_2_198 dX11_longest_16 (fun q4 hq4 kq4 => ?_)
    refine gf_X9_0 X hK hG hq4 wl_1_118 dX11_longest_19 (fun f5 hf5 kf5 => ?_)
    refine ca_X4_longestRow X hK hG hC (fun _ h => h) hS hb q3 hq3 f5 wl_6_74 hl.1 (rest := []) rfl (Nat.le_of_ble_eq_true rfl) ⟨Nat.le_of_ble_eq_true rfl, Nat.le_of_ble_eq_true rfl⟩ ⟨Nat.le_of_ble_eq_true rfl, Nat.le_of_ble_eq_true rfl⟩ dX11_longest_22 (fun f6 locs hf6 hS => ?_)
    exact sg_iret X hr hlk hb hK hC hG hS trivial dX11_longest_25
  · refine lv_iconst (v := (-1)) X.1 X.2.1 dX11_longest_7 (by decide +kernel) ?_
    refine lv_goto (tgt := 25) X.1 X.2.1 dX11_longest_8 (by decide) ?_
    exact sg_iret X hr hlk hb hK hC hG hS trivial dX11_longest_25

theorem ca_X11_longest   (X : CallFix p m c cc nL s args sg_tbl own) (hK : va_K D vwCl tys s) (hG : sgG (KT P) D vwCl (fun q : Nat => base ≤ q) tys ad ks H) (hC : sgC base s) (hS : va_S (fun q : Nat => base ≤ q) s.heap H locs) (hb : base ≤ s.heap.size) (a0 : Nat) (h0 : isK ad ks 11 a0) (hl : Cond.methodLink own index yX11_longest ∈ sg_tbl) (hsize : ls.size = nL) (hst : st0 = [].reverse ++ .ref a0 :: rest) (hW : (rest.map fun v => v.category).sum ≤ 8) (hR : 3 ≤ R.frames ∧ 58 ≤ R.locals) (hf : cells ≤ R.cells ∧ slots ≤ R.slots) (hdg : decode cc pc = .ok (.invokevirtual index, 3)) (kk : ∀ (r : Int32) (H1 : Heap) (locs1 : List Loc), (fun r : Int32 => True) r → sgG (KT P) D vwCl (fun q : Nat => base ≤ q) tys ad ks H1 → va_S (fun q : Nat => base ≤ q) s.heap H1 locs1 → W p l e R s m args below meth c H1 locs1 cells slots Q (F0 m (pc + 3) ls (.int r :: rest))) : W p l e R s m args below meth c H locs cells slots Q (F0 m pc ls st0) :=
  sg_callVi X hK hG hC hS hb (m_X11_longest l a0 h0) h0 (k := 11) (ci := 11) rfl (C := RX11) (T := TX11) (N := 17) rfl wl_6_73 wl_1_1 wl_6_71 wl_6_72 (n := 0) (by decide +kernel) rfl rfl rfl hl hsize hst hW hR hf hdg kk

set_option maxHeartbeats 8000000 in
set_option maxRecDepth 100000 in
theorem m_X11_image (l : Launch) {D : va_G} {base : Nat} {tys : List (ClassId × FieldType)} {ad ks : List Nat} {P : sgPm} (a0 : Nat) (h0 : isK ad ks 11 a0) : sgMi l (KT P) D vwCl base tys ad ks yX11_image cX11_image 1 (some .int) ({ frames := 2, cells := 0, slots := 0, locals := 81 }) [.ref a0] (fun r : Int32 => True) := by
  refine sg_ofW (by decide +kernel) (Nat.le_of_ble_eq_true rfl) (fun p e s m below meth c X hr hlk hb hK hC hG ls hl => ?_)
  have hS : va_S (fun q : Nat => base ≤ q) s.heap s.heap [] := va_S.rf
  have hl : lv_has ls 1 [(0, .ref a0)] := hl
  refine lv_aload_n X.1 X.2.1 dX11_image_0 rfl (lv_at hl 0 rfl) ?_
  refine ca_X11_noLawn X hK hG hC (fun _ h => h) hS hb a0 h0 wl_4_74 hl.1 (rest := []) rfl (Nat.le_of_ble_eq_true rfl) ⟨Nat.le_of_ble_eq_true rfl, Nat.le_of_ble_eq_true rfl⟩ ⟨Nat.le_of_ble_eq_true rfl, Nat.le_of_ble_eq_true rfl⟩ dX11_image_1 (fun f1 locs hf1 hS => ?_)
  refine lv_if_eq (tgt := 9) X.1 X.2.1 dX11_image_4 (by decide) (fun c2 => ?_) (fun c2 => ?_)
  · refine lv_aload_n X.1 X.2.1 dX11_image_9 rfl (lv_at hl 0 rfl) ?_
    refine gf_X11_4 X hK hG h0 wl_2_199 dX11_image_10 (fun q3 hq3 kq3 => ?_)
    refine lv_aload_n X.1 X.2.1 dX11_image_13 rfl (lv_at hl 0 rfl) ?_
    refine gf_X11_3 X hK hG h0 wl_2_198 dX11_image_14 (fun q4 hq4 kq4 => ?_)
    refine ca_X5_takeImage X hK hG hC hS hb q3 hq3 q4 hq4 wl_6_83 hl.1 (rest := []) rfl (Nat.le_of_ble_eq_true rfl) ⟨Nat.le_of_ble_eq_true rfl, Nat.le_of_ble_eq_true rfl⟩ ⟨Nat.le_of_ble_eq_true rfl, Nat.le_of_ble_eq_true rfl⟩ dX11_image_17 (fun H locs hG hS => ?_)
    refine lv_aload_n X.1 X.2.1 dX11_image_20 rfl (lv_at hl 0 rfl) ?_
    refine gf_X11_3 X hK hG h0 wl_2_198 dX11_image_21 (fun q6 hq6 kq6 => ?_)
    refine gf_X9_3 X hK hG hq6 wl_1_130 dX11_image_24 (fun f7 hf7 kf7 => ?_)
    exact sg_iret X hr hlk hb hK hC hG hS trivial dX11_image_27
  · refine lv_iconst (v := (-1)) X.1 X.2.1 dX11_image_7 (by decide +kernel) ?_
    exact sg_iret X hr hlk hb hK hC hG hS trivial dX11_image_8

theorem ca_X11_image   (X : CallFix p m c cc nL s args sg_tbl own) (hK : va_K D vwCl tys s) (hG : sgG (KT P) D vwCl (fun q : Nat => base ≤ q) tys ad ks H) (hC : sgC base s) (hS : va_S (fun q : Nat => base ≤ q) s.heap H locs) (hb : base ≤ s.heap.size) (a0 : Nat) (h0 : isK ad ks 11 a0) (hl : Cond.methodLink own index yX11_image ∈ sg_tbl) (hsize : ls.size = nL) (hst : st0 = [].reverse ++ .ref a0 :: rest) (hW : (rest.map fun v => v.category).sum ≤ 8) (hR : 3 ≤ R.frames ∧ 101 ≤ R.locals) (hf : cells ≤ R.cells ∧ slots ≤ R.slots) (hdg : decode cc pc = .ok (.invokevirtual index, 3)) (kk : ∀ (r : Int32) (H1 : Heap) (locs1 : List Loc), (fun r : Int32 => True) r → sgG (KT P) D vwCl (fun q : Nat => base ≤ q) tys ad ks H1 → va_S (fun q : Nat => base ≤ q) s.heap H1 locs1 → W p l e R s m args below meth c H1 locs1 cells slots Q (F0 m (pc + 3) ls (.int r :: rest))) : W p l e R s m args below meth c H locs cells slots Q (F0 m pc ls st0) :=
  sg_callVi X hK hG hC hS hb (m_X11_image l a0 h0) h0 (k := 11) (ci := 11) rfl (C := RX11) (T := TX11) (N := 17) rfl wl_6_82 wl_1_1 wl_6_80 wl_6_81 (n := 0) (by decide +kernel) rfl rfl rfl hl hsize hst hW hR hf hdg kk

set_option maxHeartbeats 8000000 in
set_option maxRecDepth 100000 in
theorem m_X11_back (l : Launch) {D : va_G} {base : Nat} {tys : List (ClassId × FieldType)} {ad ks : List Nat} {P : sgPm} (a0 : Nat) (h0 : isK ad ks 11 a0) : sgMi l (KT P) D vwCl base tys ad ks yX11_back cX11_back 1 (some .int) ({ frames := 2, cells := 0, slots := 0, locals := 81 }) [.ref a0] (fun r : Int32 => True) := by
  refine sg_ofW (by decide +kernel) (Nat.le_of_ble_eq_true rfl) (fun p e s m below meth c X hr hlk hb hK hC hG ls hl => ?_)
  have hS : va_S (fun q : Nat => base ≤ q) s.heap s.heap [] := va_S.rf
  have hl : lv_has ls 1 [(0, .ref a0)] := hl
  refine lv_aload_n X.1 X.2.1 dX11_back_0 rfl (lv_at hl 0 rfl) ?_
  refine gf_X11_4 X hK hG h0 wl_2_199 dX11_back_1 (fun q1 hq1 kq1 => ?_)
  refine lv_aload_n X.1 X.2.1 dX11_back_4 rfl (lv_at hl 0 rfl) ?_
  refine gf_X11_3 X hK hG h0 wl_2_198 dX11_back_5 (fun q2 hq2 kq2 => ?_)
  refine ca_X5_bringBack X hK hG hC hS hb q1 hq1 q2 hq2 wl_6_92 hl.1 (rest := []) rfl (Nat.le_of_ble_eq_true rfl) ⟨Nat.le_of_ble_eq_true rfl, Nat.le_of_ble_eq_true rfl⟩ ⟨Nat.le_of_ble_eq_true rfl, Nat.le_of_ble_eq_true rfl⟩ dX11_back_8 (fun f3 H locs hf3 hG hS => ?_)
  refine lv_if_eq (tgt := 24) X.1 X.2.1 dX11_back_11 (by decide) (fun c4 => ?_) (fun c4 => ?_)
  · refine lv_iconst (v := (-1)) X.1 X.2.1 dX11_back_24 (by decide +kernel) ?_
    exact sg_iret X hr hlk hb hK hC hG hS trivial dX11_back_25
  · refine lv_aload_n X.1 X.2.1 dX11_back_14 rfl (lv_at hl 0 rfl) ?_
    refine gf_X11_3 X hK hG h0 wl_2_198 dX11_back_15 (fun q5 hq5 kq5 => ?_)
    refine gf_X9_3 X hK hG hq5 wl_1_130 dX11_back_18 (fun f6 hf6 kf6 => ?_)
    refine lv_goto (tgt := 25) X.1 X.2.1 dX11_back_21 (by decide) ?_
    exact sg_iret X hr hlk hb hK hC hG hS trivial dX11_back_25

theorem ca_X11_back   (X : CallFix p m c cc nL s args sg_tbl own) (hK : va_K D vwCl tys s) (hG : sgG (KT P) D vwCl (fun q : Nat => base ≤ q) tys ad ks H) (hC : sgC base s) (hS : va_S (fun q : Nat => base ≤ q) s.heap H locs) (hb : base ≤ s.heap.size) (a0 : Nat) (h0 : isK ad ks 11 a0) (hl : Cond.methodLink own index yX11_back ∈ sg_tbl) (hsize : ls.size = nL) (hst : st0 = [].reverse ++ .ref a0 :: rest) (hW : (rest.map fun v => v.category).sum ≤ 8) (hR : 3 ≤ R.frames ∧ 101 ≤ R.locals) (hf : cells ≤ R.cells ∧ slots ≤ R.slots) (hdg : decode cc pc = .ok (.invokevirtual index, 3)) (kk : ∀ (r : Int32) (H1 : Heap) (locs1 : List Loc), (fun r : Int32 => True) r → sgG (KT P) D vwCl (fun q : Nat => base ≤ q) tys ad ks H1 → va_S (fun q : Nat => base ≤ q) s.heap H1 locs1 → W p l e R s m args below meth c H1 locs1 cells slots Q (F0 m (pc + 3) ls (.int r :: rest))) : W p l e R s m args below meth c H locs cells slots Q (F0 m pc ls st0) :=
  sg_callVi X hK hG hC hS hb (m_X11_back l a0 h0) h0 (k := 11) (ci := 11) rfl (C := RX11) (T := TX11) (N := 17) rfl wl_6_91 wl_1_1 wl_6_89 wl_6_90 (n := 0) (by decide +kernel) rfl rfl rfl hl hsize hst hW hR hf hdg kk

set_option maxHeartbeats 8000000 in
set_option maxRecDepth 100000 in
theorem m_X11_count (l : Launch) {D : va_G} {base : Nat} {tys : List (ClassId × FieldType)} {ad ks : List Nat} {P : sgPm} (a0 : Nat) (h0 : isK ad ks 11 a0) (x1 : Int32) : sgMi l (KT P) D vwCl base tys ad ks yX11_count cX11_count 2 (some .int) ({ frames := 2, cells := 0, slots := 0, locals := 33 }) [.ref a0, .int x1] (fun r : Int32 => True) := by
  refine sg_ofW (by decide +kernel) (Nat.le_of_ble_eq_true rfl) (fun p e s m below meth c X hr hlk hb hK hC hG ls hl => ?_)
  have hS : va_S (fun q : Nat => base ≤ q) s.heap s.heap [] := va_S.rf
  have hl : lv_has ls 2 [(0, .ref a0), (1, .int x1)] := hl
  refine lv_iload_n X.1 X.2.1 dX11_count_0 rfl (lv_at hl 1 rfl) ?_
  by_cases c1 : x1 = 0
  · refine lv_tableIn (tgt := 80) (off := 79) X.1 X.2.1 dX11_count_1 (by rw [c1]; decide +kernel) (by rw [c1]; decide +kernel) (by rw [c1]; rfl) (by decide) ?_
    refine lv_aload_n X.1 X.2.1 dX11_count_80 rfl (lv_at hl 0 rfl) ?_
    refine gf_X11_10 X hK hG h0 wl_2_205 dX11_count_81 (fun q2 hq2 kq2 => ?_)
    refine gf_X4_5 X hK hG hq2 wl_1_220 dX11_count_84 (fun f3 hf3 kf3 => ?_)
    exact sg_iret X hr hlk hb hK hC hG hS trivial dX11_count_87
  by_cases c4 : x1 = 1
  · refine lv_tableIn (tgt := 88) (off := 87) X.1 X.2.1 dX11_count_1 (by rw [c4]; decide +kernel) (by rw [c4]; decide +kernel) (by rw [c4]; rfl) (by decide) ?_
    refine lv_aload_n X.1 X.2.1 dX11_count_88 rfl (lv_at hl 0 rfl) ?_
    refine gf_X11_3 X hK hG h0 wl_2_198 dX11_count_89 (fun q5 hq5 kq5 => ?_)
    refine gf_X9_0 X hK hG hq5 wl_1_118 dX11_count_92 (fun f6 hf6 kf6 => ?_)
    refine ca_J6_bitCount_0f7a4 X hK hG hC (fun _ h => h) hS hb f6 wl_4_193 hl.1 (rest := []) rfl (Nat.le_of_ble_eq_true rfl) ⟨Nat.le_of_ble_eq_true rfl, Nat.le_of_ble_eq_true rfl⟩ ⟨Nat.le_of_ble_eq_true rfl, Nat.le_of_ble_eq_true rfl⟩ dX11_count_95 (fun f7 locs hf7 hS => ?_)
    exact sg_iret X hr hlk hb hK hC hG hS trivial dX11_count_98
  by_cases c8 : x1 = 2
  · refine lv_tableIn (tgt := 99) (off := 98) X.1 X.2.1 dX11_count_1 (by rw [c8]; decide +kernel) (by rw [c8]; decide +kernel) (by rw [c8]; rfl) (by decide) ?_
    refine lv_aload_n X.1 X.2.1 dX11_count_99 rfl (lv_at hl 0 rfl) ?_
    refine gf_X11_12 X hK hG h0 wl_2_207 dX11_count_100 (fun f9 hf9 pf9 kf9 => ?_)
    exact sg_iret X hr hlk hb hK hC hG hS trivial dX11_count_103
  by_cases c10 : x1 = 3
  · refine lv_tableIn (tgt := 104) (off := 103) X.1 X.2.1 dX11_count_1 (by rw [c10]; decide +kernel) (by rw [c10]; decide +kernel) (by rw [c10]; rfl) (by decide) ?_
    refine lv_aload_n X.1 X.2.1 dX11_count_104 rfl (lv_at hl 0 rfl) ?_
    refine gf_X11_13 X hK hG h0 wl_2_208 dX11_count_105 (fun f11 hf11 pf11 kf11 => ?_)
    exact sg_iret X hr hlk hb hK hC hG hS trivial dX11_count_108
  by_cases c12 : x1 = 4
  · refine lv_tableIn (tgt := 109) (off := 108) X.1 X.2.1 dX11_count_1 (by rw [c12]; decide +kernel) (by rw [c12]; decide +kernel) (by rw [c12]; rfl) (by decide) ?_
    refine lv_aload_n X.1 X.2.1 dX11_count_109 rfl (lv_at hl 0 rfl) ?_
    refine gf_X11_0 X hK hG h0 wl_2_195 dX11_count_110 (fun q13 hq13 kq13 => ?_)
    refine gf_X10_1 X hK hG hq13 wl_1_42 dX11_count_113 (fun f14 hf14 pf14 kf14 => ?_)
    exact sg_iret X hr hlk hb hK hC hG hS trivial dX11_count_116
  by_cases c15 : x1 = 5
  · refine lv_tableIn (tgt := 117) (off := 116) X.1 X.2.1 dX11_count_1 (by rw [c15]; decide +kernel) (by rw [c15]; decide +kernel) (by rw [c15]; rfl) (by decide) ?_
    refine lv_aload_n X.1 X.2.1 dX11_count_117 rfl (lv_at hl 0 rfl) ?_
    refine gf_X11_14 X hK hG h0 wl_2_209 dX11_count_118 (fun f16 hf16 kf16 => ?_)
    exact sg_iret X hr hlk hb hK hC hG hS trivial dX11_count_121
  by_cases c17 : x1 = 6
  · refine lv_tableIn (tgt := 122) (off := 121) X.1 X.2.1 dX11_count_1 (by rw [c17]; decide +kernel) (by rw [c17]; decide +kernel) (by rw [c17]; rfl) (by decide) ?_
    refine lv_aload_n X.1 X.2.1 dX11_count_122 rfl (lv_at hl 0 rfl) ?_
    refine gf_X11_3 X hK hG h0 wl_2_198 dX11_count_123 (fun q18 hq18 kq18 => ?_)
    refine gf_X9_3 X hK hG hq18 wl_1_130 dX11_count_126 (fun f19 hf19 kf19 => ?_)
    exact sg_iret X hr hlk hb hK hC hG hS trivial dX11_count_129
  by_cases c20 : x1 = 7
  · refine lv_tableIn (tgt := 130) (off := 129) X.1 X.2.1 dX11_count_1 (by rw [c20]; decide +kernel) (by rw [c20]; decide +kernel) (by rw [c20]; rfl) (by decide) ?_
    refine lv_aload_n X.1 X.2.1 dX11_count_130 rfl (lv_at hl 0 rfl) ?_
    refine gf_X11_3 X hK hG h0 wl_2_198 dX11_count_131 (fun q21 hq21 kq21 => ?_)
    refine gf_X9_2 X hK hG hq21 wl_1_126 dX11_count_134 (fun f22 hf22 kf22 => ?_)
    exact sg_iret X hr hlk hb hK hC hG hS trivial dX11_count_137
  by_cases c23 : x1 = 8
  · refine lv_tableIn (tgt := 138) (off := 137) X.1 X.2.1 dX11_count_1 (by rw [c23]; decide +kernel) (by rw [c23]; decide +kernel) (by rw [c23]; rfl) (by decide) ?_
    refine lv_aload_n X.1 X.2.1 dX11_count_138 rfl (lv_at hl 0 rfl) ?_
    refine gf_X11_3 X hK hG h0 wl_2_198 dX11_count_139 (fun q24 hq24 kq24 => ?_)
    refine gf_X9_7 X hK hG hq24 wl_1_141 dX11_count_142 (fun f25 hf25 kf25 => ?_)
    refine lv_if_eq (tgt := 152) X.1 X.2.1 dX11_count_145 (by decide) (fun c26 => ?_) (fun c26 => ?_)
    · refine lv_iconst (v := 0) X.1 X.2.1 dX11_count_152 (by decide +kernel) ?_
      exact sg_iret X hr hlk hb hK hC hG hS trivial dX11_count_153
    · refine lv_iconst (v := 1) X.1 X.2.1 dX11_count_148 (by decide +kernel) ?_
      refine lv_goto (tgt := 153) X.1 X.2.1 dX11_count_149 (by decide) ?_
      exact sg_iret X hr hlk hb hK hC hG hS trivial dX11_count_153
  by_cases c27 : x1 = 9
  · refine lv_tableIn (tgt := 154) (off := 153) X.1 X.2.1 dX11_count_1 (by rw [c27]; decide +kernel) (by rw [c27]; decide +kernel) (by rw [c27]; rfl) (by decide) ?_
    refine lv_aload_n X.1 X.2.1 dX11_count_154 rfl (lv_at hl 0 rfl) ?_
    refine gf_X11_3 X hK hG h0 wl_2_198 dX11_count_155 (fun q28 hq28 kq28 => ?_)
    refine gf_X9_4 X hK hG hq28 wl_1_133 dX11_count_158 (fun f29 hf29 kf29 => ?_)
    exact sg_iret X hr hlk hb hK hC hG hS trivial dX11_count_161
  by_cases c30 : x1 = 10
  · refine lv_tableIn (tgt := 162) (off := 161) X.1 X.2.1 dX11_count_1 (by rw [c30]; decide +kernel) (by rw [c30]; decide +kernel) (by rw [c30]; rfl) (by decide) ?_
    refine lv_aload_n X.1 X.2.1 dX11_count_162 rfl (lv_at hl 0 rfl) ?_
    refine gf_X11_3 X hK hG h0 wl_2_198 dX11_count_163 (fun q31 hq31 kq31 => ?_)
    refine gf_X9_5 X hK hG hq31 wl_1_136 dX11_count_166 (fun f32 hf32 kf32 => ?_)
    exact sg_iret X hr hlk hb hK hC hG hS trivial dX11_count_169
  by_cases c33 : x1 = 11
  · refine lv_tableIn (tgt := 170) (off := 169) X.1 X.2.1 dX11_count_1 (by rw [c33]; decide +kernel) (by rw [c33]; decide +kernel) (by rw [c33]; rfl) (by decide) ?_
    refine lv_aload_n X.1 X.2.1 dX11_count_170 rfl (lv_at hl 0 rfl) ?_
    refine gf_X11_15 X hK hG h0 wl_2_210 dX11_count_171 (fun f34 hf34 kf34 => ?_)
    exact sg_iret X hr hlk hb hK hC hG hS trivial dX11_count_174
  by_cases c35 : x1 = 12
  · refine lv_tableIn (tgt := 175) (off := 174) X.1 X.2.1 dX11_count_1 (by rw [c35]; decide +kernel) (by rw [c35]; decide +kernel) (by rw [c35]; rfl) (by decide) ?_
    refine lv_aload_n X.1 X.2.1 dX11_count_175 rfl (lv_at hl 0 rfl) ?_
    refine gf_X11_9 X hK hG h0 wl_2_204 dX11_count_176 (fun q36 hq36 kq36 => ?_)
    refine gf_X1_2 X hK hG hq36 wl_2_186 dX11_count_179 (fun f37 hf37 kf37 => ?_)
    exact sg_iret X hr hlk hb hK hC hG hS trivial dX11_count_182
  by_cases c38 : x1 = 13
  · refine lv_tableIn (tgt := 183) (off := 182) X.1 X.2.1 dX11_count_1 (by rw [c38]; decide +kernel) (by rw [c38]; decide +kernel) (by rw [c38]; rfl) (by decide) ?_
    refine lv_aload_n X.1 X.2.1 dX11_count_183 rfl (lv_at hl 0 rfl) ?_
    refine gf_X11_4 X hK hG h0 wl_2_199 dX11_count_184 (fun q39 hq39 kq39 => ?_)
    refine ca_X5_shown X hK hG hC (fun _ h => h) hS hb q39 hq39 wl_5_5 hl.1 (rest := []) rfl (Nat.le_of_ble_eq_true rfl) ⟨Nat.le_of_ble_eq_true rfl, Nat.le_of_ble_eq_true rfl⟩ ⟨Nat.le_of_ble_eq_true rfl, Nat.le_of_ble_eq_true rfl⟩ dX11_count_187 (fun f40 locs hf40 hS => ?_)
    exact sg_iret X hr hlk hb hK hC hG hS trivial dX11_count_190
  by_cases c41 : x1 = 14
  · refine lv_tableIn (tgt := 191) (off := 190) X.1 X.2.1 dX11_count_1 (by rw [c41]; decide +kernel) (by rw [c41]; decide +kernel) (by rw [c41]; rfl) (by decide) ?_
    refine lv_aload_n X.1 X.2.1 dX11_count_191 rfl (lv_at hl 0 rfl) ?_
    refine gf_X11_4 X hK hG h0 wl_2_199 dX11_count_192 (fun q42 hq42 kq42 => ?_)
    refine gf_X5_4 X hK hG hq42 wl_1_173 dX11_count_195 (fun f43 hf43 kf43 => ?_)
    exact sg_iret X hr hlk hb hK hC hG hS trivial dX11_count_198
  by_cases c44 : x1 = 15
  · refine lv_tableIn (tgt := 199) (off := 198) X.1 X.2.1 dX11_count_1 (by rw [c44]; decide +kernel) (by rw [c44]; decide +kernel) (by rw [c44]; rfl) (by decide) ?_
    refine lv_aload_n X.1 X.2.1 dX11_count_199 rfl (lv_at hl 0 rfl) ?_
    refine gf_X11_3 X hK hG h0 wl_2_198 dX11_count_200 (fun q45 hq45 kq45 => ?_)
    refine gf_X9_0 X hK hG hq45 wl_1_118 dX11_count_203 (fun f46 hf46 kf46 => ?_)
    exact sg_iret X hr hlk hb hK hC hG hS trivial dX11_count_206
  refine lv_tableOut (tgt := 207) X.1 X.2.1 dX11_count_1 (by have tc1 := iv_nt 0 c1 (by decide +kernel); have tc4 := iv_nt 1 c4 (by decide +kernel); have tc8 := iv_nt 2 c8 (by decide +kernel); have tc10 := iv_nt 3 c10 (by decide +kernel); have tc12 := iv_nt 4 c12 (by decide +kernel); have tc15 := iv_nt 5 c15 (by decide +kernel); have tc17 := iv_nt 6 c17 (by decide +kernel); have tc20 := iv_nt 7 c20 (by decide +kernel); have tc23 := iv_nt 8 c23 (by decide +kernel); have tc27 := iv_nt 9 c27 (by decide +kernel); have tc30 := iv_nt 10 c30 (by decide +kernel); have tc33 := iv_nt 11 c33 (by decide +kernel); have tc35 := iv_nt 12 c35 (by decide +kernel); have tc38 := iv_nt 13 c38 (by decide +kernel); have tc41 := iv_nt 14 c41 (by decide +kernel); have tc44 := iv_nt 15 c44 (by decide +kernel); have b1 := ((iv_top x1)).1; have b2 := ((iv_top x1)).2; omega) (by decide) ?_
  refine lv_ldcw X.1 X.2.1 X.2.2.2.1 (X.2.2.2.2 _ wl_5_9) dX11_count_207 ?_
  exact sg_iret X hr hlk hb hK hC hG hS trivial dX11_count_210

theorem ca_X11_count   (X : CallFix p m c cc nL s args sg_tbl own) (hK : va_K D vwCl tys s) (hG : sgG (KT P) D vwCl (fun q : Nat => base ≤ q) tys ad ks H) (hC : sgC base s) (hS : va_S (fun q : Nat => base ≤ q) s.heap H locs) (hb : base ≤ s.heap.size) (a0 : Nat) (h0 : isK ad ks 11 a0) (x1 : Int32) (hl : Cond.methodLink own index yX11_count ∈ sg_tbl) (hsize : ls.size = nL) (hst : st0 = [.int x1].reverse ++ .ref a0 :: rest) (hW : (rest.map fun v => v.category).sum ≤ 8) (hR : 3 ≤ R.frames ∧ 54 ≤ R.locals) (hf : cells ≤ R.cells ∧ slots ≤ R.slots) (hdg : decode cc pc = .ok (.invokevirtual index, 3)) (kk : ∀ (r : Int32) (H1 : Heap) (locs1 : List Loc), (fun r : Int32 => True) r → sgG (KT P) D vwCl (fun q : Nat => base ≤ q) tys ad ks H1 → va_S (fun q : Nat => base ≤ q) s.heap H1 locs1 → W p l e R s m args below meth c H1 locs1 cells slots Q (F0 m (pc + 3) ls (.int r :: rest))) : W p l e R s m args below meth c H locs cells slots Q (F0 m pc ls st0) :=
  sg_callVi X hK hG hC hS hb (m_X11_count l a0 h0 x1) h0 (k := 11) (ci := 11) rfl (C := RX11) (T := TX11) (N := 17) rfl wl_6_99 wl_1_1 wl_6_97 wl_6_98 (n := 1) (by decide +kernel) rfl rfl rfl hl hsize hst hW hR hf hdg kk

set_option maxHeartbeats 8000000 in
set_option maxRecDepth 100000 in
theorem m_X11_fault (l : Launch) {D : va_G} {base : Nat} {tys : List (ClassId × FieldType)} {ad ks : List Nat} {P : sgPm} (a0 : Nat) (h0 : isK ad ks 11 a0) (x1 : Int32) (hgi : sgGi (sgGm P)) (hgg : sgGg (sgGm P) P.2.2.2.2.2.2.2.1.val) : sgMi l (KT P) D vwCl base tys ad ks yX11_fault cX11_fault 2 (some .int) ({ frames := 23, cells := 0, slots := 0, locals := 565 }) [.ref a0, .int x1] (fun r : Int32 => True) := by
  refine sg_ofW (by decide +kernel) (Nat.le_of_ble_eq_true rfl) (fun p e s m below meth c X hr hlk hb hK hC hG ls hl => ?_)
  have hS : va_S (fun q : Nat => base ≤ q) s.heap s.heap [] := va_S.rf
  have hl : lv_has ls 2 [(0, .ref a0), (1, .int x1)] := hl
  refine lv_iload_n X.1 X.2.1 dX11_fault_0 rfl (lv_at hl 1 rfl) ?_
  by_cases c1 : x1 = 0
  · refine lv_tableIn (tgt := 28) (off := 27) X.1 X.2.1 dX11_fault_1 (by rw [c1]; decide +kernel) (by rw [c1]; decide +kernel) (by rw [c1]; rfl) (by decide) ?_
    refine lv_aload_n X.1 X.2.1 dX11_fault_28 rfl (lv_at hl 0 rfl) ?_
    refine gf_X11_11h X hK hG h0 wl_2_206 dX11_fault_29 (fun q2 hq2 kq2 gq2 => ?_)
    refine lv_aload_n X.1 X.2.1 dX11_fault_32 rfl (lv_at hl 0 rfl) ?_
    refine gf_X11_0 X hK hG h0 wl_2_195 dX11_fault_33 (fun q3 hq3 kq3 => ?_)
    refine ca_X4_read X hK hG hC hS hb q2 hq2 q3 hq3 (gi_np hgi gq2) wl_3_26 hl.1 (rest := []) rfl (Nat.le_of_ble_eq_true rfl) ⟨Nat.le_of_ble_eq_true rfl, Nat.le_of_ble_eq_true rfl⟩ ⟨Nat.le_of_ble_eq_true rfl, Nat.le_of_ble_eq_true rfl⟩ dX11_fault_36 (fun f4 H locs hf4 hG hS => ?_)
    refine lv_pop X.1 X.2.1 dX11_fault_39 rfl ?_
    refine lv_aload_n X.1 X.2.1 dX11_fault_40 rfl (lv_at hl 0 rfl) ?_
    refine gf_X11_0 X hK hG h0 wl_2_195 dX11_fault_41 (fun q5 hq5 kq5 => ?_)
    refine gf_X10_3 X hK hG hq5 wl_1_46 dX11_fault_44 (fun f6 hf6 kf6 => ?_)
    exact sg_iret X hr hlk hb hK hC hG hS trivial dX11_fault_47
  by_cases c7 : x1 = 1
  · refine lv_tableIn (tgt := 48) (off := 47) X.1 X.2.1 dX11_fault_1 (by rw [c7]; decide +kernel) (by rw [c7]; decide +kernel) (by rw [c7]; rfl) (by decide) ?_
    refine lv_aload_n X.1 X.2.1 dX11_fault_48 rfl (lv_at hl 0 rfl) ?_
    refine gf_X11_1 X hK hG h0 wl_2_196 dX11_fault_49 (fun q8 hq8 kq8 => ?_)
    refine lv_aload_n X.1 X.2.1 dX11_fault_52 rfl (lv_at hl 0 rfl) ?_
    refine gf_X11_12 X hK hG h0 wl_2_207 dX11_fault_53 (fun f9 hf9 pf9 kf9 => ?_)
    refine al_43 X hK hG hq8 (iv_vpin hf9 (by decide +kernel)) dX11_fault_56 (fun q10 hq10 => ?_)
    refine lv_aload_n X.1 X.2.1 dX11_fault_57 rfl (lv_at hl 0 rfl) ?_
    refine gf_X11_0 X hK hG h0 wl_2_195 dX11_fault_58 (fun q11 hq11 kq11 => ?_)
    refine ca_X6_read X hK hG hC hS hb q10 hq10 q11 hq11 wl_3_205 hl.1 (rest := []) rfl (Nat.le_of_ble_eq_true rfl) ⟨Nat.le_of_ble_eq_true rfl, Nat.le_of_ble_eq_true rfl⟩ ⟨Nat.le_of_ble_eq_true rfl, Nat.le_of_ble_eq_true rfl⟩ dX11_fault_61 (fun f12 H locs hf12 hG hS => ?_)
    refine lv_pop X.1 X.2.1 dX11_fault_64 rfl ?_
    refine lv_aload_n X.1 X.2.1 dX11_fault_65 rfl (lv_at hl 0 rfl) ?_
    refine gf_X11_0 X hK hG h0 wl_2_195 dX11_fault_66 (fun q13 hq13 kq13 => ?_)
    refine gf_X10_3 X hK hG hq13 wl_1_46 dX11_fault_69 (fun f14 hf14 kf14 => ?_)
    exact sg_iret X hr hlk hb hK hC hG hS trivial dX11_fault_72
  by_cases c15 : x1 = 2
  · refine lv_tableIn (tgt := 73) (off := 72) X.1 X.2.1 dX11_fault_1 (by rw [c15]; decide +kernel) (by rw [c15]; decide +kernel) (by rw [c15]; rfl) (by decide) ?_
    refine lv_aload_n X.1 X.2.1 dX11_fault_73 rfl (lv_at hl 0 rfl) ?_
    refine gf_X11_2 X hK hG h0 wl_2_197 dX11_fault_74 (fun q16 hq16 kq16 => ?_)
    refine lv_aload_n X.1 X.2.1 dX11_fault_77 rfl (lv_at hl 0 rfl) ?_
    refine gf_X11_13 X hK hG h0 wl_2_208 dX11_fault_78 (fun f17 hf17 pf17 kf17 => ?_)
    refine al_44h X hK hG hq16 (iv_vpin hf17 (by decide +kernel)) dX11_fault_81 (fun q18 hq18 gq18 => ?_)
    refine lv_aload_n X.1 X.2.1 dX11_fault_82 rfl (lv_at hl 0 rfl) ?_
    refine gf_X11_0 X hK hG h0 wl_2_195 dX11_fault_83 (fun q19 hq19 kq19 => ?_)
    refine ca_X3_read X hK hG hC hS hb q18 hq18 q19 hq19 (gg_ng hgg (sg_pinc pf17) (Fin.isLt _) gq18) wl_4_14 hl.1 (rest := []) rfl (Nat.le_of_ble_eq_true rfl) ⟨Nat.le_of_ble_eq_true rfl, Nat.le_of_ble_eq_true rfl⟩ ⟨Nat.le_of_ble_eq_true rfl, Nat.le_of_ble_eq_true rfl⟩ dX11_fault_86 (fun f20 H locs hf20 hG hS => ?_)
    refine lv_pop X.1 X.2.1 dX11_fault_89 rfl ?_
    refine lv_aload_n X.1 X.2.1 dX11_fault_90 rfl (lv_at hl 0 rfl) ?_
    refine gf_X11_0 X hK hG h0 wl_2_195 dX11_fault_91 (fun q21 hq21 kq21 => ?_)
    refine gf_X10_3 X hK hG hq21 wl_1_46 dX11_fault_94 (fun f22 hf22 kf22 => ?_)
    exact sg_iret X hr hlk hb hK hC hG hS trivial dX11_fault_97
  refine lv_tableOut (tgt := 98) X.1 X.2.1 dX11_fault_1 (by have tc1 := iv_nt 0 c1 (by decide +kernel); have tc7 := iv_nt 1 c7 (by decide +kernel); have tc15 := iv_nt 2 c15 (by decide +kernel); have b1 := ((iv_top x1)).1; have b2 := ((iv_top x1)).2; omega) (by decide) ?_
  refine lv_bipush (v := (-2)) X.1 X.2.1 dX11_fault_98 (by decide +kernel) ?_
  exact sg_iret X hr hlk hb hK hC hG hS trivial dX11_fault_100

theorem ca_X11_fault   (X : CallFix p m c cc nL s args sg_tbl own) (hK : va_K D vwCl tys s) (hG : sgG (KT P) D vwCl (fun q : Nat => base ≤ q) tys ad ks H) (hC : sgC base s) (hS : va_S (fun q : Nat => base ≤ q) s.heap H locs) (hb : base ≤ s.heap.size) (a0 : Nat) (h0 : isK ad ks 11 a0) (x1 : Int32) (hgi : sgGi (sgGm P)) (hgg : sgGg (sgGm P) P.2.2.2.2.2.2.2.1.val) (hl : Cond.methodLink own index yX11_fault ∈ sg_tbl) (hsize : ls.size = nL) (hst : st0 = [.int x1].reverse ++ .ref a0 :: rest) (hW : (rest.map fun v => v.category).sum ≤ 8) (hR : 24 ≤ R.frames ∧ 586 ≤ R.locals) (hf : cells ≤ R.cells ∧ slots ≤ R.slots) (hdg : decode cc pc = .ok (.invokevirtual index, 3)) (kk : ∀ (r : Int32) (H1 : Heap) (locs1 : List Loc), (fun r : Int32 => True) r → sgG (KT P) D vwCl (fun q : Nat => base ≤ q) tys ad ks H1 → va_S (fun q : Nat => base ≤ q) s.heap H1 locs1 → W p l e R s m args below meth c H1 locs1 cells slots Q (F0 m (pc + 3) ls (.int r :: rest))) : W p l e R s m args below meth c H locs cells slots Q (F0 m pc ls st0) :=
  sg_callVi X hK hG hC hS hb (m_X11_fault l a0 h0 x1 hgi hgg) h0 (k := 11) (ci := 11) rfl (C := RX11) (T := TX11) (N := 17) rfl wl_3_25 wl_1_1 wl_3_23 wl_3_24 (n := 1) (by decide +kernel) rfl rfl rfl hl hsize hst hW hR hf hdg kk

set_option maxHeartbeats 8000000 in
set_option maxRecDepth 100000 in
theorem m_X8_face_n (l : Launch) {D : va_G} {base : Nat} {tys : List (ClassId × FieldType)} {ad ks : List Nat} {P : sgPm} (a0 : Nat) (h0 : isK ad ks 8 a0) (a1 : Nat) (h1 : isK ad ks 4 a1) : Met l yX8_face (Cond.code yX8_face cX8_face 3 none :: sg_tbl) ({ frames := 1, cells := 0, slots := 0, locals := 23 }) (va_Pc [.ref a0, .ref a1, .null] (sgB (KT P) D vwCl base tys ad ks)) (va_Qv (fun (_ : Unit) => True) (fun _ => sgB (KT (false, P.2)) D vwCl base tys ad ks) (fun q : Nat => base ≤ q)) 0 0 (fun q : Nat => base ≤ q) := by
  refine sg_ofW (by decide +kernel) (Nat.le_of_ble_eq_true rfl) (fun p e s m below meth c X hr hlk hb hK hC hG ls hl => ?_)
  have hS : va_S (fun q : Nat => base ≤ q) s.heap s.heap [] := va_S.rf
  have hl : lv_has ls 3 [(0, .ref a0), (1, .ref a1), (2, .null)] := hl
  refine lv_aload_n X.1 X.2.1 dX8_face_0 rfl (lv_at hl 0 rfl) ?_
  refine lv_aload_n X.1 X.2.1 dX8_face_1 rfl (lv_at hl 1 rfl) ?_
  refine pf_X8_0 X hK hG hS h0 wl_2_35 (Or.inr ⟨_, rfl, h1⟩) dX8_face_2 (fun H locs hG hS ku1 ru1 => ?_)
  refine lv_aload_n X.1 X.2.1 dX8_face_5 rfl (lv_at hl 0 rfl) ?_
  refine lv_aload_nN X.1 X.2.1 dX8_face_6 rfl (lv_at hl 2 rfl) ?_
  refine pf_X8_1xn X hK hG hS h0 wl_2_39 (Or.inl ⟨rfl, rfl⟩) dX8_face_7 (fun H locs hG hS => ?_)
  refine lv_aload_n X.1 X.2.1 dX8_face_10 rfl (lv_at hl 0 rfl) ?_
  refine gf_X8_2 X hK hG h0 wl_2_40 dX8_face_11 (fun q2 hq2 kq2 => ?_)
  refine lv_iconst (v := 0) X.1 X.2.1 dX8_face_14 (by decide +kernel) ?_
  refine ca_J7_fill_53178_pageDays X hK hG hC hS hb q2 hq2 0 wl_4_67 hl.1 (rest := []) rfl (Nat.le_of_ble_eq_true rfl) ⟨Nat.le_of_ble_eq_true rfl, Nat.le_of_ble_eq_true rfl⟩ ⟨Nat.le_of_ble_eq_true rfl, Nat.le_of_ble_eq_true rfl⟩ dX8_face_15 (fun H locs hG hS => ?_)
  refine lv_aload_n X.1 X.2.1 dX8_face_18 rfl (lv_at hl 0 rfl) ?_
  refine gf_X8_3 X hK hG h0 wl_2_41 dX8_face_19 (fun q4 hq4 kq4 => ?_)
  refine lv_iconst (v := 0) X.1 X.2.1 dX8_face_22 (by decide +kernel) ?_
  refine ca_J7_fill_53178_reckoned X hK hG hC hS hb q4 hq4 0 wl_4_67 hl.1 (rest := []) rfl (Nat.le_of_ble_eq_true rfl) ⟨Nat.le_of_ble_eq_true rfl, Nat.le_of_ble_eq_true rfl⟩ ⟨Nat.le_of_ble_eq_true rfl, Nat.le_of_ble_eq_true rfl⟩ dX8_face_23 (fun H locs hG hS => ?_)
  refine lv_aload_n X.1 X.2.1 dX8_face_26 rfl (lv_at hl 0 rfl) ?_
  refine gf_X8_4 X hK hG h0 wl_2_42 dX8_face_27 (fun q6 hq6 kq6 => ?_)
  refine lv_iconst (v := 0) X.1 X.2.1 dX8_face_30 (by decide +kernel) ?_
  refine ca_J7_fill_53178_worthy X hK hG hC hS hb q6 hq6 0 wl_4_67 hl.1 (rest := []) rfl (Nat.le_of_ble_eq_true rfl) ⟨Nat.le_of_ble_eq_true rfl, Nat.le_of_ble_eq_true rfl⟩ ⟨Nat.le_of_ble_eq_true rfl, Nat.le_of_ble_eq_true rfl⟩ dX8_face_31 (fun H locs hG hS => ?_)
  exact sg_vret2 X hr hlk hS (fun t ht hW => sg_post hb hK hC hG hS ht hW) dX8_face_34

theorem ca_X8_face_n   (X : CallFix p m c cc nL s args sg_tbl own) (hK : va_K D vwCl tys s) (hG : sgG (KT P) D vwCl (fun q : Nat => base ≤ q) tys ad ks H) (hC : sgC base s) (hS : va_S (fun q : Nat => base ≤ q) s.heap H locs) (hb : base ≤ s.heap.size) (a0 : Nat) (h0 : isK ad ks 8 a0) (a1 : Nat) (h1 : isK ad ks 4 a1) (hl : Cond.methodLink own index yX8_face ∈ sg_tbl) (hsize : ls.size = nL) (hst : st0 = [.ref a1, .null].reverse ++ .ref a0 :: rest) (hW : (rest.map fun v => v.category).sum ≤ 8) (hR : 2 ≤ R.frames ∧ 45 ≤ R.locals) (hf : cells ≤ R.cells ∧ slots ≤ R.slots) (hdg : decode cc pc = .ok (.invokevirtual index, 3)) (kk : ∀ (t : State) (H1 : Heap) (locs1 : List Loc), t.heap = H1 → (sgB (KT (false, P.2)) D vwCl base tys ad ks t) → va_S (fun q : Nat => base ≤ q) s.heap H1 locs1 → W p l e R s m args below meth c H1 locs1 cells slots Q (F0 m (pc + 3) ls rest)) : W p l e R s m args below meth c H locs cells slots Q (F0 m pc ls st0) :=
  sg_callV2v X hK hG hC hS hb (m_X8_face_n l a0 h0 a1 h1) h0 (k := 8) (ci := 8) rfl (C := RX8) (T := TX8) (N := 9) rfl wl_4_66 wl_1_8 wl_4_64 wl_4_65 (n := 2) (by decide +kernel) rfl rfl rfl hl hsize hst hW hR hf hdg kk
end
