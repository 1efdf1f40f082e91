abbrev cX12_digit : ByteArray := prog_14_method_36_code
def yX12_digit : MethodName := ⟨RX12, "digit", "()I"⟩
abbrev cX12_freeIn : ByteArray := prog_14_method_49_code
def yX12_freeIn : MethodName := ⟨RX12, "freeIn", "(III)I"⟩
abbrev cX12_goThrough : ByteArray := prog_14_method_26_code
def yX12_goThrough : MethodName := ⟨RX12, "goThrough", "([BII)V"⟩
abbrev cX12_mayGrow : ByteArray := prog_14_method_47_code
def yX12_mayGrow : MethodName := ⟨RX12, "mayGrow", "(IIII)Z"⟩
abbrev cX12_readGame : ByteArray := prog_14_method_38_code
def yX12_readGame : MethodName := ⟨RX12, "readGame", "()V"⟩
abbrev cX12_readItems : ByteArray := prog_14_method_33_code
def yX12_readItems : MethodName := ⟨RX12, "readItems", "(I[ILjava/lang/String;)V"⟩
abbrev cX12_readMove : ByteArray := prog_14_method_37_code
def yX12_readMove : MethodName := ⟨RX12, "readMove", "(I)V"⟩
abbrev cX12_starts : ByteArray := prog_14_method_25_code
def yX12_starts : MethodName := ⟨RX12, "starts", "([BII)V"⟩
abbrev cX12_threatsIn : ByteArray := prog_14_method_50_code
def yX12_threatsIn : MethodName := ⟨RX12, "threatsIn", "(III)I"⟩
abbrev cX12_worthNow : ByteArray := prog_14_method_48_code
def yX12_worthNow : MethodName := ⟨RX12, "worthNow", "()I"⟩
abbrev cX12_writes : ByteArray := prog_14_method_56_code
def yX12_writes : MethodName := ⟨RX12, "writes", "([IIIII)V"⟩
theorem dX12_digit_0 : decode cX12_digit 0 = .ok (.aload_n 0, 1) := by decide +kernel
theorem dX12_digit_1 : decode cX12_digit 1 = .ok (.invokevirtual 136, 3) := by decide +kernel
theorem dX12_digit_4 : decode cX12_digit 4 = .ok (.istore_n 1, 1) := by decide +kernel
theorem dX12_digit_5 : decode cX12_digit 5 = .ok (.aload_n 0, 1) := by decide +kernel
theorem dX12_digit_6 : decode cX12_digit 6 = .ok (.invokevirtual 166, 3) := by decide +kernel
theorem dX12_digit_9 : decode cX12_digit 9 = .ok (.ifCond .eq 15, 3) := by decide +kernel
theorem dX12_digit_12 : decode cX12_digit 12 = .ok (.iload_n 1, 1) := by decide +kernel
theorem dX12_digit_13 : decode cX12_digit 13 = .ok (.bipush 49, 2) := by decide +kernel
theorem dX12_digit_15 : decode cX12_digit 15 = .ok (.if_icmp .lt 9, 3) := by decide +kernel
theorem dX12_digit_18 : decode cX12_digit 18 = .ok (.iload_n 1, 1) := by decide +kernel
theorem dX12_digit_19 : decode cX12_digit 19 = .ok (.bipush 53, 2) := by decide +kernel
theorem dX12_digit_21 : decode cX12_digit 21 = .ok (.if_icmp .le 10, 3) := by decide +kernel
theorem dX12_digit_24 : decode cX12_digit 24 = .ok (.aload_n 0, 1) := by decide +kernel
theorem dX12_digit_25 : decode cX12_digit 25 = .ok (.invokevirtual 132, 3) := by decide +kernel
theorem dX12_digit_28 : decode cX12_digit 28 = .ok (.pop, 1) := by decide +kernel
theorem dX12_digit_29 : decode cX12_digit 29 = .ok (.iconst 0, 1) := by decide +kernel
theorem dX12_digit_30 : decode cX12_digit 30 = .ok (.ireturn, 1) := by decide +kernel
theorem dX12_digit_31 : decode cX12_digit 31 = .ok (.aload_n 0, 1) := by decide +kernel
theorem dX12_digit_32 : decode cX12_digit 32 = .ok (.dup, 1) := by decide +kernel
theorem dX12_digit_33 : decode cX12_digit 33 = .ok (.getfield 117, 3) := by decide +kernel
theorem dX12_digit_36 : decode cX12_digit 36 = .ok (.iconst 1, 1) := by decide +kernel
theorem dX12_digit_37 : decode cX12_digit 37 = .ok (.iadd, 1) := by decide +kernel
theorem dX12_digit_38 : decode cX12_digit 38 = .ok (.putfield 117, 3) := by decide +kernel
theorem dX12_digit_41 : decode cX12_digit 41 = .ok (.iload_n 1, 1) := by decide +kernel
theorem dX12_digit_42 : decode cX12_digit 42 = .ok (.bipush 48, 2) := by decide +kernel
theorem dX12_digit_44 : decode cX12_digit 44 = .ok (.isub, 1) := by decide +kernel
theorem dX12_digit_45 : decode cX12_digit 45 = .ok (.ireturn, 1) := by decide +kernel
theorem dX12_freeIn_0 : decode cX12_freeIn 0 = .ok (.iconst 0, 1) := by decide +kernel
theorem dX12_freeIn_1 : decode cX12_freeIn 1 = .ok (.istore 4, 2) := by decide +kernel
theorem dX12_freeIn_3 : decode cX12_freeIn 3 = .ok (.iconst 0, 1) := by decide +kernel
theorem dX12_freeIn_4 : decode cX12_freeIn 4 = .ok (.istore 5, 2) := by decide +kernel
theorem dX12_freeIn_6 : decode cX12_freeIn 6 = .ok (.iload 5, 2) := by decide +kernel
theorem dX12_freeIn_8 : decode cX12_freeIn 8 = .ok (.aload_n 0, 1) := by decide +kernel
theorem dX12_freeIn_9 : decode cX12_freeIn 9 = .ok (.getfield 302, 3) := by decide +kernel
theorem dX12_freeIn_12 : decode cX12_freeIn 12 = .ok (.if_icmp .ge 34, 3) := by decide +kernel
theorem dX12_freeIn_15 : decode cX12_freeIn 15 = .ok (.iload 4, 2) := by decide +kernel
theorem dX12_freeIn_17 : decode cX12_freeIn 17 = .ok (.aload_n 0, 1) := by decide +kernel
theorem dX12_freeIn_18 : decode cX12_freeIn 18 = .ok (.iload_n 1, 1) := by decide +kernel
theorem dX12_freeIn_19 : decode cX12_freeIn 19 = .ok (.iload_n 2, 1) := by decide +kernel
theorem dX12_freeIn_20 : decode cX12_freeIn 20 = .ok (.iload_n 3, 1) := by decide +kernel
theorem dX12_freeIn_21 : decode cX12_freeIn 21 = .ok (.iload 5, 2) := by decide +kernel
theorem dX12_freeIn_23 : decode cX12_freeIn 23 = .ok (.invokevirtual 351, 3) := by decide +kernel
theorem dX12_freeIn_26 : decode cX12_freeIn 26 = .ok (.ifCond .eq 10, 3) := by decide +kernel
theorem dX12_freeIn_29 : decode cX12_freeIn 29 = .ok (.iconst 1, 1) := by decide +kernel
theorem dX12_freeIn_30 : decode cX12_freeIn 30 = .ok (.iload 5, 2) := by decide +kernel
theorem dX12_freeIn_32 : decode cX12_freeIn 32 = .ok (.ishl, 1) := by decide +kernel
theorem dX12_freeIn_33 : decode cX12_freeIn 33 = .ok (.goto 4, 3) := by decide +kernel
theorem dX12_freeIn_36 : decode cX12_freeIn 36 = .ok (.iconst 0, 1) := by decide +kernel
theorem dX12_freeIn_37 : decode cX12_freeIn 37 = .ok (.ior, 1) := by decide +kernel
theorem dX12_freeIn_38 : decode cX12_freeIn 38 = .ok (.istore 4, 2) := by decide +kernel
theorem dX12_freeIn_40 : decode cX12_freeIn 40 = .ok (.iinc 5 1, 3) := by decide +kernel
theorem dX12_freeIn_43 : decode cX12_freeIn 43 = .ok (.goto (-37), 3) := by decide +kernel
theorem dX12_freeIn_46 : decode cX12_freeIn 46 = .ok (.iload 4, 2) := by decide +kernel
theorem dX12_freeIn_48 : decode cX12_freeIn 48 = .ok (.ireturn, 1) := by decide +kernel
theorem dX12_goThrough_0 : decode cX12_goThrough 0 = .ok (.aload_n 0, 1) := by decide +kernel
theorem dX12_goThrough_1 : decode cX12_goThrough 1 = .ok (.aload_n 1, 1) := by decide +kernel
theorem dX12_goThrough_2 : decode cX12_goThrough 2 = .ok (.iload_n 2, 1) := by decide +kernel
theorem dX12_goThrough_3 : decode cX12_goThrough 3 = .ok (.iload_n 3, 1) := by decide +kernel
theorem dX12_goThrough_4 : decode cX12_goThrough 4 = .ok (.invokevirtual 205, 3) := by decide +kernel
theorem dX12_goThrough_7 : decode cX12_goThrough 7 = .ok (.aload_n 0, 1) := by decide +kernel
theorem dX12_goThrough_8 : decode cX12_goThrough 8 = .ok (.bipush 121, 2) := by decide +kernel
theorem dX12_goThrough_10 : decode cX12_goThrough 10 = .ok (.putfield 199, 3) := by decide +kernel
theorem dX12_goThrough_13 : decode cX12_goThrough 13 = .ok (.aload_n 0, 1) := by decide +kernel
theorem dX12_goThrough_14 : decode cX12_goThrough 14 = .ok (.iconst 0, 1) := by decide +kernel
theorem dX12_goThrough_15 : decode cX12_goThrough 15 = .ok (.putfield 129, 3) := by decide +kernel
theorem dX12_goThrough_18 : decode cX12_goThrough 18 = .ok (.aload_n 0, 1) := by decide +kernel
theorem dX12_goThrough_19 : decode cX12_goThrough 19 = .ok (.iconst 0, 1) := by decide +kernel
theorem dX12_goThrough_20 : decode cX12_goThrough 20 = .ok (.putfield 195, 3) := by decide +kernel
theorem dX12_goThrough_23 : decode cX12_goThrough 23 = .ok (.aload_n 0, 1) := by decide +kernel
theorem dX12_goThrough_24 : decode cX12_goThrough 24 = .ok (.iconst 0, 1) := by decide +kernel
theorem dX12_goThrough_25 : decode cX12_goThrough 25 = .ok (.putfield 202, 3) := by decide +kernel
theorem dX12_goThrough_28 : decode cX12_goThrough 28 = .ok (.aload_n 0, 1) := by decide +kernel
theorem dX12_goThrough_29 : decode cX12_goThrough 29 = .ok (.invokevirtual 209, 3) := by decide +kernel
theorem dX12_goThrough_32 : decode cX12_goThrough 32 = .ok (.aload_n 0, 1) := by decide +kernel
theorem dX12_goThrough_33 : decode cX12_goThrough 33 = .ok (.getfield 126, 3) := by decide +kernel
theorem dX12_goThrough_36 : decode cX12_goThrough 36 = .ok (.iconst (-1), 1) := by decide +kernel
theorem dX12_goThrough_37 : decode cX12_goThrough 37 = .ok (.if_icmp .ne 29, 3) := by decide +kernel
theorem dX12_goThrough_40 : decode cX12_goThrough 40 = .ok (.aload_n 0, 1) := by decide +kernel
theorem dX12_goThrough_41 : decode cX12_goThrough 41 = .ok (.invokevirtual 136, 3) := by decide +kernel
theorem dX12_goThrough_44 : decode cX12_goThrough 44 = .ok (.bipush 59, 2) := by decide +kernel
theorem dX12_goThrough_46 : decode cX12_goThrough 46 = .ok (.if_icmp .ne 20, 3) := by decide +kernel
theorem dX12_goThrough_49 : decode cX12_goThrough 49 = .ok (.aload_n 0, 1) := by decide +kernel
theorem dX12_goThrough_50 : decode cX12_goThrough 50 = .ok (.dup, 1) := by decide +kernel
theorem dX12_goThrough_51 : decode cX12_goThrough 51 = .ok (.getfield 117, 3) := by decide +kernel
theorem dX12_goThrough_54 : decode cX12_goThrough 54 = .ok (.iconst 1, 1) := by decide +kernel
theorem dX12_goThrough_55 : decode cX12_goThrough 55 = .ok (.iadd, 1) := by decide +kernel
theorem dX12_goThrough_56 : decode cX12_goThrough 56 = .ok (.putfield 117, 3) := by decide +kernel
theorem dX12_goThrough_59 : decode cX12_goThrough 59 = .ok (.aload_n 0, 1) := by decide +kernel
theorem dX12_goThrough_60 : decode cX12_goThrough 60 = .ok (.invokevirtual 209, 3) := by decide +kernel
theorem dX12_goThrough_63 : decode cX12_goThrough 63 = .ok (.goto (-31), 3) := by decide +kernel
theorem dX12_goThrough_66 : decode cX12_goThrough 66 = .ok (.aload_n 0, 1) := by decide +kernel
theorem dX12_goThrough_67 : decode cX12_goThrough 67 = .ok (.getfield 126, 3) := by decide +kernel
theorem dX12_goThrough_70 : decode cX12_goThrough 70 = .ok (.iconst (-1), 1) := by decide +kernel
theorem dX12_goThrough_71 : decode cX12_goThrough 71 = .ok (.if_icmp .ne 16, 3) := by decide +kernel
theorem dX12_goThrough_74 : decode cX12_goThrough 74 = .ok (.aload_n 0, 1) := by decide +kernel
theorem dX12_goThrough_75 : decode cX12_goThrough 75 = .ok (.invokevirtual 136, 3) := by decide +kernel
theorem dX12_goThrough_78 : decode cX12_goThrough 78 = .ok (.iconst (-1), 1) := by decide +kernel
theorem dX12_goThrough_79 : decode cX12_goThrough 79 = .ok (.if_icmp .eq 8, 3) := by decide +kernel
theorem dX12_goThrough_82 : decode cX12_goThrough 82 = .ok (.aload_n 0, 1) := by decide +kernel
theorem dX12_goThrough_83 : decode cX12_goThrough 83 = .ok (.invokevirtual 132, 3) := by decide +kernel
theorem dX12_goThrough_86 : decode cX12_goThrough 86 = .ok (.pop, 1) := by decide +kernel
theorem dX12_goThrough_87 : decode cX12_goThrough 87 = .ok (.return_, 1) := by decide +kernel
theorem dX12_mayGrow_0 : decode cX12_mayGrow 0 = .ok (.iload_n 1, 1) := by decide +kernel
theorem dX12_mayGrow_1 : decode cX12_mayGrow 1 = .ok (.iload_n 2, 1) := by decide +kernel
theorem dX12_mayGrow_2 : decode cX12_mayGrow 2 = .ok (.ior, 1) := by decide +kernel
theorem dX12_mayGrow_3 : decode cX12_mayGrow 3 = .ok (.aload_n 0, 1) := by decide +kernel
theorem dX12_mayGrow_4 : decode cX12_mayGrow 4 = .ok (.getfield 305, 3) := by decide +kernel
theorem dX12_mayGrow_7 : decode cX12_mayGrow 7 = .ok (.ior, 1) := by decide +kernel
theorem dX12_mayGrow_8 : decode cX12_mayGrow 8 = .ok (.iload 4, 2) := by decide +kernel
theorem dX12_mayGrow_10 : decode cX12_mayGrow 10 = .ok (.invokestatic 227, 3) := by decide +kernel
theorem dX12_mayGrow_13 : decode cX12_mayGrow 13 = .ok (.ifCond .eq 5, 3) := by decide +kernel
theorem dX12_mayGrow_16 : decode cX12_mayGrow 16 = .ok (.iconst 0, 1) := by decide +kernel
theorem dX12_mayGrow_17 : decode cX12_mayGrow 17 = .ok (.ireturn, 1) := by decide +kernel
theorem dX12_mayGrow_18 : decode cX12_mayGrow 18 = .ok (.aload_n 0, 1) := by decide +kernel
theorem dX12_mayGrow_19 : decode cX12_mayGrow 19 = .ok (.iload_n 1, 1) := by decide +kernel
theorem dX12_mayGrow_20 : decode cX12_mayGrow 20 = .ok (.iload 4, 2) := by decide +kernel
theorem dX12_mayGrow_22 : decode cX12_mayGrow 22 = .ok (.invokevirtual 330, 3) := by decide +kernel
theorem dX12_mayGrow_25 : decode cX12_mayGrow 25 = .ok (.istore 5, 2) := by decide +kernel
theorem dX12_mayGrow_27 : decode cX12_mayGrow 27 = .ok (.aload_n 0, 1) := by decide +kernel
theorem dX12_mayGrow_28 : decode cX12_mayGrow 28 = .ok (.getfield 58, 3) := by decide +kernel
theorem dX12_mayGrow_31 : decode cX12_mayGrow 31 = .ok (.iconst (-1), 1) := by decide +kernel
theorem dX12_mayGrow_32 : decode cX12_mayGrow 32 = .ok (.if_icmp .ne 31, 3) := by decide +kernel
theorem dX12_mayGrow_35 : decode cX12_mayGrow 35 = .ok (.iload 5, 2) := by decide +kernel
theorem dX12_mayGrow_37 : decode cX12_mayGrow 37 = .ok (.aload_n 0, 1) := by decide +kernel
theorem dX12_mayGrow_38 : decode cX12_mayGrow 38 = .ok (.getfield 37, 3) := by decide +kernel
theorem dX12_mayGrow_41 : decode cX12_mayGrow 41 = .ok (.iconst 4, 1) := by decide +kernel
theorem dX12_mayGrow_42 : decode cX12_mayGrow 42 = .ok (.iaload, 1) := by decide +kernel
theorem dX12_mayGrow_43 : decode cX12_mayGrow 43 = .ok (.if_icmp .lt 18, 3) := by decide +kernel
theorem dX12_mayGrow_46 : decode cX12_mayGrow 46 = .ok (.iload 5, 2) := by decide +kernel
theorem dX12_mayGrow_48 : decode cX12_mayGrow 48 = .ok (.aload_n 0, 1) := by decide +kernel
theorem dX12_mayGrow_49 : decode cX12_mayGrow 49 = .ok (.getfield 37, 3) := by decide +kernel
theorem dX12_mayGrow_52 : decode cX12_mayGrow 52 = .ok (.iconst 5, 1) := by decide +kernel
theorem dX12_mayGrow_53 : decode cX12_mayGrow 53 = .ok (.iaload, 1) := by decide +kernel
theorem dX12_mayGrow_54 : decode cX12_mayGrow 54 = .ok (.if_icmp .gt 7, 3) := by decide +kernel
theorem dX12_mayGrow_57 : decode cX12_mayGrow 57 = .ok (.iconst 1, 1) := by decide +kernel
theorem dX12_mayGrow_58 : decode cX12_mayGrow 58 = .ok (.goto 4, 3) := by decide +kernel
theorem dX12_mayGrow_61 : decode cX12_mayGrow 61 = .ok (.iconst 0, 1) := by decide +kernel
theorem dX12_mayGrow_62 : decode cX12_mayGrow 62 = .ok (.ireturn, 1) := by decide +kernel
theorem dX12_mayGrow_63 : decode cX12_mayGrow 63 = .ok (.aload_n 0, 1) := by decide +kernel
theorem dX12_mayGrow_64 : decode cX12_mayGrow 64 = .ok (.getfield 20, 3) := by decide +kernel
theorem dX12_mayGrow_67 : decode cX12_mayGrow 67 = .ok (.bipush 116, 2) := by decide +kernel
theorem dX12_mayGrow_69 : decode cX12_mayGrow 69 = .ok (.iload 5, 2) := by decide +kernel
theorem dX12_mayGrow_71 : decode cX12_mayGrow 71 = .ok (.iastore, 1) := by decide +kernel
theorem dX12_mayGrow_72 : decode cX12_mayGrow 72 = .ok (.aload_n 0, 1) := by decide +kernel
theorem dX12_mayGrow_73 : decode cX12_mayGrow 73 = .ok (.getfield 20, 3) := by decide +kernel
theorem dX12_mayGrow_76 : decode cX12_mayGrow 76 = .ok (.bipush 114, 2) := by decide +kernel
theorem dX12_mayGrow_78 : decode cX12_mayGrow 78 = .ok (.iload 4, 2) := by decide +kernel
theorem dX12_mayGrow_80 : decode cX12_mayGrow 80 = .ok (.aload_n 0, 1) := by decide +kernel
theorem dX12_mayGrow_81 : decode cX12_mayGrow 81 = .ok (.getfield 37, 3) := by decide +kernel
theorem dX12_mayGrow_84 : decode cX12_mayGrow 84 = .ok (.iconst 0, 1) := by decide +kernel
theorem dX12_mayGrow_85 : decode cX12_mayGrow 85 = .ok (.iaload, 1) := by decide +kernel
theorem dX12_mayGrow_86 : decode cX12_mayGrow 86 = .ok (.idiv, 1) := by decide +kernel
theorem dX12_mayGrow_87 : decode cX12_mayGrow 87 = .ok (.iastore, 1) := by decide +kernel
theorem dX12_mayGrow_88 : decode cX12_mayGrow 88 = .ok (.aload_n 0, 1) := by decide +kernel
theorem dX12_mayGrow_89 : decode cX12_mayGrow 89 = .ok (.getfield 20, 3) := by decide +kernel
theorem dX12_mayGrow_92 : decode cX12_mayGrow 92 = .ok (.bipush 99, 2) := by decide +kernel
theorem dX12_mayGrow_94 : decode cX12_mayGrow 94 = .ok (.iload 4, 2) := by decide +kernel
theorem dX12_mayGrow_96 : decode cX12_mayGrow 96 = .ok (.aload_n 0, 1) := by decide +kernel
theorem dX12_mayGrow_97 : decode cX12_mayGrow 97 = .ok (.getfield 37, 3) := by decide +kernel
theorem dX12_mayGrow_100 : decode cX12_mayGrow 100 = .ok (.iconst 0, 1) := by decide +kernel
theorem dX12_mayGrow_101 : decode cX12_mayGrow 101 = .ok (.iaload, 1) := by decide +kernel
theorem dX12_mayGrow_102 : decode cX12_mayGrow 102 = .ok (.irem, 1) := by decide +kernel
theorem dX12_mayGrow_103 : decode cX12_mayGrow 103 = .ok (.iastore, 1) := by decide +kernel
theorem dX12_mayGrow_104 : decode cX12_mayGrow 104 = .ok (.aload_n 0, 1) := by decide +kernel
theorem dX12_mayGrow_105 : decode cX12_mayGrow 105 = .ok (.getfield 20, 3) := by decide +kernel
theorem dX12_mayGrow_108 : decode cX12_mayGrow 108 = .ok (.bipush 98, 2) := by decide +kernel
theorem dX12_mayGrow_110 : decode cX12_mayGrow 110 = .ok (.aload_n 0, 1) := by decide +kernel
theorem dX12_mayGrow_111 : decode cX12_mayGrow 111 = .ok (.aload_n 0, 1) := by decide +kernel
theorem dX12_mayGrow_112 : decode cX12_mayGrow 112 = .ok (.getfield 305, 3) := by decide +kernel
theorem dX12_mayGrow_115 : decode cX12_mayGrow 115 = .ok (.iload 4, 2) := by decide +kernel
theorem dX12_mayGrow_117 : decode cX12_mayGrow 117 = .ok (.invokevirtual 330, 3) := by decide +kernel
theorem dX12_mayGrow_120 : decode cX12_mayGrow 120 = .ok (.iastore, 1) := by decide +kernel
theorem dX12_mayGrow_121 : decode cX12_mayGrow 121 = .ok (.aload_n 0, 1) := by decide +kernel
theorem dX12_mayGrow_122 : decode cX12_mayGrow 122 = .ok (.getfield 20, 3) := by decide +kernel
theorem dX12_mayGrow_125 : decode cX12_mayGrow 125 = .ok (.bipush 100, 2) := by decide +kernel
theorem dX12_mayGrow_127 : decode cX12_mayGrow 127 = .ok (.iload_n 3, 1) := by decide +kernel
theorem dX12_mayGrow_128 : decode cX12_mayGrow 128 = .ok (.iastore, 1) := by decide +kernel
theorem dX12_mayGrow_129 : decode cX12_mayGrow 129 = .ok (.aload_n 0, 1) := by decide +kernel
theorem dX12_mayGrow_130 : decode cX12_mayGrow 130 = .ok (.getfield 20, 3) := by decide +kernel
theorem dX12_mayGrow_133 : decode cX12_mayGrow 133 = .ok (.bipush 111, 2) := by decide +kernel
theorem dX12_mayGrow_135 : decode cX12_mayGrow 135 = .ok (.iload_n 1, 1) := by decide +kernel
theorem dX12_mayGrow_136 : decode cX12_mayGrow 136 = .ok (.invokestatic 333, 3) := by decide +kernel
theorem dX12_mayGrow_139 : decode cX12_mayGrow 139 = .ok (.iastore, 1) := by decide +kernel
theorem dX12_mayGrow_140 : decode cX12_mayGrow 140 = .ok (.aload_n 0, 1) := by decide +kernel
theorem dX12_mayGrow_141 : decode cX12_mayGrow 141 = .ok (.invokevirtual 338, 3) := by decide +kernel
theorem dX12_mayGrow_144 : decode cX12_mayGrow 144 = .ok (.ifCond .le 7, 3) := by decide +kernel
theorem dX12_mayGrow_147 : decode cX12_mayGrow 147 = .ok (.iconst 1, 1) := by decide +kernel
theorem dX12_mayGrow_148 : decode cX12_mayGrow 148 = .ok (.goto 4, 3) := by decide +kernel
theorem dX12_mayGrow_151 : decode cX12_mayGrow 151 = .ok (.iconst 0, 1) := by decide +kernel
theorem dX12_mayGrow_152 : decode cX12_mayGrow 152 = .ok (.ireturn, 1) := by decide +kernel
theorem dX12_readGame_0 : decode cX12_readGame 0 = .ok (.aload_n 0, 1) := by decide +kernel
theorem dX12_readGame_1 : decode cX12_readGame 1 = .ok (.aload_n 0, 1) := by decide +kernel
theorem dX12_readGame_2 : decode cX12_readGame 2 = .ok (.getfield 9, 3) := by decide +kernel
theorem dX12_readGame_5 : decode cX12_readGame 5 = .ok (.iconst 0, 1) := by decide +kernel
theorem dX12_readGame_6 : decode cX12_readGame 6 = .ok (.aload_n 0, 1) := by decide +kernel
theorem dX12_readGame_7 : decode cX12_readGame 7 = .ok (.getfield 107, 3) := by decide +kernel
theorem dX12_readGame_10 : decode cX12_readGame 10 = .ok (.invokevirtual 205, 3) := by decide +kernel
theorem dX12_readGame_13 : decode cX12_readGame 13 = .ok (.iconst 0, 1) := by decide +kernel
theorem dX12_readGame_14 : decode cX12_readGame 14 = .ok (.istore_n 1, 1) := by decide +kernel
theorem dX12_readGame_15 : decode cX12_readGame 15 = .ok (.iconst 1, 1) := by decide +kernel
theorem dX12_readGame_16 : decode cX12_readGame 16 = .ok (.istore_n 2, 1) := by decide +kernel
theorem dX12_readGame_17 : decode cX12_readGame 17 = .ok (.iload_n 2, 1) := by decide +kernel
theorem dX12_readGame_18 : decode cX12_readGame 18 = .ok (.ifCond .eq 73, 3) := by decide +kernel
theorem dX12_readGame_21 : decode cX12_readGame 21 = .ok (.aload_n 0, 1) := by decide +kernel
theorem dX12_readGame_22 : decode cX12_readGame 22 = .ok (.iconst 4, 1) := by decide +kernel
theorem dX12_readGame_23 : decode cX12_readGame 23 = .ok (.bipush 64, 2) := by decide +kernel
theorem dX12_readGame_25 : decode cX12_readGame 25 = .ok (.iload_n 1, 1) := by decide +kernel
theorem dX12_readGame_26 : decode cX12_readGame 26 = .ok (.iadd, 1) := by decide +kernel
theorem dX12_readGame_27 : decode cX12_readGame 27 = .ok (.imul, 1) := by decide +kernel
theorem dX12_readGame_28 : decode cX12_readGame 28 = .ok (.invokevirtual 280, 3) := by decide +kernel
theorem dX12_readGame_31 : decode cX12_readGame 31 = .ok (.aload_n 0, 1) := by decide +kernel
theorem dX12_readGame_32 : decode cX12_readGame 32 = .ok (.getfield 126, 3) := by decide +kernel
theorem dX12_readGame_35 : decode cX12_readGame 35 = .ok (.iconst (-1), 1) := by decide +kernel
theorem dX12_readGame_36 : decode cX12_readGame 36 = .ok (.if_icmp .eq 4, 3) := by decide +kernel
theorem dX12_readGame_39 : decode cX12_readGame 39 = .ok (.return_, 1) := by decide +kernel
theorem dX12_readGame_40 : decode cX12_readGame 40 = .ok (.iinc 1 1, 3) := by decide +kernel
theorem dX12_readGame_43 : decode cX12_readGame 43 = .ok (.aload_n 0, 1) := by decide +kernel
theorem dX12_readGame_44 : decode cX12_readGame 44 = .ok (.invokevirtual 136, 3) := by decide +kernel
theorem dX12_readGame_47 : decode cX12_readGame 47 = .ok (.bipush 59, 2) := by decide +kernel
theorem dX12_readGame_49 : decode cX12_readGame 49 = .ok (.if_icmp .ne 7, 3) := by decide +kernel
theorem dX12_readGame_52 : decode cX12_readGame 52 = .ok (.iconst 1, 1) := by decide +kernel
theorem dX12_readGame_53 : decode cX12_readGame 53 = .ok (.goto 4, 3) := by decide +kernel
theorem dX12_readGame_56 : decode cX12_readGame 56 = .ok (.iconst 0, 1) := by decide +kernel
theorem dX12_readGame_57 : decode cX12_readGame 57 = .ok (.istore_n 2, 1) := by decide +kernel
theorem dX12_readGame_58 : decode cX12_readGame 58 = .ok (.iload_n 2, 1) := by decide +kernel
theorem dX12_readGame_59 : decode cX12_readGame 59 = .ok (.ifCond .eq 15, 3) := by decide +kernel
theorem dX12_readGame_62 : decode cX12_readGame 62 = .ok (.iload_n 1, 1) := by decide +kernel
theorem dX12_readGame_63 : decode cX12_readGame 63 = .ok (.bipush 16, 2) := by decide +kernel
theorem dX12_readGame_65 : decode cX12_readGame 65 = .ok (.if_icmp .ne 9, 3) := by decide +kernel
theorem dX12_readGame_68 : decode cX12_readGame 68 = .ok (.aload_n 0, 1) := by decide +kernel
theorem dX12_readGame_69 : decode cX12_readGame 69 = .ok (.invokevirtual 132, 3) := by decide +kernel
theorem dX12_readGame_72 : decode cX12_readGame 72 = .ok (.pop, 1) := by decide +kernel
theorem dX12_readGame_73 : decode cX12_readGame 73 = .ok (.return_, 1) := by decide +kernel
theorem dX12_readGame_74 : decode cX12_readGame 74 = .ok (.iload_n 2, 1) := by decide +kernel
theorem dX12_readGame_75 : decode cX12_readGame 75 = .ok (.ifCond .eq (-58), 3) := by decide +kernel
theorem dX12_readGame_78 : decode cX12_readGame 78 = .ok (.aload_n 0, 1) := by decide +kernel
theorem dX12_readGame_79 : decode cX12_readGame 79 = .ok (.dup, 1) := by decide +kernel
theorem dX12_readGame_80 : decode cX12_readGame 80 = .ok (.getfield 117, 3) := by decide +kernel
theorem dX12_readGame_83 : decode cX12_readGame 83 = .ok (.iconst 1, 1) := by decide +kernel
theorem dX12_readGame_84 : decode cX12_readGame 84 = .ok (.iadd, 1) := by decide +kernel
theorem dX12_readGame_85 : decode cX12_readGame 85 = .ok (.putfield 117, 3) := by decide +kernel
theorem dX12_readGame_88 : decode cX12_readGame 88 = .ok (.goto (-71), 3) := by decide +kernel
theorem dX12_readGame_91 : decode cX12_readGame 91 = .ok (.aload_n 0, 1) := by decide +kernel
theorem dX12_readGame_92 : decode cX12_readGame 92 = .ok (.getfield 49, 3) := by decide +kernel
theorem dX12_readGame_95 : decode cX12_readGame 95 = .ok (.iconst 4, 1) := by decide +kernel
theorem dX12_readGame_96 : decode cX12_readGame 96 = .ok (.iload_n 1, 1) := by decide +kernel
theorem dX12_readGame_97 : decode cX12_readGame 97 = .ok (.iastore, 1) := by decide +kernel
theorem dX12_readGame_98 : decode cX12_readGame 98 = .ok (.aload_n 0, 1) := by decide +kernel
theorem dX12_readGame_99 : decode cX12_readGame 99 = .ok (.invokevirtual 136, 3) := by decide +kernel
theorem dX12_readGame_102 : decode cX12_readGame 102 = .ok (.iconst (-1), 1) := by decide +kernel
theorem dX12_readGame_103 : decode cX12_readGame 103 = .ok (.if_icmp .eq 8, 3) := by decide +kernel
theorem dX12_readGame_106 : decode cX12_readGame 106 = .ok (.aload_n 0, 1) := by decide +kernel
theorem dX12_readGame_107 : decode cX12_readGame 107 = .ok (.invokevirtual 132, 3) := by decide +kernel
theorem dX12_readGame_110 : decode cX12_readGame 110 = .ok (.pop, 1) := by decide +kernel
theorem dX12_readGame_111 : decode cX12_readGame 111 = .ok (.return_, 1) := by decide +kernel
theorem dX12_readItems_0 : decode cX12_readItems 0 = .ok (.iconst 0, 1) := by decide +kernel
theorem dX12_readItems_1 : decode cX12_readItems 1 = .ok (.istore 4, 2) := by decide +kernel
theorem dX12_readItems_3 : decode cX12_readItems 3 = .ok (.iload 4, 2) := by decide +kernel
theorem dX12_readItems_5 : decode cX12_readItems 5 = .ok (.aload_n 3, 1) := by decide +kernel
theorem dX12_readItems_6 : decode cX12_readItems 6 = .ok (.invokevirtual 97, 3) := by decide +kernel
theorem dX12_readItems_9 : decode cX12_readItems 9 = .ok (.if_icmp .ge 19, 3) := by decide +kernel
theorem dX12_readItems_12 : decode cX12_readItems 12 = .ok (.aload_n 2, 1) := by decide +kernel
theorem dX12_readItems_13 : decode cX12_readItems 13 = .ok (.iload 4, 2) := by decide +kernel
theorem dX12_readItems_15 : decode cX12_readItems 15 = .ok (.iload_n 1, 1) := by decide +kernel
theorem dX12_readItems_16 : decode cX12_readItems 16 = .ok (.iload 4, 2) := by decide +kernel
theorem dX12_readItems_18 : decode cX12_readItems 18 = .ok (.invokestatic 219, 3) := by decide +kernel
theorem dX12_readItems_21 : decode cX12_readItems 21 = .ok (.iastore, 1) := by decide +kernel
theorem dX12_readItems_22 : decode cX12_readItems 22 = .ok (.iinc 4 1, 3) := by decide +kernel
theorem dX12_readItems_25 : decode cX12_readItems 25 = .ok (.goto (-22), 3) := by decide +kernel
theorem dX12_readItems_28 : decode cX12_readItems 28 = .ok (.iconst 0, 1) := by decide +kernel
theorem dX12_readItems_29 : decode cX12_readItems 29 = .ok (.istore 4, 2) := by decide +kernel
theorem dX12_readItems_31 : decode cX12_readItems 31 = .ok (.aload_n 3, 1) := by decide +kernel
theorem dX12_readItems_32 : decode cX12_readItems 32 = .ok (.aload_n 0, 1) := by decide +kernel
theorem dX12_readItems_33 : decode cX12_readItems 33 = .ok (.invokevirtual 136, 3) := by decide +kernel
theorem dX12_readItems_36 : decode cX12_readItems 36 = .ok (.invokestatic 223, 3) := by decide +kernel
theorem dX12_readItems_39 : decode cX12_readItems 39 = .ok (.istore 5, 2) := by decide +kernel
theorem dX12_readItems_41 : decode cX12_readItems 41 = .ok (.iload 5, 2) := by decide +kernel
theorem dX12_readItems_43 : decode cX12_readItems 43 = .ok (.iconst (-1), 1) := by decide +kernel
theorem dX12_readItems_44 : decode cX12_readItems 44 = .ok (.if_icmp .eq 87, 3) := by decide +kernel
theorem dX12_readItems_47 : decode cX12_readItems 47 = .ok (.aload_n 0, 1) := by decide +kernel
theorem dX12_readItems_48 : decode cX12_readItems 48 = .ok (.getfield 126, 3) := by decide +kernel
theorem dX12_readItems_51 : decode cX12_readItems 51 = .ok (.iconst (-1), 1) := by decide +kernel
theorem dX12_readItems_52 : decode cX12_readItems 52 = .ok (.if_icmp .ne 79, 3) := by decide +kernel
theorem dX12_readItems_55 : decode cX12_readItems 55 = .ok (.iload 4, 2) := by decide +kernel
theorem dX12_readItems_57 : decode cX12_readItems 57 = .ok (.iload 5, 2) := by decide +kernel
theorem dX12_readItems_59 : decode cX12_readItems 59 = .ok (.invokestatic 227, 3) := by decide +kernel
theorem dX12_readItems_62 : decode cX12_readItems 62 = .ok (.ifCond .eq 9, 3) := by decide +kernel
theorem dX12_readItems_65 : decode cX12_readItems 65 = .ok (.aload_n 0, 1) := by decide +kernel
theorem dX12_readItems_66 : decode cX12_readItems 66 = .ok (.invokevirtual 132, 3) := by decide +kernel
theorem dX12_readItems_69 : decode cX12_readItems 69 = .ok (.pop, 1) := by decide +kernel
theorem dX12_readItems_70 : decode cX12_readItems 70 = .ok (.return_, 1) := by decide +kernel
theorem dX12_readItems_71 : decode cX12_readItems 71 = .ok (.iload 4, 2) := by decide +kernel
theorem dX12_readItems_73 : decode cX12_readItems 73 = .ok (.iconst 1, 1) := by decide +kernel
theorem dX12_readItems_74 : decode cX12_readItems 74 = .ok (.iload 5, 2) := by decide +kernel
theorem dX12_readItems_76 : decode cX12_readItems 76 = .ok (.ishl, 1) := by decide +kernel
theorem dX12_readItems_77 : decode cX12_readItems 77 = .ok (.ior, 1) := by decide +kernel
theorem dX12_readItems_78 : decode cX12_readItems 78 = .ok (.istore 4, 2) := by decide +kernel
theorem dX12_readItems_80 : decode cX12_readItems 80 = .ok (.aload_n 0, 1) := by decide +kernel
theorem dX12_readItems_81 : decode cX12_readItems 81 = .ok (.dup, 1) := by decide +kernel
theorem dX12_readItems_82 : decode cX12_readItems 82 = .ok (.getfield 117, 3) := by decide +kernel
theorem dX12_readItems_85 : decode cX12_readItems 85 = .ok (.iconst 1, 1) := by decide +kernel
theorem dX12_readItems_86 : decode cX12_readItems 86 = .ok (.iadd, 1) := by decide +kernel
theorem dX12_readItems_87 : decode cX12_readItems 87 = .ok (.putfield 117, 3) := by decide +kernel
theorem dX12_readItems_90 : decode cX12_readItems 90 = .ok (.aload_n 2, 1) := by decide +kernel
theorem dX12_readItems_91 : decode cX12_readItems 91 = .ok (.iload 5, 2) := by decide +kernel
theorem dX12_readItems_93 : decode cX12_readItems 93 = .ok (.aload_n 0, 1) := by decide +kernel
theorem dX12_readItems_94 : decode cX12_readItems 94 = .ok (.iload_n 1, 1) := by decide +kernel
theorem dX12_readItems_95 : decode cX12_readItems 95 = .ok (.iload 5, 2) := by decide +kernel
theorem dX12_readItems_97 : decode cX12_readItems 97 = .ok (.invokestatic 231, 3) := by decide +kernel
theorem dX12_readItems_100 : decode cX12_readItems 100 = .ok (.iload_n 1, 1) := by decide +kernel
theorem dX12_readItems_101 : decode cX12_readItems 101 = .ok (.iload 5, 2) := by decide +kernel
theorem dX12_readItems_103 : decode cX12_readItems 103 = .ok (.invokestatic 234, 3) := by decide +kernel
theorem dX12_readItems_106 : decode cX12_readItems 106 = .ok (.invokevirtual 237, 3) := by decide +kernel
theorem dX12_readItems_109 : decode cX12_readItems 109 = .ok (.iastore, 1) := by decide +kernel
theorem dX12_readItems_110 : decode cX12_readItems 110 = .ok (.aload_n 0, 1) := by decide +kernel
theorem dX12_readItems_111 : decode cX12_readItems 111 = .ok (.getfield 126, 3) := by decide +kernel
theorem dX12_readItems_114 : decode cX12_readItems 114 = .ok (.iconst (-1), 1) := by decide +kernel
theorem dX12_readItems_115 : decode cX12_readItems 115 = .ok (.if_icmp .ne (-74), 3) := by decide +kernel
theorem dX12_readItems_118 : decode cX12_readItems 118 = .ok (.aload_n 3, 1) := by decide +kernel
theorem dX12_readItems_119 : decode cX12_readItems 119 = .ok (.aload_n 0, 1) := by decide +kernel
theorem dX12_readItems_120 : decode cX12_readItems 120 = .ok (.invokevirtual 136, 3) := by decide +kernel
theorem dX12_readItems_123 : decode cX12_readItems 123 = .ok (.invokestatic 223, 3) := by decide +kernel
theorem dX12_readItems_126 : decode cX12_readItems 126 = .ok (.istore 5, 2) := by decide +kernel
theorem dX12_readItems_128 : decode cX12_readItems 128 = .ok (.goto (-87), 3) := by decide +kernel
theorem dX12_readItems_131 : decode cX12_readItems 131 = .ok (.return_, 1) := by decide +kernel
theorem dX12_readMove_0 : decode cX12_readMove 0 = .ok (.ldc_w 273, 3) := by decide +kernel
theorem dX12_readMove_3 : decode cX12_readMove 3 = .ok (.aload_n 0, 1) := by decide +kernel
theorem dX12_readMove_4 : decode cX12_readMove 4 = .ok (.invokevirtual 136, 3) := by decide +kernel
theorem dX12_readMove_7 : decode cX12_readMove 7 = .ok (.invokestatic 223, 3) := by decide +kernel
theorem dX12_readMove_10 : decode cX12_readMove 10 = .ok (.istore_n 2, 1) := by decide +kernel
theorem dX12_readMove_11 : decode cX12_readMove 11 = .ok (.iload_n 2, 1) := by decide +kernel
theorem dX12_readMove_12 : decode cX12_readMove 12 = .ok (.iconst (-1), 1) := by decide +kernel
theorem dX12_readMove_13 : decode cX12_readMove 13 = .ok (.if_icmp .ne 9, 3) := by decide +kernel
theorem dX12_readMove_16 : decode cX12_readMove 16 = .ok (.aload_n 0, 1) := by decide +kernel
theorem dX12_readMove_17 : decode cX12_readMove 17 = .ok (.invokevirtual 132, 3) := by decide +kernel
theorem dX12_readMove_20 : decode cX12_readMove 20 = .ok (.pop, 1) := by decide +kernel
theorem dX12_readMove_21 : decode cX12_readMove 21 = .ok (.return_, 1) := by decide +kernel
theorem dX12_readMove_22 : decode cX12_readMove 22 = .ok (.aload_n 0, 1) := by decide +kernel
theorem dX12_readMove_23 : decode cX12_readMove 23 = .ok (.dup, 1) := by decide +kernel
theorem dX12_readMove_24 : decode cX12_readMove 24 = .ok (.getfield 117, 3) := by decide +kernel
theorem dX12_readMove_27 : decode cX12_readMove 27 = .ok (.iconst 1, 1) := by decide +kernel
theorem dX12_readMove_28 : decode cX12_readMove 28 = .ok (.iadd, 1) := by decide +kernel
theorem dX12_readMove_29 : decode cX12_readMove 29 = .ok (.putfield 117, 3) := by decide +kernel
theorem dX12_readMove_32 : decode cX12_readMove 32 = .ok (.aload_n 0, 1) := by decide +kernel
theorem dX12_readMove_33 : decode cX12_readMove 33 = .ok (.getfield 46, 3) := by decide +kernel
theorem dX12_readMove_36 : decode cX12_readMove 36 = .ok (.iload_n 1, 1) := by decide +kernel
theorem dX12_readMove_37 : decode cX12_readMove 37 = .ok (.iload_n 2, 1) := by decide +kernel
theorem dX12_readMove_38 : decode cX12_readMove 38 = .ok (.iastore, 1) := by decide +kernel
theorem dX12_readMove_39 : decode cX12_readMove 39 = .ok (.aload_n 0, 1) := by decide +kernel
theorem dX12_readMove_40 : decode cX12_readMove 40 = .ok (.getfield 46, 3) := by decide +kernel
theorem dX12_readMove_43 : decode cX12_readMove 43 = .ok (.iload_n 1, 1) := by decide +kernel
theorem dX12_readMove_44 : decode cX12_readMove 44 = .ok (.iconst 1, 1) := by decide +kernel
theorem dX12_readMove_45 : decode cX12_readMove 45 = .ok (.iadd, 1) := by decide +kernel
theorem dX12_readMove_46 : decode cX12_readMove 46 = .ok (.iconst (-1), 1) := by decide +kernel
theorem dX12_readMove_47 : decode cX12_readMove 47 = .ok (.iastore, 1) := by decide +kernel
theorem dX12_readMove_48 : decode cX12_readMove 48 = .ok (.aload_n 0, 1) := by decide +kernel
theorem dX12_readMove_49 : decode cX12_readMove 49 = .ok (.getfield 46, 3) := by decide +kernel
theorem dX12_readMove_52 : decode cX12_readMove 52 = .ok (.iload_n 1, 1) := by decide +kernel
theorem dX12_readMove_53 : decode cX12_readMove 53 = .ok (.iconst 2, 1) := by decide +kernel
theorem dX12_readMove_54 : decode cX12_readMove 54 = .ok (.iadd, 1) := by decide +kernel
theorem dX12_readMove_55 : decode cX12_readMove 55 = .ok (.iconst 0, 1) := by decide +kernel
theorem dX12_readMove_56 : decode cX12_readMove 56 = .ok (.iastore, 1) := by decide +kernel
theorem dX12_readMove_57 : decode cX12_readMove 57 = .ok (.aload_n 0, 1) := by decide +kernel
theorem dX12_readMove_58 : decode cX12_readMove 58 = .ok (.getfield 46, 3) := by decide +kernel
theorem dX12_readMove_61 : decode cX12_readMove 61 = .ok (.iload_n 1, 1) := by decide +kernel
theorem dX12_readMove_62 : decode cX12_readMove 62 = .ok (.iconst 3, 1) := by decide +kernel
theorem dX12_readMove_63 : decode cX12_readMove 63 = .ok (.iadd, 1) := by decide +kernel
theorem dX12_readMove_64 : decode cX12_readMove 64 = .ok (.iconst 0, 1) := by decide +kernel
theorem dX12_readMove_65 : decode cX12_readMove 65 = .ok (.iastore, 1) := by decide +kernel
theorem dX12_readMove_66 : decode cX12_readMove 66 = .ok (.iload_n 2, 1) := by decide +kernel
theorem dX12_readMove_67 : decode cX12_readMove 67 = .ok (.iconst 3, 1) := by decide +kernel
theorem dX12_readMove_68 : decode cX12_readMove 68 = .ok (.if_icmp .ne 4, 3) := by decide +kernel
theorem dX12_readMove_71 : decode cX12_readMove 71 = .ok (.return_, 1) := by decide +kernel
theorem dX12_readMove_72 : decode cX12_readMove 72 = .ok (.iload_n 2, 1) := by decide +kernel
theorem dX12_readMove_73 : decode cX12_readMove 73 = .ok (.ifCond .ne 23, 3) := by decide +kernel
theorem dX12_readMove_76 : decode cX12_readMove 76 = .ok (.aload_n 0, 1) := by decide +kernel
theorem dX12_readMove_77 : decode cX12_readMove 77 = .ok (.invokevirtual 136, 3) := by decide +kernel
theorem dX12_readMove_80 : decode cX12_readMove 80 = .ok (.bipush 63, 2) := by decide +kernel
theorem dX12_readMove_82 : decode cX12_readMove 82 = .ok (.if_icmp .ne 14, 3) := by decide +kernel
theorem dX12_readMove_85 : decode cX12_readMove 85 = .ok (.aload_n 0, 1) := by decide +kernel
theorem dX12_readMove_86 : decode cX12_readMove 86 = .ok (.dup, 1) := by decide +kernel
theorem dX12_readMove_87 : decode cX12_readMove 87 = .ok (.getfield 117, 3) := by decide +kernel
theorem dX12_readMove_90 : decode cX12_readMove 90 = .ok (.iconst 1, 1) := by decide +kernel
theorem dX12_readMove_91 : decode cX12_readMove 91 = .ok (.iadd, 1) := by decide +kernel
theorem dX12_readMove_92 : decode cX12_readMove 92 = .ok (.putfield 117, 3) := by decide +kernel
theorem dX12_readMove_95 : decode cX12_readMove 95 = .ok (.return_, 1) := by decide +kernel
theorem dX12_readMove_96 : decode cX12_readMove 96 = .ok (.aload_n 0, 1) := by decide +kernel
theorem dX12_readMove_97 : decode cX12_readMove 97 = .ok (.getfield 46, 3) := by decide +kernel
theorem dX12_readMove_100 : decode cX12_readMove 100 = .ok (.iload_n 1, 1) := by decide +kernel
theorem dX12_readMove_101 : decode cX12_readMove 101 = .ok (.iconst 1, 1) := by decide +kernel
theorem dX12_readMove_102 : decode cX12_readMove 102 = .ok (.iadd, 1) := by decide +kernel
theorem dX12_readMove_103 : decode cX12_readMove 103 = .ok (.aload_n 0, 1) := by decide +kernel
theorem dX12_readMove_104 : decode cX12_readMove 104 = .ok (.iconst 0, 1) := by decide +kernel
theorem dX12_readMove_105 : decode cX12_readMove 105 = .ok (.bipush 29, 2) := by decide +kernel
theorem dX12_readMove_107 : decode cX12_readMove 107 = .ok (.invokevirtual 237, 3) := by decide +kernel
theorem dX12_readMove_110 : decode cX12_readMove 110 = .ok (.iastore, 1) := by decide +kernel
theorem dX12_readMove_111 : decode cX12_readMove 111 = .ok (.iload_n 2, 1) := by decide +kernel
theorem dX12_readMove_112 : decode cX12_readMove 112 = .ok (.iconst 1, 1) := by decide +kernel
theorem dX12_readMove_113 : decode cX12_readMove 113 = .ok (.if_icmp .ne 11, 3) := by decide +kernel
theorem dX12_readMove_116 : decode cX12_readMove 116 = .ok (.aload_n 0, 1) := by decide +kernel
theorem dX12_readMove_117 : decode cX12_readMove 117 = .ok (.getfield 126, 3) := by decide +kernel
theorem dX12_readMove_120 : decode cX12_readMove 120 = .ok (.iconst (-1), 1) := by decide +kernel
theorem dX12_readMove_121 : decode cX12_readMove 121 = .ok (.if_icmp .eq 4, 3) := by decide +kernel
theorem dX12_readMove_124 : decode cX12_readMove 124 = .ok (.return_, 1) := by decide +kernel
theorem dX12_readMove_125 : decode cX12_readMove 125 = .ok (.ldc_w 275, 3) := by decide +kernel
theorem dX12_readMove_128 : decode cX12_readMove 128 = .ok (.aload_n 0, 1) := by decide +kernel
theorem dX12_readMove_129 : decode cX12_readMove 129 = .ok (.invokevirtual 136, 3) := by decide +kernel
theorem dX12_readMove_132 : decode cX12_readMove 132 = .ok (.invokestatic 223, 3) := by decide +kernel
theorem dX12_readMove_135 : decode cX12_readMove 135 = .ok (.istore_n 3, 1) := by decide +kernel
theorem dX12_readMove_136 : decode cX12_readMove 136 = .ok (.iload_n 3, 1) := by decide +kernel
theorem dX12_readMove_137 : decode cX12_readMove 137 = .ok (.iconst (-1), 1) := by decide +kernel
theorem dX12_readMove_138 : decode cX12_readMove 138 = .ok (.if_icmp .ne 9, 3) := by decide +kernel
theorem dX12_readMove_141 : decode cX12_readMove 141 = .ok (.aload_n 0, 1) := by decide +kernel
theorem dX12_readMove_142 : decode cX12_readMove 142 = .ok (.invokevirtual 132, 3) := by decide +kernel
theorem dX12_readMove_145 : decode cX12_readMove 145 = .ok (.pop, 1) := by decide +kernel
theorem dX12_readMove_146 : decode cX12_readMove 146 = .ok (.return_, 1) := by decide +kernel
theorem dX12_readMove_147 : decode cX12_readMove 147 = .ok (.aload_n 0, 1) := by decide +kernel
theorem dX12_readMove_148 : decode cX12_readMove 148 = .ok (.dup, 1) := by decide +kernel
theorem dX12_readMove_149 : decode cX12_readMove 149 = .ok (.getfield 117, 3) := by decide +kernel
theorem dX12_readMove_152 : decode cX12_readMove 152 = .ok (.iconst 1, 1) := by decide +kernel
theorem dX12_readMove_153 : decode cX12_readMove 153 = .ok (.iadd, 1) := by decide +kernel
theorem dX12_readMove_154 : decode cX12_readMove 154 = .ok (.putfield 117, 3) := by decide +kernel
theorem dX12_readMove_157 : decode cX12_readMove 157 = .ok (.aload_n 0, 1) := by decide +kernel
theorem dX12_readMove_158 : decode cX12_readMove 158 = .ok (.getfield 46, 3) := by decide +kernel
theorem dX12_readMove_161 : decode cX12_readMove 161 = .ok (.iload_n 1, 1) := by decide +kernel
theorem dX12_readMove_162 : decode cX12_readMove 162 = .ok (.iconst 2, 1) := by decide +kernel
theorem dX12_readMove_163 : decode cX12_readMove 163 = .ok (.iadd, 1) := by decide +kernel
theorem dX12_readMove_164 : decode cX12_readMove 164 = .ok (.iload_n 3, 1) := by decide +kernel
theorem dX12_readMove_165 : decode cX12_readMove 165 = .ok (.iastore, 1) := by decide +kernel
theorem dX12_readMove_166 : decode cX12_readMove 166 = .ok (.aload_n 0, 1) := by decide +kernel
theorem dX12_readMove_167 : decode cX12_readMove 167 = .ok (.getfield 46, 3) := by decide +kernel
theorem dX12_readMove_170 : decode cX12_readMove 170 = .ok (.iload_n 1, 1) := by decide +kernel
theorem dX12_readMove_171 : decode cX12_readMove 171 = .ok (.iconst 3, 1) := by decide +kernel
theorem dX12_readMove_172 : decode cX12_readMove 172 = .ok (.iadd, 1) := by decide +kernel
theorem dX12_readMove_173 : decode cX12_readMove 173 = .ok (.aload_n 0, 1) := by decide +kernel
theorem dX12_readMove_174 : decode cX12_readMove 174 = .ok (.invokevirtual 277, 3) := by decide +kernel
theorem dX12_readMove_177 : decode cX12_readMove 177 = .ok (.iastore, 1) := by decide +kernel
theorem dX12_readMove_178 : decode cX12_readMove 178 = .ok (.return_, 1) := by decide +kernel
theorem dX12_starts_0 : decode cX12_starts 0 = .ok (.aload_n 0, 1) := by decide +kernel
theorem dX12_starts_1 : decode cX12_starts 1 = .ok (.aload_n 1, 1) := by decide +kernel
theorem dX12_starts_2 : decode cX12_starts 2 = .ok (.putfield 23, 3) := by decide +kernel
theorem dX12_starts_5 : decode cX12_starts 5 = .ok (.aload_n 0, 1) := by decide +kernel
theorem dX12_starts_6 : decode cX12_starts 6 = .ok (.iload_n 2, 1) := by decide +kernel
theorem dX12_starts_7 : decode cX12_starts 7 = .ok (.putfield 123, 3) := by decide +kernel
theorem dX12_starts_10 : decode cX12_starts 10 = .ok (.aload_n 0, 1) := by decide +kernel
theorem dX12_starts_11 : decode cX12_starts 11 = .ok (.iload_n 3, 1) := by decide +kernel
theorem dX12_starts_12 : decode cX12_starts 12 = .ok (.putfield 120, 3) := by decide +kernel
theorem dX12_starts_15 : decode cX12_starts 15 = .ok (.aload_n 0, 1) := by decide +kernel
theorem dX12_starts_16 : decode cX12_starts 16 = .ok (.iconst 0, 1) := by decide +kernel
theorem dX12_starts_17 : decode cX12_starts 17 = .ok (.putfield 117, 3) := by decide +kernel
theorem dX12_starts_20 : decode cX12_starts 20 = .ok (.aload_n 0, 1) := by decide +kernel
theorem dX12_starts_21 : decode cX12_starts 21 = .ok (.iconst (-1), 1) := by decide +kernel
theorem dX12_starts_22 : decode cX12_starts 22 = .ok (.putfield 126, 3) := by decide +kernel
theorem dX12_starts_25 : decode cX12_starts 25 = .ok (.return_, 1) := by decide +kernel
theorem dX12_threatsIn_0 : decode cX12_threatsIn 0 = .ok (.iconst 0, 1) := by decide +kernel
theorem dX12_threatsIn_1 : decode cX12_threatsIn 1 = .ok (.istore 4, 2) := by decide +kernel
theorem dX12_threatsIn_3 : decode cX12_threatsIn 3 = .ok (.iconst 0, 1) := by decide +kernel
theorem dX12_threatsIn_4 : decode cX12_threatsIn 4 = .ok (.istore 5, 2) := by decide +kernel
theorem dX12_threatsIn_6 : decode cX12_threatsIn 6 = .ok (.iload 5, 2) := by decide +kernel
theorem dX12_threatsIn_8 : decode cX12_threatsIn 8 = .ok (.aload_n 0, 1) := by decide +kernel
theorem dX12_threatsIn_9 : decode cX12_threatsIn 9 = .ok (.getfield 302, 3) := by decide +kernel
theorem dX12_threatsIn_12 : decode cX12_threatsIn 12 = .ok (.if_icmp .ge 59, 3) := by decide +kernel
theorem dX12_threatsIn_15 : decode cX12_threatsIn 15 = .ok (.iload 4, 2) := by decide +kernel
theorem dX12_threatsIn_17 : decode cX12_threatsIn 17 = .ok (.iload_n 1, 1) := by decide +kernel
theorem dX12_threatsIn_18 : decode cX12_threatsIn 18 = .ok (.iload 5, 2) := by decide +kernel
theorem dX12_threatsIn_20 : decode cX12_threatsIn 20 = .ok (.invokestatic 227, 3) := by decide +kernel
theorem dX12_threatsIn_23 : decode cX12_threatsIn 23 = .ok (.ifCond .ne 38, 3) := by decide +kernel
theorem dX12_threatsIn_26 : decode cX12_threatsIn 26 = .ok (.iload_n 1, 1) := by decide +kernel
theorem dX12_threatsIn_27 : decode cX12_threatsIn 27 = .ok (.iconst 1, 1) := by decide +kernel
theorem dX12_threatsIn_28 : decode cX12_threatsIn 28 = .ok (.iload 5, 2) := by decide +kernel
theorem dX12_threatsIn_30 : decode cX12_threatsIn 30 = .ok (.ishl, 1) := by decide +kernel
theorem dX12_threatsIn_31 : decode cX12_threatsIn 31 = .ok (.ior, 1) := by decide +kernel
theorem dX12_threatsIn_32 : decode cX12_threatsIn 32 = .ok (.aload_n 0, 1) := by decide +kernel
theorem dX12_threatsIn_33 : decode cX12_threatsIn 33 = .ok (.getfield 37, 3) := by decide +kernel
theorem dX12_threatsIn_36 : decode cX12_threatsIn 36 = .ok (.invokestatic 269, 3) := by decide +kernel
theorem dX12_threatsIn_39 : decode cX12_threatsIn 39 = .ok (.ifCond .eq 22, 3) := by decide +kernel
theorem dX12_threatsIn_42 : decode cX12_threatsIn 42 = .ok (.aload_n 0, 1) := by decide +kernel
theorem dX12_threatsIn_43 : decode cX12_threatsIn 43 = .ok (.iload_n 1, 1) := by decide +kernel
theorem dX12_threatsIn_44 : decode cX12_threatsIn 44 = .ok (.iload_n 2, 1) := by decide +kernel
theorem dX12_threatsIn_45 : decode cX12_threatsIn 45 = .ok (.iload_n 3, 1) := by decide +kernel
theorem dX12_threatsIn_46 : decode cX12_threatsIn 46 = .ok (.iload 5, 2) := by decide +kernel
theorem dX12_threatsIn_48 : decode cX12_threatsIn 48 = .ok (.invokevirtual 351, 3) := by decide +kernel
theorem dX12_threatsIn_51 : decode cX12_threatsIn 51 = .ok (.ifCond .eq 10, 3) := by decide +kernel
theorem dX12_threatsIn_54 : decode cX12_threatsIn 54 = .ok (.iconst 1, 1) := by decide +kernel
theorem dX12_threatsIn_55 : decode cX12_threatsIn 55 = .ok (.iload 5, 2) := by decide +kernel
theorem dX12_threatsIn_57 : decode cX12_threatsIn 57 = .ok (.ishl, 1) := by decide +kernel
theorem dX12_threatsIn_58 : decode cX12_threatsIn 58 = .ok (.goto 4, 3) := by decide +kernel
theorem dX12_threatsIn_61 : decode cX12_threatsIn 61 = .ok (.iconst 0, 1) := by decide +kernel
theorem dX12_threatsIn_62 : decode cX12_threatsIn 62 = .ok (.ior, 1) := by decide +kernel
theorem dX12_threatsIn_63 : decode cX12_threatsIn 63 = .ok (.istore 4, 2) := by decide +kernel
theorem dX12_threatsIn_65 : decode cX12_threatsIn 65 = .ok (.iinc 5 1, 3) := by decide +kernel
theorem dX12_threatsIn_68 : decode cX12_threatsIn 68 = .ok (.goto (-62), 3) := by decide +kernel
theorem dX12_threatsIn_71 : decode cX12_threatsIn 71 = .ok (.iload 4, 2) := by decide +kernel
theorem dX12_threatsIn_73 : decode cX12_threatsIn 73 = .ok (.ireturn, 1) := by decide +kernel
theorem dX12_worthNow_0 : decode cX12_worthNow 0 = .ok (.aload_n 0, 1) := by decide +kernel
theorem dX12_worthNow_1 : decode cX12_worthNow 1 = .ok (.getfield 20, 3) := by decide +kernel
theorem dX12_worthNow_4 : decode cX12_worthNow 4 = .ok (.bipush 100, 2) := by decide +kernel
theorem dX12_worthNow_6 : decode cX12_worthNow 6 = .ok (.iaload, 1) := by decide +kernel
theorem dX12_worthNow_7 : decode cX12_worthNow 7 = .ok (.i2l, 1) := by decide +kernel
theorem dX12_worthNow_8 : decode cX12_worthNow 8 = .ok (.lstore_n 1, 1) := by decide +kernel
theorem dX12_worthNow_9 : decode cX12_worthNow 9 = .ok (.ldc2_w 341, 3) := by decide +kernel
theorem dX12_worthNow_12 : decode cX12_worthNow 12 = .ok (.lload_n 1, 1) := by decide +kernel
theorem dX12_worthNow_13 : decode cX12_worthNow 13 = .ok (.lmul, 1) := by decide +kernel
theorem dX12_worthNow_14 : decode cX12_worthNow 14 = .ok (.aload_n 0, 1) := by decide +kernel
theorem dX12_worthNow_15 : decode cX12_worthNow 15 = .ok (.getfield 20, 3) := by decide +kernel
theorem dX12_worthNow_18 : decode cX12_worthNow 18 = .ok (.bipush 116, 2) := by decide +kernel
theorem dX12_worthNow_20 : decode cX12_worthNow 20 = .ok (.iaload, 1) := by decide +kernel
theorem dX12_worthNow_21 : decode cX12_worthNow 21 = .ok (.i2l, 1) := by decide +kernel
theorem dX12_worthNow_22 : decode cX12_worthNow 22 = .ok (.ladd, 1) := by decide +kernel
theorem dX12_worthNow_23 : decode cX12_worthNow 23 = .ok (.lstore_n 1, 1) := by decide +kernel
theorem dX12_worthNow_24 : decode cX12_worthNow 24 = .ok (.ldc2_w 343, 3) := by decide +kernel
theorem dX12_worthNow_27 : decode cX12_worthNow 27 = .ok (.lload_n 1, 1) := by decide +kernel
theorem dX12_worthNow_28 : decode cX12_worthNow 28 = .ok (.lmul, 1) := by decide +kernel
theorem dX12_worthNow_29 : decode cX12_worthNow 29 = .ok (.aload_n 0, 1) := by decide +kernel
theorem dX12_worthNow_30 : decode cX12_worthNow 30 = .ok (.getfield 20, 3) := by decide +kernel
theorem dX12_worthNow_33 : decode cX12_worthNow 33 = .ok (.bipush 114, 2) := by decide +kernel
theorem dX12_worthNow_35 : decode cX12_worthNow 35 = .ok (.iaload, 1) := by decide +kernel
theorem dX12_worthNow_36 : decode cX12_worthNow 36 = .ok (.i2l, 1) := by decide +kernel
theorem dX12_worthNow_37 : decode cX12_worthNow 37 = .ok (.ladd, 1) := by decide +kernel
theorem dX12_worthNow_38 : decode cX12_worthNow 38 = .ok (.lstore_n 1, 1) := by decide +kernel
theorem dX12_worthNow_39 : decode cX12_worthNow 39 = .ok (.ldc2_w 345, 3) := by decide +kernel
theorem dX12_worthNow_42 : decode cX12_worthNow 42 = .ok (.lload_n 1, 1) := by decide +kernel
theorem dX12_worthNow_43 : decode cX12_worthNow 43 = .ok (.lmul, 1) := by decide +kernel
theorem dX12_worthNow_44 : decode cX12_worthNow 44 = .ok (.aload_n 0, 1) := by decide +kernel
theorem dX12_worthNow_45 : decode cX12_worthNow 45 = .ok (.getfield 20, 3) := by decide +kernel
theorem dX12_worthNow_48 : decode cX12_worthNow 48 = .ok (.bipush 99, 2) := by decide +kernel
theorem dX12_worthNow_50 : decode cX12_worthNow 50 = .ok (.iaload, 1) := by decide +kernel
theorem dX12_worthNow_51 : decode cX12_worthNow 51 = .ok (.i2l, 1) := by decide +kernel
theorem dX12_worthNow_52 : decode cX12_worthNow 52 = .ok (.ladd, 1) := by decide +kernel
theorem dX12_worthNow_53 : decode cX12_worthNow 53 = .ok (.lstore_n 1, 1) := by decide +kernel
theorem dX12_worthNow_54 : decode cX12_worthNow 54 = .ok (.ldc2_w 341, 3) := by decide +kernel
theorem dX12_worthNow_57 : decode cX12_worthNow 57 = .ok (.lload_n 1, 1) := by decide +kernel
theorem dX12_worthNow_58 : decode cX12_worthNow 58 = .ok (.lmul, 1) := by decide +kernel
theorem dX12_worthNow_59 : decode cX12_worthNow 59 = .ok (.aload_n 0, 1) := by decide +kernel
theorem dX12_worthNow_60 : decode cX12_worthNow 60 = .ok (.getfield 20, 3) := by decide +kernel
theorem dX12_worthNow_63 : decode cX12_worthNow 63 = .ok (.bipush 98, 2) := by decide +kernel
theorem dX12_worthNow_65 : decode cX12_worthNow 65 = .ok (.iaload, 1) := by decide +kernel
theorem dX12_worthNow_66 : decode cX12_worthNow 66 = .ok (.i2l, 1) := by decide +kernel
theorem dX12_worthNow_67 : decode cX12_worthNow 67 = .ok (.ladd, 1) := by decide +kernel
theorem dX12_worthNow_68 : decode cX12_worthNow 68 = .ok (.lstore_n 1, 1) := by decide +kernel
theorem dX12_worthNow_69 : decode cX12_worthNow 69 = .ok (.ldc2_w 347, 3) := by decide +kernel
theorem dX12_worthNow_72 : decode cX12_worthNow 72 = .ok (.lload_n 1, 1) := by decide +kernel
theorem dX12_worthNow_73 : decode cX12_worthNow 73 = .ok (.lmul, 1) := by decide +kernel
theorem dX12_worthNow_74 : decode cX12_worthNow 74 = .ok (.aload_n 0, 1) := by decide +kernel
theorem dX12_worthNow_75 : decode cX12_worthNow 75 = .ok (.getfield 20, 3) := by decide +kernel
theorem dX12_worthNow_78 : decode cX12_worthNow 78 = .ok (.bipush 111, 2) := by decide +kernel
theorem dX12_worthNow_80 : decode cX12_worthNow 80 = .ok (.iaload, 1) := by decide +kernel
theorem dX12_worthNow_81 : decode cX12_worthNow 81 = .ok (.i2l, 1) := by decide +kernel
theorem dX12_worthNow_82 : decode cX12_worthNow 82 = .ok (.ladd, 1) := by decide +kernel
theorem dX12_worthNow_83 : decode cX12_worthNow 83 = .ok (.lstore_n 1, 1) := by decide +kernel
theorem dX12_worthNow_84 : decode cX12_worthNow 84 = .ok (.ldc2_w 343, 3) := by decide +kernel
theorem dX12_worthNow_87 : decode cX12_worthNow 87 = .ok (.lload_n 1, 1) := by decide +kernel
theorem dX12_worthNow_88 : decode cX12_worthNow 88 = .ok (.lmul, 1) := by decide +kernel
theorem dX12_worthNow_89 : decode cX12_worthNow 89 = .ok (.aload_n 0, 1) := by decide +kernel
theorem dX12_worthNow_90 : decode cX12_worthNow 90 = .ok (.getfield 58, 3) := by decide +kernel
theorem dX12_worthNow_93 : decode cX12_worthNow 93 = .ok (.i2l, 1) := by decide +kernel
theorem dX12_worthNow_94 : decode cX12_worthNow 94 = .ok (.ladd, 1) := by decide +kernel
theorem dX12_worthNow_95 : decode cX12_worthNow 95 = .ok (.lconst 1, 1) := by decide +kernel
theorem dX12_worthNow_96 : decode cX12_worthNow 96 = .ok (.ladd, 1) := by decide +kernel
theorem dX12_worthNow_97 : decode cX12_worthNow 97 = .ok (.lstore_n 1, 1) := by decide +kernel
theorem dX12_worthNow_98 : decode cX12_worthNow 98 = .ok (.lload_n 1, 1) := by decide +kernel
theorem dX12_worthNow_99 : decode cX12_worthNow 99 = .ok (.ldc2_w 349, 3) := by decide +kernel
theorem dX12_worthNow_102 : decode cX12_worthNow 102 = .ok (.lrem, 1) := by decide +kernel
theorem dX12_worthNow_103 : decode cX12_worthNow 103 = .ok (.l2i, 1) := by decide +kernel
theorem dX12_worthNow_104 : decode cX12_worthNow 104 = .ok (.istore_n 3, 1) := by decide +kernel
theorem dX12_worthNow_105 : decode cX12_worthNow 105 = .ok (.aload_n 0, 1) := by decide +kernel
theorem dX12_worthNow_106 : decode cX12_worthNow 106 = .ok (.getfield 62, 3) := by decide +kernel
theorem dX12_worthNow_109 : decode cX12_worthNow 109 = .ok (.iload_n 3, 1) := by decide +kernel
theorem dX12_worthNow_110 : decode cX12_worthNow 110 = .ok (.laload, 1) := by decide +kernel
theorem dX12_worthNow_111 : decode cX12_worthNow 111 = .ok (.lload_n 1, 1) := by decide +kernel
theorem dX12_worthNow_112 : decode cX12_worthNow 112 = .ok (.lcmp, 1) := by decide +kernel
theorem dX12_worthNow_113 : decode cX12_worthNow 113 = .ok (.ifCond .ne 10, 3) := by decide +kernel
theorem dX12_worthNow_116 : decode cX12_worthNow 116 = .ok (.aload_n 0, 1) := by decide +kernel
theorem dX12_worthNow_117 : decode cX12_worthNow 117 = .ok (.getfield 66, 3) := by decide +kernel
theorem dX12_worthNow_120 : decode cX12_worthNow 120 = .ok (.iload_n 3, 1) := by decide +kernel
theorem dX12_worthNow_121 : decode cX12_worthNow 121 = .ok (.iaload, 1) := by decide +kernel
theorem dX12_worthNow_122 : decode cX12_worthNow 122 = .ok (.ireturn, 1) := by decide +kernel
theorem dX12_worthNow_123 : decode cX12_worthNow 123 = .ok (.aload_n 0, 1) := by decide +kernel
theorem dX12_worthNow_124 : decode cX12_worthNow 124 = .ok (.aload_n 0, 1) := by decide +kernel
theorem dX12_worthNow_125 : decode cX12_worthNow 125 = .ok (.getfield 13, 3) := by decide +kernel
theorem dX12_worthNow_128 : decode cX12_worthNow 128 = .ok (.sipush 240, 3) := by decide +kernel
theorem dX12_worthNow_131 : decode cX12_worthNow 131 = .ok (.aload_n 0, 1) := by decide +kernel
theorem dX12_worthNow_132 : decode cX12_worthNow 132 = .ok (.getfield 58, 3) := by decide +kernel
theorem dX12_worthNow_135 : decode cX12_worthNow 135 = .ok (.imul, 1) := by decide +kernel
theorem dX12_worthNow_136 : decode cX12_worthNow 136 = .ok (.aload_n 0, 1) := by decide +kernel
theorem dX12_worthNow_137 : decode cX12_worthNow 137 = .ok (.getfield 16, 3) := by decide +kernel
theorem dX12_worthNow_140 : decode cX12_worthNow 140 = .ok (.aload_n 0, 1) := by decide +kernel
theorem dX12_worthNow_141 : decode cX12_worthNow 141 = .ok (.getfield 58, 3) := by decide +kernel
theorem dX12_worthNow_144 : decode cX12_worthNow 144 = .ok (.iaload, 1) := by decide +kernel
theorem dX12_worthNow_145 : decode cX12_worthNow 145 = .ok (.invokevirtual 288, 3) := by decide +kernel
theorem dX12_worthNow_148 : decode cX12_worthNow 148 = .ok (.aload_n 0, 1) := by decide +kernel
theorem dX12_worthNow_149 : decode cX12_worthNow 149 = .ok (.getfield 62, 3) := by decide +kernel
theorem dX12_worthNow_152 : decode cX12_worthNow 152 = .ok (.iload_n 3, 1) := by decide +kernel
theorem dX12_worthNow_153 : decode cX12_worthNow 153 = .ok (.lload_n 1, 1) := by decide +kernel
theorem dX12_worthNow_154 : decode cX12_worthNow 154 = .ok (.lastore, 1) := by decide +kernel
theorem dX12_worthNow_155 : decode cX12_worthNow 155 = .ok (.aload_n 0, 1) := by decide +kernel
theorem dX12_worthNow_156 : decode cX12_worthNow 156 = .ok (.getfield 66, 3) := by decide +kernel
theorem dX12_worthNow_159 : decode cX12_worthNow 159 = .ok (.iload_n 3, 1) := by decide +kernel
theorem dX12_worthNow_160 : decode cX12_worthNow 160 = .ok (.aload_n 0, 1) := by decide +kernel
theorem dX12_worthNow_161 : decode cX12_worthNow 161 = .ok (.getfield 202, 3) := by decide +kernel
theorem dX12_worthNow_164 : decode cX12_worthNow 164 = .ok (.iastore, 1) := by decide +kernel
theorem dX12_worthNow_165 : decode cX12_worthNow 165 = .ok (.aload_n 0, 1) := by decide +kernel
theorem dX12_worthNow_166 : decode cX12_worthNow 166 = .ok (.getfield 202, 3) := by decide +kernel
theorem dX12_worthNow_169 : decode cX12_worthNow 169 = .ok (.ireturn, 1) := by decide +kernel
theorem dX12_writes_0 : decode cX12_writes 0 = .ok (.aload_n 0, 1) := by decide +kernel
theorem dX12_writes_1 : decode cX12_writes 1 = .ok (.bipush 8, 2) := by decide +kernel
theorem dX12_writes_3 : decode cX12_writes 3 = .ok (.iaload, 1) := by decide +kernel
theorem dX12_writes_4 : decode cX12_writes 4 = .ok (.bipush 60, 2) := by decide +kernel
theorem dX12_writes_6 : decode cX12_writes 6 = .ok (.if_icmp .ne 44, 3) := by decide +kernel
theorem dX12_writes_9 : decode cX12_writes 9 = .ok (.iconst 1, 1) := by decide +kernel
theorem dX12_writes_10 : decode cX12_writes 10 = .ok (.istore 5, 2) := by decide +kernel
theorem dX12_writes_12 : decode cX12_writes 12 = .ok (.iload 5, 2) := by decide +kernel
theorem dX12_writes_14 : decode cX12_writes 14 = .ok (.sipush 236, 3) := by decide +kernel
theorem dX12_writes_17 : decode cX12_writes 17 = .ok (.if_icmp .gt 25, 3) := by decide +kernel
theorem dX12_writes_20 : decode cX12_writes 20 = .ok (.aload_n 0, 1) := by decide +kernel
theorem dX12_writes_21 : decode cX12_writes 21 = .ok (.bipush 8, 2) := by decide +kernel
theorem dX12_writes_23 : decode cX12_writes 23 = .ok (.iload 5, 2) := by decide +kernel
theorem dX12_writes_25 : decode cX12_writes 25 = .ok (.iadd, 1) := by decide +kernel
theorem dX12_writes_26 : decode cX12_writes 26 = .ok (.aload_n 0, 1) := by decide +kernel
theorem dX12_writes_27 : decode cX12_writes 27 = .ok (.bipush 8, 2) := by decide +kernel
theorem dX12_writes_29 : decode cX12_writes 29 = .ok (.iload 5, 2) := by decide +kernel
theorem dX12_writes_31 : decode cX12_writes 31 = .ok (.iadd, 1) := by decide +kernel
theorem dX12_writes_32 : decode cX12_writes 32 = .ok (.iconst 4, 1) := by decide +kernel
theorem dX12_writes_33 : decode cX12_writes 33 = .ok (.iadd, 1) := by decide +kernel
theorem dX12_writes_34 : decode cX12_writes 34 = .ok (.iaload, 1) := by decide +kernel
theorem dX12_writes_35 : decode cX12_writes 35 = .ok (.iastore, 1) := by decide +kernel
theorem dX12_writes_36 : decode cX12_writes 36 = .ok (.iinc 5 1, 3) := by decide +kernel
theorem dX12_writes_39 : decode cX12_writes 39 = .ok (.goto (-27), 3) := by decide +kernel
theorem dX12_writes_42 : decode cX12_writes 42 = .ok (.aload_n 0, 1) := by decide +kernel
theorem dX12_writes_43 : decode cX12_writes 43 = .ok (.bipush 8, 2) := by decide +kernel
theorem dX12_writes_45 : decode cX12_writes 45 = .ok (.dup2, 1) := by decide +kernel
theorem dX12_writes_46 : decode cX12_writes 46 = .ok (.iaload, 1) := by decide +kernel
theorem dX12_writes_47 : decode cX12_writes 47 = .ok (.iconst 1, 1) := by decide +kernel
theorem dX12_writes_48 : decode cX12_writes 48 = .ok (.isub, 1) := by decide +kernel
theorem dX12_writes_49 : decode cX12_writes 49 = .ok (.iastore, 1) := by decide +kernel
theorem dX12_writes_50 : decode cX12_writes 50 = .ok (.bipush 9, 2) := by decide +kernel
theorem dX12_writes_52 : decode cX12_writes 52 = .ok (.iconst 4, 1) := by decide +kernel
theorem dX12_writes_53 : decode cX12_writes 53 = .ok (.aload_n 0, 1) := by decide +kernel
theorem dX12_writes_54 : decode cX12_writes 54 = .ok (.bipush 8, 2) := by decide +kernel
theorem dX12_writes_56 : decode cX12_writes 56 = .ok (.iaload, 1) := by decide +kernel
theorem dX12_writes_57 : decode cX12_writes 57 = .ok (.imul, 1) := by decide +kernel
theorem dX12_writes_58 : decode cX12_writes 58 = .ok (.iadd, 1) := by decide +kernel
theorem dX12_writes_59 : decode cX12_writes 59 = .ok (.istore 5, 2) := by decide +kernel
theorem dX12_writes_61 : decode cX12_writes 61 = .ok (.aload_n 0, 1) := by decide +kernel
theorem dX12_writes_62 : decode cX12_writes 62 = .ok (.iload 5, 2) := by decide +kernel
theorem dX12_writes_64 : decode cX12_writes 64 = .ok (.iload_n 1, 1) := by decide +kernel
theorem dX12_writes_65 : decode cX12_writes 65 = .ok (.iastore, 1) := by decide +kernel
theorem dX12_writes_66 : decode cX12_writes 66 = .ok (.aload_n 0, 1) := by decide +kernel
theorem dX12_writes_67 : decode cX12_writes 67 = .ok (.iload 5, 2) := by decide +kernel
theorem dX12_writes_69 : decode cX12_writes 69 = .ok (.iconst 1, 1) := by decide +kernel
theorem dX12_writes_70 : decode cX12_writes 70 = .ok (.iadd, 1) := by decide +kernel
theorem dX12_writes_71 : decode cX12_writes 71 = .ok (.iload_n 2, 1) := by decide +kernel
theorem dX12_writes_72 : decode cX12_writes 72 = .ok (.iastore, 1) := by decide +kernel
theorem dX12_writes_73 : decode cX12_writes 73 = .ok (.aload_n 0, 1) := by decide +kernel
theorem dX12_writes_74 : decode cX12_writes 74 = .ok (.iload 5, 2) := by decide +kernel
theorem dX12_writes_76 : decode cX12_writes 76 = .ok (.iconst 2, 1) := by decide +kernel
theorem dX12_writes_77 : decode cX12_writes 77 = .ok (.iadd, 1) := by decide +kernel
theorem dX12_writes_78 : decode cX12_writes 78 = .ok (.iload_n 3, 1) := by decide +kernel
theorem dX12_writes_79 : decode cX12_writes 79 = .ok (.iastore, 1) := by decide +kernel
theorem dX12_writes_80 : decode cX12_writes 80 = .ok (.aload_n 0, 1) := by decide +kernel
theorem dX12_writes_81 : decode cX12_writes 81 = .ok (.iload 5, 2) := by decide +kernel
theorem dX12_writes_83 : decode cX12_writes 83 = .ok (.iconst 3, 1) := by decide +kernel
theorem dX12_writes_84 : decode cX12_writes 84 = .ok (.iadd, 1) := by decide +kernel
theorem dX12_writes_85 : decode cX12_writes 85 = .ok (.iload 4, 2) := by decide +kernel
theorem dX12_writes_87 : decode cX12_writes 87 = .ok (.iastore, 1) := by decide +kernel
theorem dX12_writes_88 : decode cX12_writes 88 = .ok (.aload_n 0, 1) := by decide +kernel
theorem dX12_writes_89 : decode cX12_writes 89 = .ok (.bipush 8, 2) := by decide +kernel
theorem dX12_writes_91 : decode cX12_writes 91 = .ok (.dup2, 1) := by decide +kernel
theorem dX12_writes_92 : decode cX12_writes 92 = .ok (.iaload, 1) := by decide +kernel
theorem dX12_writes_93 : decode cX12_writes 93 = .ok (.iconst 1, 1) := by decide +kernel
theorem dX12_writes_94 : decode cX12_writes 94 = .ok (.iadd, 1) := by decide +kernel
theorem dX12_writes_95 : decode cX12_writes 95 = .ok (.iastore, 1) := by decide +kernel
theorem dX12_writes_96 : decode cX12_writes 96 = .ok (.return_, 1) := by decide +kernel
theorem wl_7_151 : (.methodLink RX12 223 yX12_spotOf : Cond) ∈ sg_tbl := tb_7 _ (List.mem_of_getElem? (i := 151) (by decide +kernel)) (by decide +kernel)
theorem wl_7_177 : (.methodLink RX12 231 yX12_leastOf : Cond) ∈ sg_tbl := tb_7 _ (List.mem_of_getElem? (i := 177) (by decide +kernel)) (by decide +kernel)
theorem wl_7_180 : (.methodLink RX12 234 yX12_mostOf : Cond) ∈ sg_tbl := tb_7 _ (List.mem_of_getElem? (i := 180) (by decide +kernel)) (by decide +kernel)
theorem wl_7_183 : (.methodLink RX12 237 yX12_number : Cond) ∈ sg_tbl := tb_7 _ (List.mem_of_getElem? (i := 183) (by decide +kernel)) (by decide +kernel)
theorem wl_7_130 : (.methodLink RX12 219 yX12_usual : Cond) ∈ sg_tbl := tb_7 _ (List.mem_of_getElem? (i := 130) (by decide +kernel)) (by decide +kernel)
theorem wl_8_37 : (.methodLink RX12 277 yX12_digit : Cond) ∈ sg_tbl := tb_8 _ (List.mem_of_getElem? (i := 37) (by decide +kernel)) (by decide +kernel)
theorem wl_7_126 : (.methodLink RX12 205 yX12_starts : Cond) ∈ sg_tbl := tb_7 _ (List.mem_of_getElem? (i := 126) (by decide +kernel)) (by decide +kernel)
theorem wl_7_210 : (.methodLink RX12 209 yX12_clause : Cond) ∈ sg_tbl := tb_7 _ (List.mem_of_getElem? (i := 210) (by decide +kernel)) (by decide +kernel)
theorem wl_6_179 : (.fieldLink RX12 9 "LawnAheadModel" "tape" "[B" : Cond) ∈ sg_tbl := tb_6 _ (List.mem_of_getElem? (i := 179) (by decide +kernel)) (by decide +kernel)
theorem wl_8_31 : (.methodLink RX12 280 yX12_readMove : Cond) ∈ sg_tbl := tb_8 _ (List.mem_of_getElem? (i := 31) (by decide +kernel)) (by decide +kernel)
theorem wl_8_73 : (.constantLong RX12 341 (10) : Cond) ∈ sg_tbl := tb_8 _ (List.mem_of_getElem? (i := 73) (by decide +kernel)) (by decide +kernel)
theorem wl_8_74 : (.constantLong RX12 345 (6) : Cond) ∈ sg_tbl := tb_8 _ (List.mem_of_getElem? (i := 74) (by decide +kernel)) (by decide +kernel)
theorem wl_8_75 : (.constantLong RX12 347 (31) : Cond) ∈ sg_tbl := tb_8 _ (List.mem_of_getElem? (i := 75) (by decide +kernel)) (by decide +kernel)
theorem wl_8_76 : (.constantLong RX12 349 (8191) : Cond) ∈ sg_tbl := tb_8 _ (List.mem_of_getElem? (i := 76) (by decide +kernel)) (by decide +kernel)
theorem wl_6_214 : (.fieldLink RX12 62 "LawnAheadModel" "memoKey" "[J" : Cond) ∈ sg_tbl := tb_6 _ (List.mem_of_getElem? (i := 214) (by decide +kernel)) (by decide +kernel)
theorem wl_6_180 : (.fieldLink RX12 13 "LawnAheadModel" "texts" "[B" : Cond) ∈ sg_tbl := tb_6 _ (List.mem_of_getElem? (i := 180) (by decide +kernel)) (by decide +kernel)
theorem wl_6_181 : (.fieldLink RX12 16 "LawnAheadModel" "textLong" "[I" : Cond) ∈ sg_tbl := tb_6 _ (List.mem_of_getElem? (i := 181) (by decide +kernel)) (by decide +kernel)
theorem wl_7_206 : (.methodLink RX12 288 yX12_goThrough : Cond) ∈ sg_tbl := tb_7 _ (List.mem_of_getElem? (i := 206) (by decide +kernel)) (by decide +kernel)
theorem wl_6_215 : (.fieldLink RX12 66 "LawnAheadModel" "memoWorth" "[I" : Cond) ∈ sg_tbl := tb_6 _ (List.mem_of_getElem? (i := 215) (by decide +kernel)) (by decide +kernel)
theorem wl_8_69 : (.methodLink RX12 338 yX12_worthNow : Cond) ∈ sg_tbl := tb_8 _ (List.mem_of_getElem? (i := 69) (by decide +kernel)) (by decide +kernel)
theorem wl_8_64 : (.methodLink RX12 351 yX12_mayGrow : Cond) ∈ sg_tbl := tb_8 _ (List.mem_of_getElem? (i := 64) (by decide +kernel)) (by decide +kernel)
theorem wl_7_196 : (.methodLink RX12 269 yX12_hasLine : Cond) ∈ sg_tbl := tb_7 _ (List.mem_of_getElem? (i := 196) (by decide +kernel)) (by decide +kernel)
theorem wl_8_40 : (.code yX12_digit cX12_digit 2 (some .int) : Cond) ∈ sg_tbl := tb_8 _ (List.mem_of_getElem? (i := 40) (by decide +kernel)) (by decide +kernel)
theorem wl_8_39 : (.instanceMethod yX12_digit : Cond) ∈ sg_tbl := tb_8 _ (List.mem_of_getElem? (i := 39) (by decide +kernel)) (by decide +kernel)
theorem wl_0_71 : (.selects RX12 yX12_digit yX12_digit : Cond) ∈ sg_tbl := tb_0 _ (List.mem_of_getElem? (i := 71) (by decide +kernel)) (by decide +kernel)
theorem wl_7_149 : (.code yX12_readItems cX12_readItems 6 none : Cond) ∈ sg_tbl := tb_7 _ (List.mem_of_getElem? (i := 149) (by decide +kernel)) (by decide +kernel)
theorem wl_7_148 : (.instanceMethod yX12_readItems : Cond) ∈ sg_tbl := tb_7 _ (List.mem_of_getElem? (i := 148) (by decide +kernel)) (by decide +kernel)
theorem wl_0_54 : (.selects RX12 yX12_readItems yX12_readItems : Cond) ∈ sg_tbl := tb_0 _ (List.mem_of_getElem? (i := 54) (by decide +kernel)) (by decide +kernel)
theorem wl_8_34 : (.code yX12_readMove cX12_readMove 4 none : Cond) ∈ sg_tbl := tb_8 _ (List.mem_of_getElem? (i := 34) (by decide +kernel)) (by decide +kernel)
theorem wl_8_33 : (.instanceMethod yX12_readMove : Cond) ∈ sg_tbl := tb_8 _ (List.mem_of_getElem? (i := 33) (by decide +kernel)) (by decide +kernel)
theorem wl_0_70 : (.selects RX12 yX12_readMove yX12_readMove : Cond) ∈ sg_tbl := tb_0 _ (List.mem_of_getElem? (i := 70) (by decide +kernel)) (by decide +kernel)
theorem wl_7_129 : (.code yX12_starts cX12_starts 4 none : Cond) ∈ sg_tbl := tb_7 _ (List.mem_of_getElem? (i := 129) (by decide +kernel)) (by decide +kernel)
theorem wl_7_128 : (.instanceMethod yX12_starts : Cond) ∈ sg_tbl := tb_7 _ (List.mem_of_getElem? (i := 128) (by decide +kernel)) (by decide +kernel)
theorem wl_0_50 : (.selects RX12 yX12_starts yX12_starts : Cond) ∈ sg_tbl := tb_0 _ (List.mem_of_getElem? (i := 50) (by decide +kernel)) (by decide +kernel)
theorem wl_7_209 : (.code yX12_goThrough cX12_goThrough 4 none : Cond) ∈ sg_tbl := tb_7 _ (List.mem_of_getElem? (i := 209) (by decide +kernel)) (by decide +kernel)
theorem wl_7_208 : (.instanceMethod yX12_goThrough : Cond) ∈ sg_tbl := tb_7 _ (List.mem_of_getElem? (i := 208) (by decide +kernel)) (by decide +kernel)
theorem wl_0_58 : (.selects RX12 yX12_goThrough yX12_goThrough : Cond) ∈ sg_tbl := tb_0 _ (List.mem_of_getElem? (i := 58) (by decide +kernel)) (by decide +kernel)
theorem wl_8_30 : (.code yX12_readGame cX12_readGame 3 none : Cond) ∈ sg_tbl := tb_8 _ (List.mem_of_getElem? (i := 30) (by decide +kernel)) (by decide +kernel)
theorem wl_8_29 : (.instanceMethod yX12_readGame : Cond) ∈ sg_tbl := tb_8 _ (List.mem_of_getElem? (i := 29) (by decide +kernel)) (by decide +kernel)
theorem wl_0_69 : (.selects RX12 yX12_readGame yX12_readGame : Cond) ∈ sg_tbl := tb_0 _ (List.mem_of_getElem? (i := 69) (by decide +kernel)) (by decide +kernel)
theorem wl_8_112 : (.code yX12_writes cX12_writes 6 none : Cond) ∈ sg_tbl := tb_8 _ (List.mem_of_getElem? (i := 112) (by decide +kernel)) (by decide +kernel)
theorem wl_8_111 : (.static yX12_writes : Cond) ∈ sg_tbl := tb_8 _ (List.mem_of_getElem? (i := 111) (by decide +kernel)) (by decide +kernel)
theorem wl_8_72 : (.code yX12_worthNow cX12_worthNow 4 (some .int) : Cond) ∈ sg_tbl := tb_8 _ (List.mem_of_getElem? (i := 72) (by decide +kernel)) (by decide +kernel)
theorem wl_8_71 : (.instanceMethod yX12_worthNow : Cond) ∈ sg_tbl := tb_8 _ (List.mem_of_getElem? (i := 71) (by decide +kernel)) (by decide +kernel)
theorem wl_0_75 : (.selects RX12 yX12_worthNow yX12_worthNow : Cond) ∈ sg_tbl := tb_0 _ (List.mem_of_getElem? (i := 75) (by decide +kernel)) (by decide +kernel)
theorem wl_8_67 : (.code yX12_mayGrow cX12_mayGrow 6 (some .boolean) : Cond) ∈ sg_tbl := tb_8 _ (List.mem_of_getElem? (i := 67) (by decide +kernel)) (by decide +kernel)
theorem wl_8_66 : (.instanceMethod yX12_mayGrow : Cond) ∈ sg_tbl := tb_8 _ (List.mem_of_getElem? (i := 66) (by decide +kernel)) (by decide +kernel)
theorem wl_0_74 : (.selects RX12 yX12_mayGrow yX12_mayGrow : Cond) ∈ sg_tbl := tb_0 _ (List.mem_of_getElem? (i := 74) (by decide +kernel)) (by decide +kernel)
theorem wl_8_165 : (.code yX12_freeIn cX12_freeIn 6 (some .int) : Cond) ∈ sg_tbl := tb_8 _ (List.mem_of_getElem? (i := 165) (by decide +kernel)) (by decide +kernel)
theorem wl_8_164 : (.instanceMethod yX12_freeIn : Cond) ∈ sg_tbl := tb_8 _ (List.mem_of_getElem? (i := 164) (by decide +kernel)) (by decide +kernel)
theorem wl_0_87 : (.selects RX12 yX12_freeIn yX12_freeIn : Cond) ∈ sg_tbl := tb_0 _ (List.mem_of_getElem? (i := 87) (by decide +kernel)) (by decide +kernel)
theorem wl_8_109 : (.code yX12_threatsIn cX12_threatsIn 6 (some .int) : Cond) ∈ sg_tbl := tb_8 _ (List.mem_of_getElem? (i := 109) (by decide +kernel)) (by decide +kernel)
theorem wl_8_108 : (.instanceMethod yX12_threatsIn : Cond) ∈ sg_tbl := tb_8 _ (List.mem_of_getElem? (i := 108) (by decide +kernel)) (by decide +kernel)
theorem wl_0_80 : (.selects RX12 yX12_threatsIn yX12_threatsIn : Cond) ∈ sg_tbl := tb_0 _ (List.mem_of_getElem? (i := 80) (by decide +kernel)) (by decide +kernel)
section
variable {p : Program} {l : Launch} {e : Env} {R : Room} {s : State} {m : MethodId} {args : Array Value} {below : List Frame} {meth : Method} {c : Code} {H : Heap} {locs : List Loc} {cells slots : Nat} {Q : State → Prop} {cc : ByteArray} {nL pc : Nat} {ls : Array Slot} {rest : List Value} {own : String} {D : va_G} {A : Nat → Prop} {tys : List (ClassId × FieldType)} {ad ks : List Nat} {P : sgPm} {H0 : Heap} {index : Nat} {base : Nat} {st0 : List Value} {a : Nat}
theorem gf_X12_1   (X : CallFix p m c cc nL s args sg_tbl own) (hK : va_K D vwCl tys s) (hG : sgG (KT P) D vwCl A tys ad ks H) (ha : isK ad ks 12 a) (hl : Cond.fieldLink own index "LawnAheadModel" "tape" "[B" ∈ sg_tbl) (hdg : decode cc pc = .ok (.getfield index, 3)) (kk : ∀ x : Nat, isK ad ks 45 x → fld D H 12 a 1 (.ref x) → W p l e R s m args below meth c H locs cells slots Q (F0 m (pc + 3) ls (.ref x :: rest))) : W p l e R s m args below meth c H locs cells slots Q (F0 m pc ls (.ref a :: rest)) :=
  sg_get X hK hG ha (k := 12) (ci := 12) rfl (C := RX12) (T := TX12) (N := 53) rfl inL_X12 1 (by decide) rfl hl (fun _ h => h) hdg (fun v hv hf => by
    obtain ⟨h1, -⟩ | ⟨x, rfl, hx⟩ := hv
    · cases h1
    · exact kk x hx hf)
theorem gf_X12_14   (X : CallFix p m c cc nL s args sg_tbl own) (hK : va_K D vwCl tys s) (hG : sgG (KT P) D vwCl A tys ad ks H) (ha : isK ad ks 12 a) (hl : Cond.fieldLink own index "LawnAheadModel" "found" "I" ∈ sg_tbl) (hdg : decode cc pc = .ok (.getfield index, 3)) (kk : ∀ x : Int32, iv (-2147483648) 2147483647 x → fld D H 12 a 14 (.int x) → W p l e R s m args below meth c H locs cells slots Q (F0 m (pc + 3) ls (.int x :: rest))) : W p l e R s m args below meth c H locs cells slots Q (F0 m pc ls (.ref a :: rest)) :=
  sg_get X hK hG ha (k := 12) (ci := 12) rfl (C := RX12) (T := TX12) (N := 53) rfl inL_X12 14 (by decide) rfl hl (fun _ h => h) hdg (fun v hv hf => by obtain ⟨x, rfl, hx⟩ := hv; exact kk x hx hf)
theorem gf_X12_2   (X : CallFix p m c cc nL s args sg_tbl own) (hK : va_K D vwCl tys s) (hG : sgG (KT P) D vwCl A tys ad ks H) (ha : isK ad ks 12 a) (hl : Cond.fieldLink own index "LawnAheadModel" "texts" "[B" ∈ sg_tbl) (hdg : decode cc pc = .ok (.getfield index, 3)) (kk : ∀ x : Nat, isK ad ks 46 x → fld D H 12 a 2 (.ref x) → W p l e R s m args below meth c H locs cells slots Q (F0 m (pc + 3) ls (.ref x :: rest))) : W p l e R s m args below meth c H locs cells slots Q (F0 m pc ls (.ref a :: rest)) :=
  sg_get X hK hG ha (k := 12) (ci := 12) rfl (C := RX12) (T := TX12) (N := 53) rfl inL_X12 2 (by decide) rfl hl (fun _ h => h) hdg (fun v hv hf => by
    obtain ⟨h1, -⟩ | ⟨x, rfl, hx⟩ := hv
    · cases h1
    · exact kk x hx hf)
theorem gf_X12_21r  {b : Bool} {d lo hi mr f : Int} (X : CallFix p m c cc nL s args sg_tbl own) (hK : va_K D vwCl tys s) (hG : sgG (KR b d lo hi mr f P) D vwCl A tys ad ks H) (ha : isK ad ks 12 a) (hl : Cond.fieldLink own index "LawnAheadModel" "game" "[I" ∈ sg_tbl) (hdg : decode cc pc = .ok (.getfield index, 3)) (kk : ∀ x : Nat, isK ad ks 52 x → fld D H 12 a 21 (.ref x) → W p l e R s m args below meth c H locs cells slots Q (F0 m (pc + 3) ls (.ref x :: rest))) : W p l e R s m args below meth c H locs cells slots Q (F0 m pc ls (.ref a :: rest)) :=
  sg_get X hK hG ha (k := 12) (ci := 12) rfl (C := RX12) (T := TX12) (N := 53) rfl inL_X12 21 (by decide) rfl hl (fun _ h => h) hdg (fun v hv hf => by
    obtain ⟨h1, -⟩ | ⟨x, rfl, hx⟩ := hv
    · cases h1
    · exact kk x hx hf)
theorem gf_X12_22r  {b : Bool} {d lo hi mr f : Int} (X : CallFix p m c cc nL s args sg_tbl own) (hK : va_K D vwCl tys s) (hG : sgG (KR b d lo hi mr f P) D vwCl A tys ad ks H) (ha : isK ad ks 12 a) (hl : Cond.fieldLink own index "LawnAheadModel" "gameLong" "[I" ∈ sg_tbl) (hdg : decode cc pc = .ok (.getfield index, 3)) (kk : ∀ x : Nat, isK ad ks 53 x → fld D H 12 a 22 (.ref x) → W p l e R s m args below meth c H locs cells slots Q (F0 m (pc + 3) ls (.ref x :: rest))) : W p l e R s m args below meth c H locs cells slots Q (F0 m pc ls (.ref a :: rest)) :=
  sg_get X hK hG ha (k := 12) (ci := 12) rfl (C := RX12) (T := TX12) (N := 53) rfl inL_X12 22 (by decide) rfl hl (fun _ h => h) hdg (fun v hv hf => by
    obtain ⟨h1, -⟩ | ⟨x, rfl, hx⟩ := hv
    · cases h1
    · exact kk x hx hf)
theorem gf_X12_3   (X : CallFix p m c cc nL s args sg_tbl own) (hK : va_K D vwCl tys s) (hG : sgG (KT P) D vwCl A tys ad ks H) (ha : isK ad ks 12 a) (hl : Cond.fieldLink own index "LawnAheadModel" "textLong" "[I" ∈ sg_tbl) (hdg : decode cc pc = .ok (.getfield index, 3)) (kk : ∀ x : Nat, isK ad ks 47 x → fld D H 12 a 3 (.ref x) → W p l e R s m args below meth c H locs cells slots Q (F0 m (pc + 3) ls (.ref x :: rest))) : W p l e R s m args below meth c H locs cells slots Q (F0 m pc ls (.ref a :: rest)) :=
  sg_get X hK hG ha (k := 12) (ci := 12) rfl (C := RX12) (T := TX12) (N := 53) rfl inL_X12 3 (by decide) rfl hl (fun _ h => h) hdg (fun v hv hf => by
    obtain ⟨h1, -⟩ | ⟨x, rfl, hx⟩ := hv
    · cases h1
    · exact kk x hx hf)
theorem gf_X12_36   (X : CallFix p m c cc nL s args sg_tbl own) (hK : va_K D vwCl tys s) (hG : sgG (KT P) D vwCl A tys ad ks H) (ha : isK ad ks 12 a) (hl : Cond.fieldLink own index "LawnAheadModel" "memoKey" "[J" ∈ sg_tbl) (hdg : decode cc pc = .ok (.getfield index, 3)) (kk : ∀ x : Nat, isK ad ks 56 x → fld D H 12 a 36 (.ref x) → W p l e R s m args below meth c H locs cells slots Q (F0 m (pc + 3) ls (.ref x :: rest))) : W p l e R s m args below meth c H locs cells slots Q (F0 m pc ls (.ref a :: rest)) :=
  sg_get X hK hG ha (k := 12) (ci := 12) rfl (C := RX12) (T := TX12) (N := 53) rfl inL_X12 36 (by decide) rfl hl (fun _ h => h) hdg (fun v hv hf => by
    obtain ⟨h1, -⟩ | ⟨x, rfl, hx⟩ := hv
    · cases h1
    · exact kk x hx hf)
theorem gf_X12_37   (X : CallFix p m c cc nL s args sg_tbl own) (hK : va_K D vwCl tys s) (hG : sgG (KT P) D vwCl A tys ad ks H) (ha : isK ad ks 12 a) (hl : Cond.fieldLink own index "LawnAheadModel" "memoWorth" "[I" ∈ sg_tbl) (hdg : decode cc pc = .ok (.getfield index, 3)) (kk : ∀ x : Nat, isK ad ks 57 x → fld D H 12 a 37 (.ref x) → W p l e R s m args below meth c H locs cells slots Q (F0 m (pc + 3) ls (.ref x :: rest))) : W p l e R s m args below meth c H locs cells slots Q (F0 m pc ls (.ref a :: rest)) :=
  sg_get X hK hG ha (k := 12) (ci := 12) rfl (C := RX12) (T := TX12) (N := 53) rfl inL_X12 37 (by decide) rfl hl (fun _ h => h) hdg (fun v hv hf => by
    obtain ⟨h1, -⟩ | ⟨x, rfl, hx⟩ := hv
    · cases h1
    · exact kk x hx hf)
theorem gf_X12_4   (X : CallFix p m c cc nL s args sg_tbl own) (hK : va_K D vwCl tys s) (hG : sgG (KT P) D vwCl A tys ad ks H) (ha : isK ad ks 12 a) (hl : Cond.fieldLink own index "LawnAheadModel" "letters" "[I" ∈ sg_tbl) (hdg : decode cc pc = .ok (.getfield index, 3)) (kk : ∀ x : Nat, isK ad ks 48 x → fld D H 12 a 4 (.ref x) → W p l e R s m args below meth c H locs cells slots Q (F0 m (pc + 3) ls (.ref x :: rest))) : W p l e R s m args below meth c H locs cells slots Q (F0 m pc ls (.ref a :: rest)) :=
  sg_get X hK hG ha (k := 12) (ci := 12) rfl (C := RX12) (T := TX12) (N := 53) rfl inL_X12 4 (by decide) rfl hl (fun _ h => h) hdg (fun v hv hf => by
    obtain ⟨h1, -⟩ | ⟨x, rfl, hx⟩ := hv
    · cases h1
    · exact kk x hx hf)
theorem gg_X12_11r  {b : Bool} {d lo hi mr f : Int} (X : CallFix p m c cc nL s args sg_tbl own) (hK : va_K D vwCl tys s) (hG : sgG (KR b d lo hi mr f P) D vwCl A tys ad ks H) (ha : isK ad ks 12 a) (hl : Cond.fieldLink own index "LawnAheadModel" "fault" "I" ∈ sg_tbl) {v : Value} (hf : fld D H 12 a 11 v) (hdg : decode cc pc = .ok (.getfield index, 3)) (kk : W p l e R s m args below meth c H locs cells slots Q (F0 m (pc + 3) ls (v :: rest))) : W p l e R s m args below meth c H locs cells slots Q (F0 m pc ls (.ref a :: rest)) :=
  sg_getf X hK hG ha (k := 12) (ci := 12) rfl (C := RX12) (T := TX12) (N := 53) rfl inL_X12 11 (by decide) (show 11 < 53 by decide) hl (fun _ h => h) hf hdg kk
theorem gg_X12_14   (X : CallFix p m c cc nL s args sg_tbl own) (hK : va_K D vwCl tys s) (hG : sgG (KT P) D vwCl A tys ad ks H) (ha : isK ad ks 12 a) (hl : Cond.fieldLink own index "LawnAheadModel" "found" "I" ∈ sg_tbl) {v : Value} (hf : fld D H 12 a 14 v) (hdg : decode cc pc = .ok (.getfield index, 3)) (kk : W p l e R s m args below meth c H locs cells slots Q (F0 m (pc + 3) ls (v :: rest))) : W p l e R s m args below meth c H locs cells slots Q (F0 m pc ls (.ref a :: rest)) :=
  sg_getf X hK hG ha (k := 12) (ci := 12) rfl (C := RX12) (T := TX12) (N := 53) rfl inL_X12 14 (by decide) (show 14 < 53 by decide) hl (fun _ h => h) hf hdg kk
theorem gg_X12_21r  {b : Bool} {d lo hi mr f : Int} (X : CallFix p m c cc nL s args sg_tbl own) (hK : va_K D vwCl tys s) (hG : sgG (KR b d lo hi mr f P) D vwCl A tys ad ks H) (ha : isK ad ks 12 a) (hl : Cond.fieldLink own index "LawnAheadModel" "game" "[I" ∈ sg_tbl) {v : Value} (hf : fld D H 12 a 21 v) (hdg : decode cc pc = .ok (.getfield index, 3)) (kk : W p l e R s m args below meth c H locs cells slots Q (F0 m (pc + 3) ls (v :: rest))) : W p l e R s m args below meth c H locs cells slots Q (F0 m pc ls (.ref a :: rest)) :=
  sg_getf X hK hG ha (k := 12) (ci := 12) rfl (C := RX12) (T := TX12) (N := 53) rfl inL_X12 21 (by decide) (show 21 < 53 by decide) hl (fun _ h => h) hf hdg kk
theorem gg_X12_24   (X : CallFix p m c cc nL s args sg_tbl own) (hK : va_K D vwCl tys s) (hG : sgG (KT P) D vwCl A tys ad ks H) (ha : isK ad ks 12 a) (hl : Cond.fieldLink own index "LawnAheadModel" "beds" "I" ∈ sg_tbl) {v : Value} (hf : fld D H 12 a 24 v) (hdg : decode cc pc = .ok (.getfield index, 3)) (kk : W p l e R s m args below meth c H locs cells slots Q (F0 m (pc + 3) ls (v :: rest))) : W p l e R s m args below meth c H locs cells slots Q (F0 m pc ls (.ref a :: rest)) :=
  sg_getf X hK hG ha (k := 12) (ci := 12) rfl (C := RX12) (T := TX12) (N := 53) rfl inL_X12 24 (by decide) (show 24 < 53 by decide) hl (fun _ h => h) hf hdg kk
theorem gg_X12_34   (X : CallFix p m c cc nL s args sg_tbl own) (hK : va_K D vwCl tys s) (hG : sgG (KT P) D vwCl A tys ad ks H) (ha : isK ad ks 12 a) (hl : Cond.fieldLink own index "LawnAheadModel" "law" "I" ∈ sg_tbl) {v : Value} (hf : fld D H 12 a 34 v) (hdg : decode cc pc = .ok (.getfield index, 3)) (kk : W p l e R s m args below meth c H locs cells slots Q (F0 m (pc + 3) ls (v :: rest))) : W p l e R s m args below meth c H locs cells slots Q (F0 m pc ls (.ref a :: rest)) :=
  sg_getf X hK hG ha (k := 12) (ci := 12) rfl (C := RX12) (T := TX12) (N := 53) rfl inL_X12 34 (by decide) (show 34 < 53 by decide) hl (fun _ h => h) hf hdg kk
theorem gg_X12_4   (X : CallFix p m c cc nL s args sg_tbl own) (hK : va_K D vwCl tys s) (hG : sgG (KT P) D vwCl A tys ad ks H) (ha : isK ad ks 12 a) (hl : Cond.fieldLink own index "LawnAheadModel" "letters" "[I" ∈ sg_tbl) {v : Value} (hf : fld D H 12 a 4 v) (hdg : decode cc pc = .ok (.getfield index, 3)) (kk : W p l e R s m args below meth c H locs cells slots Q (F0 m (pc + 3) ls (v :: rest))) : W p l e R s m args below meth c H locs cells slots Q (F0 m pc ls (.ref a :: rest)) :=
  sg_getf X hK hG ha (k := 12) (ci := 12) rfl (C := RX12) (T := TX12) (N := 53) rfl inL_X12 4 (by decide) (show 4 < 53 by decide) hl (fun _ h => h) hf hdg kk
theorem pf_X12_10S {b : Bool} {x : Int32} (X : CallFix p m c cc nL s args sg_tbl own) (hK : va_K D vwCl tys s) (hG : sgG (KU b P) D vwCl A tys ad ks H) (hS : va_S A H0 H locs) (ha : isK ad ks 12 a) (hl : Cond.fieldLink own index "LawnAheadModel" "at" "I" ∈ sg_tbl) (hv : okV ad ks (.inl (0, 241)) (.int x)) (hdg : decode cc pc = .ok (.putfield index, 3)) (kk : ∀ (H1 : Heap) (locs1 : List Loc), sgG (KR b 0 0 241 0 (-1) P) D vwCl A tys ad ks H1 → va_S A H0 H1 locs1 → W p l e R s m args below meth c H1 locs1 cells slots Q (F0 m (pc + 3) ls rest)) : W p l e R s m args below meth c H locs cells slots Q (F0 m pc ls (.int x :: .ref a :: rest)) :=
  sg_put1 (kt' := KR b 0 0 241 0 (-1) P) X hK hG hS ha (k := 12) (by decide) (ci := 12) (fts := [.inl ((-2147483648), 2147483647), .inr (.inl (false, 45)), .inr (.inl (false, 46)), .inr (.inl (false, 47)), .inr (.inl (false, 48)), bif b then .inr (.inl (false, 46)) else .inr (.inl (false, 45)), .inl (sgC240 (sgL2 P), sgC240 (sgL2 P)), .inl ((P.2.2.2.2.2.2.2.2.1.val : Int), (P.2.2.2.2.2.2.2.2.1.val : Int)), .inl (0, bif b then 720 else 0), .inl (0, 240), .inl ((-2147483648), 2147483647), .inl ((-1), 241), .inl (0, 6), .inl ((-2147483648), 2147483647), .inl ((-2147483648), 2147483647), .inr (.inr true), .inr (.inr true), .inl (0, 1), .inr (.inl (false, 49)), .inr (.inl (false, 50)), .inr (.inl (false, 51)), .inr (.inl (false, 52)), .inr (.inl (false, 53)), .inl (sgC1 P, sgC1 P), .inl ((-2147483648), 2147483647), .inl ((-2147483648), 2147483647), .inl ((-2147483648), 2147483647), .inl ((-2147483648), 2147483647), .inl ((-2147483648), 2147483647), .inl ((P.2.2.2.2.2.2.2.2.2.1.val : Int), (P.2.2.2.2.2.2.2.2.2.1.val : Int)), .inl (0, 1), .inl (0, 1), .inr (.inl (false, 54)), .inr (.inl (false, 55)), .inl ((-1), 3), .inl (P.2.2.2.2.2.1, P.2.2.2.2.2.1), .inr (.inl (false, 56)), .inr (.inl (false, 57)), .inr (.inl (false, 58)), .inl (0, 40), .inr (.inr false), .inr (.inl (false, 59)), .inl ((-2147483648), 2147483647), .inl ((-2147483648), 2147483647), .inr (.inl (false, 60)), .inr (.inl (false, 61)), .inr (.inl (false, 62)), .inl (0, 12), .inr (.inl (false, 63)), .inr (.inl (false, 64)), .inl (0, 12), .inr (.inl (false, 65)), .inl (0, 1)]) (fts' := [.inl ((-2147483648), 2147483647), .inr (.inl (false, 45)), .inr (.inl (false, 46)), .inr (.inl (false, 47)), .inr (.inl (false, 48)), bif b then .inr (.inl (false, 46)) else .inr (.inl (false, 45)), .inl (sgC240 (sgL2 P), sgC240 (sgL2 P)), .inl ((P.2.2.2.2.2.2.2.2.1.val : Int), (P.2.2.2.2.2.2.2.2.1.val : Int)), .inl (0, bif b then 720 else 0), .inl (0, 240), .inl (0, 241), .inl ((-1), 241), .inl (0, 6), .inl ((-2147483648), 2147483647), .inl ((-2147483648), 2147483647), .inr (.inr true), .inr (.inr true), .inl (0, 1), .inr (.inl (false, 49)), .inr (.inl (false, 50)), .inr (.inl (false, 51)), .inr (.inl (false, 52)), .inr (.inl (false, 53)), .inl (sgC1 P, sgC1 P), .inl ((-2147483648), 2147483647), .inl ((-2147483648), 2147483647), .inl ((-2147483648), 2147483647), .inl ((-2147483648), 2147483647), .inl ((-2147483648), 2147483647), .inl ((P.2.2.2.2.2.2.2.2.2.1.val : Int), (P.2.2.2.2.2.2.2.2.2.1.val : Int)), .inl (0, 1), .inl (0, 1), .inr (.inl (false, 54)), .inr (.inl (false, 55)), .inl ((-1), 3), .inl (P.2.2.2.2.2.1, P.2.2.2.2.2.1), .inr (.inl (false, 56)), .inr (.inl (false, 57)), .inr (.inl (false, 58)), .inl (0, 40), .inr (.inr false), .inr (.inl (false, 59)), .inl ((-2147483648), 2147483647), .inl ((-2147483648), 2147483647), .inr (.inl (false, 60)), .inr (.inl (false, 61)), .inr (.inl (false, 62)), .inl (0, 12), .inr (.inl (false, 63)), .inr (.inl (false, 64)), .inl (0, 12), .inr (.inl (false, 65)), .inl (0, 1)]) rfl rfl (C := RX12) (T := TX12) (N := 53) rfl inL_X12 tyX12 tyX12_ok nmX12 10 (by decide) rfl (t' := .inl (0, 241)) rfl (fun i hi => by match i, hi with
    | 0, hi => rfl
    | 1, hi => rfl
    | 2, hi => rfl
    | 3, hi => rfl
    | 4, hi => rfl
    | 5, hi => rfl
    | 6, hi => rfl
    | 7, hi => rfl
    | 8, hi => rfl
    | 9, hi => rfl
    | 10, hi => exact absurd rfl hi
    | 11, hi => rfl
    | 12, hi => rfl
    | 13, hi => rfl
    | 14, hi => rfl
    | 15, hi => rfl
    | 16, hi => rfl
    | 17, hi => rfl
    | 18, hi => rfl
    | 19, hi => rfl
    | 20, hi => rfl
    | 21, hi => rfl
    | 22, hi => rfl
    | 23, hi => rfl
    | 24, hi => rfl
    | 25, hi => rfl
    | 26, hi => rfl
    | 27, hi => rfl
    | 28, hi => rfl
    | 29, hi => rfl
    | 30, hi => rfl
    | 31, hi => rfl
    | 32, hi => rfl
    | 33, hi => rfl
    | 34, hi => rfl
    | 35, hi => rfl
    | 36, hi => rfl
    | 37, hi => rfl
    | 38, hi => rfl
    | 39, hi => rfl
    | 40, hi => rfl
    | 41, hi => rfl
    | 42, hi => rfl
    | 43, hi => rfl
    | 44, hi => rfl
    | 45, hi => rfl
    | 46, hi => rfl
    | 47, hi => rfl
    | 48, hi => rfl
    | 49, hi => rfl
    | 50, hi => rfl
    | 51, hi => rfl
    | 52, hi => rfl
    | i + 53, hi => rfl) (fun i hi => by match i, hi with
    | 0, hi => rfl
    | 1, hi => rfl
    | 2, hi => rfl
    | 3, hi => rfl
    | 4, hi => rfl
    | 5, hi => rfl
    | 6, hi => rfl
    | 7, hi => rfl
    | 8, hi => rfl
    | 9, hi => rfl
    | 10, hi => rfl
    | 11, hi => rfl
    | 12, hi => exact absurd rfl hi
    | 13, hi => rfl
    | 14, hi => rfl
    | 15, hi => rfl
    | 16, hi => rfl
    | 17, hi => rfl
    | 18, hi => rfl
    | 19, hi => rfl
    | 20, hi => rfl
    | 21, hi => rfl
    | 22, hi => rfl
    | 23, hi => rfl
    | 24, hi => rfl
    | 25, hi => rfl
    | 26, hi => rfl
    | 27, hi => rfl
    | 28, hi => rfl
    | 29, hi => rfl
    | 30, hi => rfl
    | 31, hi => rfl
    | 32, hi => rfl
    | 33, hi => rfl
    | 34, hi => rfl
    | 35, hi => rfl
    | 36, hi => rfl
    | 37, hi => rfl
    | 38, hi => rfl
    | 39, hi => rfl
    | 40, hi => rfl
    | 41, hi => rfl
    | 42, hi => rfl
    | 43, hi => rfl
    | 44, hi => rfl
    | 45, hi => rfl
    | 46, hi => rfl
    | 47, hi => rfl
    | 48, hi => rfl
    | 49, hi => rfl
    | 50, hi => rfl
    | 51, hi => rfl
    | 52, hi => rfl
    | 53, hi => rfl
    | 54, hi => rfl
    | 55, hi => rfl
    | 56, hi => rfl
    | 57, hi => rfl
    | 58, hi => rfl
    | 59, hi => rfl
    | 60, hi => rfl
    | 61, hi => rfl
    | 62, hi => rfl
    | 63, hi => rfl
    | 64, hi => rfl
    | 65, hi => rfl
    | 66, hi => rfl
    | 67, hi => rfl
    | i + 68, hi => rfl) hl (fun _ h => h) rfl (ty := .int) rfl rfl rfl hv hdg kk
theorem pf_X12_13r  {x : Int32} {b : Bool} {d lo hi mr f : Int} (X : CallFix p m c cc nL s args sg_tbl own) (hK : va_K D vwCl tys s) (hG : sgG (KR b d lo hi mr f P) D vwCl A tys ad ks H) (hS : va_S A H0 H locs) (ha : isK ad ks 12 a) (hl : Cond.fieldLink own index "LawnAheadModel" "label" "I" ∈ sg_tbl) (hv : okV ad ks (.inl ((-2147483648), 2147483647)) (.int x)) (hdg : decode cc pc = .ok (.putfield index, 3)) (kk : ∀ (H1 : Heap) (locs1 : List Loc), sgG (KR b d lo hi mr f P) D vwCl A tys ad ks H1 → va_S A H0 H1 locs1 → fld D H1 12 a 13 (.int x) → sgFr (KR b d lo hi mr f P) D vwCl ad ks H H1 (fun a' j' => a' = a ∧ j' = 13) → W p l e R s m args below meth c H1 locs1 cells slots Q (F0 m (pc + 3) ls rest)) : W p l e R s m args below meth c H locs cells slots Q (F0 m pc ls (.int x :: .ref a :: rest)) :=
  sg_put X hK hG hS ha (k := 12) (ci := 12) rfl (C := RX12) (T := TX12) (N := 53) rfl inL_X12 tyX12 tyX12_ok nmX12 13 (by decide) rfl hl (fun _ h => h) rfl (ty := .int) rfl rfl rfl hv hdg kk
theorem pf_X12_5S {b : Bool} {x : Nat} (X : CallFix p m c cc nL s args sg_tbl own) (hK : va_K D vwCl tys s) (hG : sgG (KT P) D vwCl A tys ad ks H) (hS : va_S A H0 H locs) (ha : isK ad ks 12 a) (hl : Cond.fieldLink own index "LawnAheadModel" "text" "[B" ∈ sg_tbl) (hv : okV ad ks (bif b then .inr (.inl (false, 46)) else .inr (.inl (false, 45))) (.ref x)) (hdg : decode cc pc = .ok (.putfield index, 3)) (kk : ∀ (H1 : Heap) (locs1 : List Loc), sgG (KS b P) D vwCl A tys ad ks H1 → va_S A H0 H1 locs1 → W p l e R s m args below meth c H1 locs1 cells slots Q (F0 m (pc + 3) ls rest)) : W p l e R s m args below meth c H locs cells slots Q (F0 m pc ls (.ref x :: .ref a :: rest)) :=
  sg_put1 (kt' := KS b P) X hK hG hS ha (k := 12) (by decide) (ci := 12) (fts := [.inl ((-2147483648), 2147483647), .inr (.inl (false, 45)), .inr (.inl (false, 46)), .inr (.inl (false, 47)), .inr (.inl (false, 48)), .inr (.inr true), .inl (sgC240 (sgL2 P), sgC240 (sgL2 P)), .inl ((P.2.2.2.2.2.2.2.2.1.val : Int), (P.2.2.2.2.2.2.2.2.1.val : Int)), .inl ((-2147483648), 2147483647), .inl (0, 240), .inl ((-2147483648), 2147483647), .inl ((-1), 241), .inl (0, 6), .inl ((-2147483648), 2147483647), .inl ((-2147483648), 2147483647), .inr (.inr true), .inr (.inr true), .inl (0, 1), .inr (.inl (false, 49)), .inr (.inl (false, 50)), .inr (.inl (false, 51)), .inr (.inl (false, 52)), .inr (.inl (false, 53)), .inl (sgC1 P, sgC1 P), .inl ((-2147483648), 2147483647), .inl ((-2147483648), 2147483647), .inl ((-2147483648), 2147483647), .inl ((-2147483648), 2147483647), .inl ((-2147483648), 2147483647), .inl ((P.2.2.2.2.2.2.2.2.2.1.val : Int), (P.2.2.2.2.2.2.2.2.2.1.val : Int)), .inl (0, 1), .inl (0, 1), .inr (.inl (false, 54)), .inr (.inl (false, 55)), .inl ((-1), 3), .inl (P.2.2.2.2.2.1, P.2.2.2.2.2.1), .inr (.inl (false, 56)), .inr (.inl (false, 57)), .inr (.inl (false, 58)), .inl (0, 40), .inr (.inr false), .inr (.inl (false, 59)), .inl ((-2147483648), 2147483647), .inl ((-2147483648), 2147483647), .inr (.inl (false, 60)), .inr (.inl (false, 61)), .inr (.inl (false, 62)), .inl (0, 12), .inr (.inl (false, 63)), .inr (.inl (false, 64)), .inl (0, 12), .inr (.inl (false, 65)), .inl (0, 1)]) (fts' := [.inl ((-2147483648), 2147483647), .inr (.inl (false, 45)), .inr (.inl (false, 46)), .inr (.inl (false, 47)), .inr (.inl (false, 48)), bif b then .inr (.inl (false, 46)) else .inr (.inl (false, 45)), .inl (sgC240 (sgL2 P), sgC240 (sgL2 P)), .inl ((P.2.2.2.2.2.2.2.2.1.val : Int), (P.2.2.2.2.2.2.2.2.1.val : Int)), .inl ((-2147483648), 2147483647), .inl (0, 240), .inl ((-2147483648), 2147483647), .inl ((-1), 241), .inl (0, 6), .inl ((-2147483648), 2147483647), .inl ((-2147483648), 2147483647), .inr (.inr true), .inr (.inr true), .inl (0, 1), .inr (.inl (false, 49)), .inr (.inl (false, 50)), .inr (.inl (false, 51)), .inr (.inl (false, 52)), .inr (.inl (false, 53)), .inl (sgC1 P, sgC1 P), .inl ((-2147483648), 2147483647), .inl ((-2147483648), 2147483647), .inl ((-2147483648), 2147483647), .inl ((-2147483648), 2147483647), .inl ((-2147483648), 2147483647), .inl ((P.2.2.2.2.2.2.2.2.2.1.val : Int), (P.2.2.2.2.2.2.2.2.2.1.val : Int)), .inl (0, 1), .inl (0, 1), .inr (.inl (false, 54)), .inr (.inl (false, 55)), .inl ((-1), 3), .inl (P.2.2.2.2.2.1, P.2.2.2.2.2.1), .inr (.inl (false, 56)), .inr (.inl (false, 57)), .inr (.inl (false, 58)), .inl (0, 40), .inr (.inr false), .inr (.inl (false, 59)), .inl ((-2147483648), 2147483647), .inl ((-2147483648), 2147483647), .inr (.inl (false, 60)), .inr (.inl (false, 61)), .inr (.inl (false, 62)), .inl (0, 12), .inr (.inl (false, 63)), .inr (.inl (false, 64)), .inl (0, 12), .inr (.inl (false, 65)), .inl (0, 1)]) rfl rfl (C := RX12) (T := TX12) (N := 53) rfl inL_X12 tyX12 tyX12_ok nmX12 5 (by decide) rfl (t' := bif b then .inr (.inl (false, 46)) else .inr (.inl (false, 45))) rfl (fun i hi => by match i, hi with
    | 0, hi => rfl
    | 1, hi => rfl
    | 2, hi => rfl
    | 3, hi => rfl
    | 4, hi => rfl
    | 5, hi => exact absurd rfl hi
    | 6, hi => rfl
    | 7, hi => rfl
    | 8, hi => rfl
    | 9, hi => rfl
    | 10, hi => rfl
    | 11, hi => rfl
    | 12, hi => rfl
    | 13, hi => rfl
    | 14, hi => rfl
    | 15, hi => rfl
    | 16, hi => rfl
    | 17, hi => rfl
    | 18, hi => rfl
    | 19, hi => rfl
    | 20, hi => rfl
    | 21, hi => rfl
    | 22, hi => rfl
    | 23, hi => rfl
    | 24, hi => rfl
    | 25, hi => rfl
    | 26, hi => rfl
    | 27, hi => rfl
    | 28, hi => rfl
    | 29, hi => rfl
    | 30, hi => rfl
    | 31, hi => rfl
    | 32, hi => rfl
    | 33, hi => rfl
    | 34, hi => rfl
    | 35, hi => rfl
    | 36, hi => rfl
    | 37, hi => rfl
    | 38, hi => rfl
    | 39, hi => rfl
    | 40, hi => rfl
    | 41, hi => rfl
    | 42, hi => rfl
    | 43, hi => rfl
    | 44, hi => rfl
    | 45, hi => rfl
    | 46, hi => rfl
    | 47, hi => rfl
    | 48, hi => rfl
    | 49, hi => rfl
    | 50, hi => rfl
    | 51, hi => rfl
    | 52, hi => rfl
    | i + 53, hi => rfl) (fun i hi => by match i, hi with
    | 0, hi => rfl
    | 1, hi => rfl
    | 2, hi => rfl
    | 3, hi => rfl
    | 4, hi => rfl
    | 5, hi => rfl
    | 6, hi => rfl
    | 7, hi => rfl
    | 8, hi => rfl
    | 9, hi => rfl
    | 10, hi => rfl
    | 11, hi => rfl
    | 12, hi => exact absurd rfl hi
    | 13, hi => rfl
    | 14, hi => rfl
    | 15, hi => rfl
    | 16, hi => rfl
    | 17, hi => rfl
    | 18, hi => rfl
    | 19, hi => rfl
    | 20, hi => rfl
    | 21, hi => rfl
    | 22, hi => rfl
    | 23, hi => rfl
    | 24, hi => rfl
    | 25, hi => rfl
    | 26, hi => rfl
    | 27, hi => rfl
    | 28, hi => rfl
    | 29, hi => rfl
    | 30, hi => rfl
    | 31, hi => rfl
    | 32, hi => rfl
    | 33, hi => rfl
    | 34, hi => rfl
    | 35, hi => rfl
    | 36, hi => rfl
    | 37, hi => rfl
    | 38, hi => rfl
    | 39, hi => rfl
    | 40, hi => rfl
    | 41, hi => rfl
    | 42, hi => rfl
    | 43, hi => rfl
    | 44, hi => rfl
    | 45, hi => rfl
    | 46, hi => rfl
    | 47, hi => rfl
    | 48, hi => rfl
    | 49, hi => rfl
    | 50, hi => rfl
    | 51, hi => rfl
    | 52, hi => rfl
    | 53, hi => rfl
    | 54, hi => rfl
    | 55, hi => rfl
    | 56, hi => rfl
    | 57, hi => rfl
    | 58, hi => rfl
    | 59, hi => rfl
    | 60, hi => rfl
    | 61, hi => rfl
    | 62, hi => rfl
    | 63, hi => rfl
    | 64, hi => rfl
    | 65, hi => rfl
    | 66, hi => rfl
    | 67, hi => rfl
    | i + 68, hi => rfl) hl (fun _ h => h) rfl (ty := (tyX12 5)) rfl rfl rfl hv hdg kk
theorem pf_X12_8S {b : Bool} {x : Int32} (X : CallFix p m c cc nL s args sg_tbl own) (hK : va_K D vwCl tys s) (hG : sgG (KS b P) D vwCl A tys ad ks H) (hS : va_S A H0 H locs) (ha : isK ad ks 12 a) (hl : Cond.fieldLink own index "LawnAheadModel" "begins" "I" ∈ sg_tbl) (hv : okV ad ks (.inl (0, bif b then 720 else 0)) (.int x)) (hdg : decode cc pc = .ok (.putfield index, 3)) (kk : ∀ (H1 : Heap) (locs1 : List Loc), sgG (KU b P) D vwCl A tys ad ks H1 → va_S A H0 H1 locs1 → W p l e R s m args below meth c H1 locs1 cells slots Q (F0 m (pc + 3) ls rest)) : W p l e R s m args below meth c H locs cells slots Q (F0 m pc ls (.int x :: .ref a :: rest)) :=
  sg_put1 (kt' := KU b P) X hK hG hS ha (k := 12) (by decide) (ci := 12) (fts := [.inl ((-2147483648), 2147483647), .inr (.inl (false, 45)), .inr (.inl (false, 46)), .inr (.inl (false, 47)), .inr (.inl (false, 48)), bif b then .inr (.inl (false, 46)) else .inr (.inl (false, 45)), .inl (sgC240 (sgL2 P), sgC240 (sgL2 P)), .inl ((P.2.2.2.2.2.2.2.2.1.val : Int), (P.2.2.2.2.2.2.2.2.1.val : Int)), .inl ((-2147483648), 2147483647), .inl (0, 240), .inl ((-2147483648), 2147483647), .inl ((-1), 241), .inl (0, 6), .inl ((-2147483648), 2147483647), .inl ((-2147483648), 2147483647), .inr (.inr true), .inr (.inr true), .inl (0, 1), .inr (.inl (false, 49)), .inr (.inl (false, 50)), .inr (.inl (false, 51)), .inr (.inl (false, 52)), .inr (.inl (false, 53)), .inl (sgC1 P, sgC1 P), .inl ((-2147483648), 2147483647), .inl ((-2147483648), 2147483647), .inl ((-2147483648), 2147483647), .inl ((-2147483648), 2147483647), .inl ((-2147483648), 2147483647), .inl ((P.2.2.2.2.2.2.2.2.2.1.val : Int), (P.2.2.2.2.2.2.2.2.2.1.val : Int)), .inl (0, 1), .inl (0, 1), .inr (.inl (false, 54)), .inr (.inl (false, 55)), .inl ((-1), 3), .inl (P.2.2.2.2.2.1, P.2.2.2.2.2.1), .inr (.inl (false, 56)), .inr (.inl (false, 57)), .inr (.inl (false, 58)), .inl (0, 40), .inr (.inr false), .inr (.inl (false, 59)), .inl ((-2147483648), 2147483647), .inl ((-2147483648), 2147483647), .inr (.inl (false, 60)), .inr (.inl (false, 61)), .inr (.inl (false, 62)), .inl (0, 12), .inr (.inl (false, 63)), .inr (.inl (false, 64)), .inl (0, 12), .inr (.inl (false, 65)), .inl (0, 1)]) (fts' := [.inl ((-2147483648), 2147483647), .inr (.inl (false, 45)), .inr (.inl (false, 46)), .inr (.inl (false, 47)), .inr (.inl (false, 48)), bif b then .inr (.inl (false, 46)) else .inr (.inl (false, 45)), .inl (sgC240 (sgL2 P), sgC240 (sgL2 P)), .inl ((P.2.2.2.2.2.2.2.2.1.val : Int), (P.2.2.2.2.2.2.2.2.1.val : Int)), .inl (0, bif b then 720 else 0), .inl (0, 240), .inl ((-2147483648), 2147483647), .inl ((-1), 241), .inl (0, 6), .inl ((-2147483648), 2147483647), .inl ((-2147483648), 2147483647), .inr (.inr true), .inr (.inr true), .inl (0, 1), .inr (.inl (false, 49)), .inr (.inl (false, 50)), .inr (.inl (false, 51)), .inr (.inl (false, 52)), .inr (.inl (false, 53)), .inl (sgC1 P, sgC1 P), .inl ((-2147483648), 2147483647), .inl ((-2147483648), 2147483647), .inl ((-2147483648), 2147483647), .inl ((-2147483648), 2147483647), .inl ((-2147483648), 2147483647), .inl ((P.2.2.2.2.2.2.2.2.2.1.val : Int), (P.2.2.2.2.2.2.2.2.2.1.val : Int)), .inl (0, 1), .inl (0, 1), .inr (.inl (false, 54)), .inr (.inl (false, 55)), .inl ((-1), 3), .inl (P.2.2.2.2.2.1, P.2.2.2.2.2.1), .inr (.inl (false, 56)), .inr (.inl (false, 57)), .inr (.inl (false, 58)), .inl (0, 40), .inr (.inr false), .inr (.inl (false, 59)), .inl ((-2147483648), 2147483647), .inl ((-2147483648), 2147483647), .inr (.inl (false, 60)), .inr (.inl (false, 61)), .inr (.inl (false, 62)), .inl (0, 12), .inr (.inl (false, 63)), .inr (.inl (false, 64)), .inl (0, 12), .inr (.inl (false, 65)), .inl (0, 1)]) rfl rfl (C := RX12) (T := TX12) (N := 53) rfl inL_X12 tyX12 tyX12_ok nmX12 8 (by decide) rfl (t' := .inl (0, bif b then 720 else 0)) rfl (fun i hi => by match i, hi with
    | 0, hi => rfl
    | 1, hi => rfl
    | 2, hi => rfl
    | 3, hi => rfl
    | 4, hi => rfl
    | 5, hi => rfl
    | 6, hi => rfl
    | 7, hi => rfl
    | 8, hi => exact absurd rfl hi
    | 9, hi => rfl
    | 10, hi => rfl
    | 11, hi => rfl
    | 12, hi => rfl
    | 13, hi => rfl
    | 14, hi => rfl
    | 15, hi => rfl
    | 16, hi => rfl
    | 17, hi => rfl
    | 18, hi => rfl
    | 19, hi => rfl
    | 20, hi => rfl
    | 21, hi => rfl
    | 22, hi => rfl
    | 23, hi => rfl
    | 24, hi => rfl
    | 25, hi => rfl
    | 26, hi => rfl
    | 27, hi => rfl
    | 28, hi => rfl
    | 29, hi => rfl
    | 30, hi => rfl
    | 31, hi => rfl
    | 32, hi => rfl
    | 33, hi => rfl
    | 34, hi => rfl
    | 35, hi => rfl
    | 36, hi => rfl
    | 37, hi => rfl
    | 38, hi => rfl
    | 39, hi => rfl
    | 40, hi => rfl
    | 41, hi => rfl
    | 42, hi => rfl
    | 43, hi => rfl
    | 44, hi => rfl
    | 45, hi => rfl
    | 46, hi => rfl
    | 47, hi => rfl
    | 48, hi => rfl
    | 49, hi => rfl
    | 50, hi => rfl
    | 51, hi => rfl
    | 52, hi => rfl
    | i + 53, hi => rfl) (fun i hi => by match i, hi with
    | 0, hi => rfl
    | 1, hi => rfl
    | 2, hi => rfl
    | 3, hi => rfl
    | 4, hi => rfl
    | 5, hi => rfl
    | 6, hi => rfl
    | 7, hi => rfl
    | 8, hi => rfl
    | 9, hi => rfl
    | 10, hi => rfl
    | 11, hi => rfl
    | 12, hi => exact absurd rfl hi
    | 13, hi => rfl
    | 14, hi => rfl
    | 15, hi => rfl
    | 16, hi => rfl
    | 17, hi => rfl
    | 18, hi => rfl
    | 19, hi => rfl
    | 20, hi => rfl
    | 21, hi => rfl
    | 22, hi => rfl
    | 23, hi => rfl
    | 24, hi => rfl
    | 25, hi => rfl
    | 26, hi => rfl
    | 27, hi => rfl
    | 28, hi => rfl
    | 29, hi => rfl
    | 30, hi => rfl
    | 31, hi => rfl
    | 32, hi => rfl
    | 33, hi => rfl
    | 34, hi => rfl
    | 35, hi => rfl
    | 36, hi => rfl
    | 37, hi => rfl
    | 38, hi => rfl
    | 39, hi => rfl
    | 40, hi => rfl
    | 41, hi => rfl
    | 42, hi => rfl
    | 43, hi => rfl
    | 44, hi => rfl
    | 45, hi => rfl
    | 46, hi => rfl
    | 47, hi => rfl
    | 48, hi => rfl
    | 49, hi => rfl
    | 50, hi => rfl
    | 51, hi => rfl
    | 52, hi => rfl
    | 53, hi => rfl
    | 54, hi => rfl
    | 55, hi => rfl
    | 56, hi => rfl
    | 57, hi => rfl
    | 58, hi => rfl
    | 59, hi => rfl
    | 60, hi => rfl
    | 61, hi => rfl
    | 62, hi => rfl
    | 63, hi => rfl
    | 64, hi => rfl
    | 65, hi => rfl
    | 66, hi => rfl
    | 67, hi => rfl
    | i + 68, hi => rfl) hl (fun _ h => h) rfl (ty := .int) rfl rfl rfl hv hdg kk
theorem pf_X12_9u  {x : Int32} {b : Bool} (X : CallFix p m c cc nL s args sg_tbl own) (hK : va_K D vwCl tys s) (hG : sgG (KU b P) D vwCl A tys ad ks H) (hS : va_S A H0 H locs) (ha : isK ad ks 12 a) (hl : Cond.fieldLink own index "LawnAheadModel" "ends" "I" ∈ sg_tbl) (hv : okV ad ks (.inl (0, 240)) (.int x)) (hdg : decode cc pc = .ok (.putfield index, 3)) (kk : ∀ (H1 : Heap) (locs1 : List Loc), sgG (KU b P) D vwCl A tys ad ks H1 → va_S A H0 H1 locs1 → fld D H1 12 a 9 (.int x) → sgFr (KU b P) D vwCl ad ks H H1 (fun a' j' => a' = a ∧ j' = 9) → W p l e R s m args below meth c H1 locs1 cells slots Q (F0 m (pc + 3) ls rest)) : W p l e R s m args below meth c H locs cells slots Q (F0 m pc ls (.int x :: .ref a :: rest)) :=
  sg_put X hK hG hS ha (k := 12) (ci := 12) rfl (C := RX12) (T := TX12) (N := 53) rfl inL_X12 tyX12 tyX12_ok nmX12 9 (by decide) rfl hl (fun _ h => h) rfl (ty := .int) rfl rfl rfl hv hdg kk
theorem pk_X12_34l  (hG : sgG (KL P) D vwCl A tys ad ks H) (ha : isK ad ks 12 a) : ∃ x : Int32, iv 0 3 x ∧ fld D H 12 a 34 (.int x) := by
  obtain ⟨v, hv, hf⟩ := sg_peek hG ha (k := 12) (ci := 12) rfl (r := (RX12, TX12, 53)) rfl 34 (show 34 < 53 by decide) rfl
  obtain ⟨x, rfl, hx⟩ := hv
  exact ⟨x, hx, hf⟩
theorem al_47  {i : Int32}  (X : CallFix p m c cc nL s args sg_tbl own) (hK : va_K D vwCl tys s) (hG : sgG (KT P) D vwCl A tys ad ks H) (ha : isK ad ks 47 a) (hin : vp_in i 4) (hdg : decode cc pc = .ok (.iaload, 1)) (kk : ∀ x : Int32, iv 0 240 x → W p l e R s m args below meth c H locs cells slots Q (F0 m (pc + 1) ls (.int x :: rest))) : W p l e R s m args below meth c H locs cells slots Q (F0 m pc ls (.int i :: .ref a :: rest)) :=
  sg_iald X hK hG ha (k := 47) rfl hin hdg (fun x hx => by obtain ⟨y, h1, h2⟩ := hx; cases h1; exact kk _ h2)
theorem al_48  {i : Int32}  (X : CallFix p m c cc nL s args sg_tbl own) (hK : va_K D vwCl tys s) (hG : sgG (KT P) D vwCl A tys ad ks H) (ha : isK ad ks 48 a) (hin : vp_in i 128) (hdg : decode cc pc = .ok (.iaload, 1)) (kk : ∀ x : Int32, iv 0 2147483647 x → W p l e R s m args below meth c H locs cells slots Q (F0 m (pc + 1) ls (.int x :: rest))) : W p l e R s m args below meth c H locs cells slots Q (F0 m pc ls (.int i :: .ref a :: rest)) :=
  sg_iald X hK hG ha (k := 48) rfl hin hdg (fun x hx => by obtain ⟨y, h1, h2⟩ := hx; cases h1; exact kk _ h2)
theorem al_55  {i : Int32}  (X : CallFix p m c cc nL s args sg_tbl own) (hK : va_K D vwCl tys s) (hG : sgG (KT P) D vwCl A tys ad ks H) (ha : isK ad ks 55 a) (hin : vp_in i 249) (hdg : decode cc pc = .ok (.iaload, 1)) (kk : ∀ x : Int32, okV ad ks ((sg_now (sgN P) : Nat → sgT) i.toNatClampNeg) (.int x) → W p l e R s m args below meth c H locs cells slots Q (F0 m (pc + 1) ls (.int x :: rest))) : W p l e R s m args below meth c H locs cells slots Q (F0 m pc ls (.int i :: .ref a :: rest)) :=
  sg_iald X hK hG ha (k := 55) rfl hin hdg kk
theorem al_56  {i : Int32}  (X : CallFix p m c cc nL s args sg_tbl own) (hK : va_K D vwCl tys s) (hG : sgG (KT P) D vwCl A tys ad ks H) (ha : isK ad ks 56 a) (hin : vp_in i 8191) (hdg : decode cc pc = .ok (.laload, 1)) (kk : ∀ x : Int64, W p l e R s m args below meth c H locs cells slots Q (F0 m (pc + 1) ls (.long x :: rest))) : W p l e R s m args below meth c H locs cells slots Q (F0 m pc ls (.int i :: .ref a :: rest)) :=
  sg_lald X hK hG ha (k := 56) rfl hin hdg kk
theorem al_57  {i : Int32}  (X : CallFix p m c cc nL s args sg_tbl own) (hK : va_K D vwCl tys s) (hG : sgG (KT P) D vwCl A tys ad ks H) (ha : isK ad ks 57 a) (hin : vp_in i 8191) (hdg : decode cc pc = .ok (.iaload, 1)) (kk : ∀ x : Int32, iv (-2147483648) 2147483647 x → W p l e R s m args below meth c H locs cells slots Q (F0 m (pc + 1) ls (.int x :: rest))) : W p l e R s m args below meth c H locs cells slots Q (F0 m pc ls (.int i :: .ref a :: rest)) :=
  sg_iald X hK hG ha (k := 57) rfl hin hdg (fun x hx => by obtain ⟨y, h1, h2⟩ := hx; cases h1; exact kk _ h2)
theorem as_48  {i : Int32} {x : Int32}  (X : CallFix p m c cc nL s args sg_tbl own) (hK : va_K D vwCl tys s) (hG : sgG (KT P) D vwCl A tys ad ks H) (hS : va_S A H0 H locs) (ha : isK ad ks 48 a) (hin : vp_in i 128) (hv : okV ad ks (.inl (0, 2147483647)) (.int x)) (hdg : decode cc pc = .ok (.iastore, 1)) (kk : ∀ (H1 : Heap) (locs1 : List Loc), sgG (KT P) D vwCl A tys ad ks H1 → va_S A H0 H1 locs1 → sgFr (KT P) D vwCl ad ks H H1 (fun _ _ => False) → W p l e R s m args below meth c H1 locs1 cells slots Q (F0 m (pc + 1) ls rest)) : W p l e R s m args below meth c H locs cells slots Q (F0 m pc ls (.int x :: .int i :: .ref a :: rest)) :=
  sg_iast X hK hG hS ha (k := 48) rfl hin hv hdg kk
theorem as_51r  {i : Int32} {x : Int32} {b : Bool} {d lo hi mr f : Int} (X : CallFix p m c cc nL s args sg_tbl own) (hK : va_K D vwCl tys s) (hG : sgG (KR b d lo hi mr f P) D vwCl A tys ad ks H) (hS : va_S A H0 H locs) (ha : isK ad ks 51 a) (hin : vp_in i 1) (hv : okV ad ks (.inl ((-2147483648), 2147483647)) (.int x)) (hdg : decode cc pc = .ok (.iastore, 1)) (kk : ∀ (H1 : Heap) (locs1 : List Loc), sgG (KR b d lo hi mr f P) D vwCl A tys ad ks H1 → va_S A H0 H1 locs1 → sgFr (KR b d lo hi mr f P) D vwCl ad ks H H1 (fun _ _ => False) → W p l e R s m args below meth c H1 locs1 cells slots Q (F0 m (pc + 1) ls rest)) : W p l e R s m args below meth c H locs cells slots Q (F0 m pc ls (.int x :: .int i :: .ref a :: rest)) :=
  sg_iast X hK hG hS ha (k := 51) rfl hin hv hdg kk
theorem as_52r  {i : Int32} {x : Int32} {b : Bool} {d lo hi mr f : Int} (X : CallFix p m c cc nL s args sg_tbl own) (hK : va_K D vwCl tys s) (hG : sgG (KR b d lo hi mr f P) D vwCl A tys ad ks H) (hS : va_S A H0 H locs) (ha : isK ad ks 52 a) (hin : vp_in i 320) (hv : okV ad ks ((sg_ga (sgG0 P) : Nat → sgT) i.toNatClampNeg) (.int x)) (hdg : decode cc pc = .ok (.iastore, 1)) (kk : ∀ (H1 : Heap) (locs1 : List Loc), sgG (KR b d lo hi mr f P) D vwCl A tys ad ks H1 → va_S A H0 H1 locs1 → sgFr (KR b d lo hi mr f P) D vwCl ad ks H H1 (fun _ _ => False) → W p l e R s m args below meth c H1 locs1 cells slots Q (F0 m (pc + 1) ls rest)) : W p l e R s m args below meth c H locs cells slots Q (F0 m pc ls (.int x :: .int i :: .ref a :: rest)) :=
  sg_iast X hK hG hS ha (k := 52) rfl hin hv hdg kk
theorem as_53r  {i : Int32} {x : Int32} {b : Bool} {d lo hi mr f : Int} (X : CallFix p m c cc nL s args sg_tbl own) (hK : va_K D vwCl tys s) (hG : sgG (KR b d lo hi mr f P) D vwCl A tys ad ks H) (hS : va_S A H0 H locs) (ha : isK ad ks 53 a) (hin : vp_in i 5) (hv : okV ad ks ((sg_gl (sgGl P) : Nat → sgT) i.toNatClampNeg) (.int x)) (hdg : decode cc pc = .ok (.iastore, 1)) (kk : ∀ (H1 : Heap) (locs1 : List Loc), sgG (KR b d lo hi mr f P) D vwCl A tys ad ks H1 → va_S A H0 H1 locs1 → sgFr (KR b d lo hi mr f P) D vwCl ad ks H H1 (fun _ _ => False) → W p l e R s m args below meth c H1 locs1 cells slots Q (F0 m (pc + 1) ls rest)) : W p l e R s m args below meth c H locs cells slots Q (F0 m pc ls (.int x :: .int i :: .ref a :: rest)) :=
  sg_iast X hK hG hS ha (k := 53) rfl hin hv hdg kk
theorem as_56  {i : Int32} {x : Int64}  (X : CallFix p m c cc nL s args sg_tbl own) (hK : va_K D vwCl tys s) (hG : sgG (KT P) D vwCl A tys ad ks H) (hS : va_S A H0 H locs) (ha : isK ad ks 56 a) (hin : vp_in i 8191)  (hdg : decode cc pc = .ok (.lastore, 1)) (kk : ∀ (H1 : Heap) (locs1 : List Loc), sgG (KT P) D vwCl A tys ad ks H1 → va_S A H0 H1 locs1 → sgFr (KT P) D vwCl ad ks H H1 (fun _ _ => False) → W p l e R s m args below meth c H1 locs1 cells slots Q (F0 m (pc + 1) ls rest)) : W p l e R s m args below meth c H locs cells slots Q (F0 m pc ls (.long x :: .int i :: .ref a :: rest)) :=
  sg_last X hK hG hS ha (k := 56) rfl hin hdg kk
theorem as_57  {i : Int32} {x : Int32}  (X : CallFix p m c cc nL s args sg_tbl own) (hK : va_K D vwCl tys s) (hG : sgG (KT P) D vwCl A tys ad ks H) (hS : va_S A H0 H locs) (ha : isK ad ks 57 a) (hin : vp_in i 8191) (hv : okV ad ks (.inl ((-2147483648), 2147483647)) (.int x)) (hdg : decode cc pc = .ok (.iastore, 1)) (kk : ∀ (H1 : Heap) (locs1 : List Loc), sgG (KT P) D vwCl A tys ad ks H1 → va_S A H0 H1 locs1 → sgFr (KT P) D vwCl ad ks H H1 (fun _ _ => False) → W p l e R s m args below meth c H1 locs1 cells slots Q (F0 m (pc + 1) ls rest)) : W p l e R s m args below meth c H locs cells slots Q (F0 m pc ls (.int x :: .int i :: .ref a :: rest)) :=
  sg_iast X hK hG hS ha (k := 57) rfl hin hv hdg kk
set_option maxHeartbeats 8000000 in
set_option maxRecDepth 100000 in
theorem m_X12_digit (l : Launch) {D : va_G} {base : Nat} {tys : List (ClassId × FieldType)} {ad ks : List Nat} {P : sgPm}{b : Bool} {d : Int} {lo mr f : Int}  (a0 : Nat) (h0 : isK ad ks 12 a0) (hlo : 0 ≤ lo ∧ lo ≤ 241 ∧ -1 ≤ f ∧ f ≤ 0 ∧ 0 ≤ mr) : sgMi l (KR b d lo 241 mr f P) D vwCl base tys ad ks yX12_digit cX12_digit 2 (some .int) ({ frames := 1, cells := 0, slots := 0, locals := 20 }) [.ref a0] (fun r : Int32 => True) := by
  refine sg_ofW (by decide +kernel) (Nat.le_of_ble_eq_true rfl) (fun p e s m below meth c X hr hlk hb hK hC hG ls hl => ?_)
  have hS : va_S (fun q : Nat => base ≤ q) s.heap s.heap [] := va_S.rf
  have hl : lv_has ls 2 [(0, .ref a0)] := hl
  refine lv_aload_n X.1 X.2.1 dX12_digit_0 rfl (lv_at hl 0 rfl) ?_
  refine ca_X12_look X hK hG hC hS hb a0 h0 ⟨by omega, by omega, by omega, by omega, by omega⟩ ⟨by omega, by omega, by omega⟩ wl_7_137 hl.1 (rest := []) rfl (Nat.le_of_ble_eq_true rfl) ⟨Nat.le_of_ble_eq_true rfl, Nat.le_of_ble_eq_true rfl⟩ ⟨Nat.le_of_ble_eq_true rfl, Nat.le_of_ble_eq_true rfl⟩ dX12_digit_1 (fun f1 tf1 H locs htf1 hf1 hWf1 hS => ?_)
  obtain ⟨hBf1, v2, kv2, hv2, lv2⟩ := hWf1
  have hG := hBf1.2.2.2
  rw [htf1] at hG kv2
  have ⟨lav2, uav2⟩ : lo ≤ v2.toInt ∧ v2.toInt ≤ 241 := hv2
  have hv2 : iv 0 241 v2 := ⟨by omega, by omega⟩
  refine lv_istore_n (lv' := [(1, .int f1), (0, .ref a0)]) X.1 X.2.1 dX12_digit_4 rfl hl (by decide) rfl (fun ls hl => ?_)
  refine lv_aload_n X.1 X.2.1 dX12_digit_5 rfl (lv_at hl 1 rfl) ?_
  refine ca_X12_isDigit X hK hG hC (fun _ h => h) hS hb a0 h0 ⟨by omega, by omega, by omega, by omega, by omega⟩ wl_7_187 hl.1 (rest := []) rfl (Nat.le_of_ble_eq_true rfl) ⟨Nat.le_of_ble_eq_true rfl, Nat.le_of_ble_eq_true rfl⟩ ⟨Nat.le_of_ble_eq_true rfl, Nat.le_of_ble_eq_true rfl⟩ dX12_digit_6 (fun f3 locs hf3 hS => ?_)
  have B5_24 : ∀ (locs : List Loc) (ls : Array Slot), va_S (fun q : Nat => base ≤ q) s.heap H locs → lv_has ls 2 [(0, .ref a0)] → W p l e (headSpec (Cond.code yX12_digit cX12_digit 2 (some .int) :: sg_tbl) ({ frames := 1, cells := 0, slots := 0, locals := 20 })).room s m #[.ref a0] below meth c H locs 0 0 (MQ below (va_Qi (fun r (_ : Unit) => (fun r : Int32 => True) r) (fun _ => sgB (KR b d lo 241 mr f P) D vwCl base tys ad ks) (fun q : Nat => base ≤ q)) #[.ref a0] s 0 0 (fun q : Nat => base ≤ q)) (F0 m 24 ls []) := by
    intro locs ls hS hl
    refine lv_aload_n X.1 X.2.1 dX12_digit_24 rfl (lv_at hl 0 rfl) ?_
    refine ca_X12_fails X hK hG hC hS hb a0 h0 ⟨by omega, by omega, by omega, by omega, by omega⟩ wl_7_141 hl.1 (rest := []) rfl (Nat.le_of_ble_eq_true rfl) ⟨Nat.le_of_ble_eq_true rfl, Nat.le_of_ble_eq_true rfl⟩ ⟨Nat.le_of_ble_eq_true rfl, Nat.le_of_ble_eq_true rfl⟩ dX12_digit_25 (fun f6 H locs hf6 hG hS => ?_)
    refine lv_pop X.1 X.2.1 dX12_digit_28 rfl ?_
    refine lv_iconst (v := 0) X.1 X.2.1 dX12_digit_29 (by decide +kernel) ?_
    exact sg_iret X hr hlk hb hK hC hG hS trivial dX12_digit_30
  refine lv_if_eq (tgt := 24) X.1 X.2.1 dX12_digit_9 (by decide) (fun c4 => ?_) (fun c4 => ?_)
  · exact B5_24 _ _ hS (lv_sub hl [1] rfl)
  · obtain ⟨v7, kv7, hv7⟩ := hf3.2 c4
    have ⟨lav7, uav7⟩ : lo ≤ v7.toInt ∧ v7.toInt ≤ 239 := hv7
    have hv7 : iv 0 239 v7 := ⟨by omega, uav7⟩
    refine lv_iload_n X.1 X.2.1 dX12_digit_12 rfl (lv_at hl 0 rfl) ?_
    refine lv_bipush (v := 49) X.1 X.2.1 dX12_digit_13 (by decide +kernel) ?_
    refine lv_icmp_lt (tgt := 24) X.1 X.2.1 dX12_digit_15 (by decide) (fun c8 => ?_) (fun c8 => ?_)
    · exact B5_24 _ _ hS (lv_sub hl [1] rfl)
    · refine lv_iload_n X.1 X.2.1 dX12_digit_18 rfl (lv_at hl 0 rfl) ?_
      refine lv_bipush (v := 53) X.1 X.2.1 dX12_digit_19 (by decide +kernel) ?_
      refine lv_icmp_le (tgt := 31) X.1 X.2.1 dX12_digit_21 (by decide) (fun c9 => ?_) (fun c9 => ?_)
      · refine lv_aload_n X.1 X.2.1 dX12_digit_31 rfl (lv_at hl 1 rfl) ?_
        refine lv_dup X.1 X.2.1 dX12_digit_32 rfl ?_
        refine gg_X12_10r X hK hG h0 wl_6_188 kv7 dX12_digit_33 ?_
        refine lv_iconst (v := 1) X.1 X.2.1 dX12_digit_36 (by decide +kernel) ?_
        refine lv_iadd X.1 X.2.1 dX12_digit_37 ?_
        refine lv_topi (fun f10 ef10 => ?_)
        have sf10 : f10.toInt = v7.toInt + 1 := sg_inc (k := 1) ef10 hv7 (by decide +kernel)
        have uf10 : f10.toInt ≤ 241 := Int.le_trans ((iv_add (a' := 1) (b' := 240) ef10 hv7 (iv_c 1 (a := 1) (b := 1) (by decide +kernel)) (by decide +kernel))).2 (by omega)
        refine pf_X12_10R (lo2 := f10.toInt) (hi2 := 241) X hK hG hS h0 wl_6_188 ⟨_, rfl, Int.le_refl _, uf10⟩ dX12_digit_38 (fun H locs hG hS => ?_)
        refine lv_iload_n X.1 X.2.1 dX12_digit_41 rfl (lv_at hl 0 rfl) ?_
        refine lv_bipush (v := 48) X.1 X.2.1 dX12_digit_42 (by decide +kernel) ?_
        refine lv_isub X.1 X.2.1 dX12_digit_44 ?_
        refine lv_topi (fun f11 ef11 => ?_)
        have hG := sgr_weak (d' := d) (lo' := lo) (hi' := 241) (f' := f) hG (by omega) (by omega) (by omega) (by omega)
        exact sg_iret X hr hlk hb hK hC hG hS trivial dX12_digit_45
      · exact B5_24 _ _ hS (lv_sub hl [1] rfl)

theorem ca_X12_digit  {b : Bool} {d : Int} {lo mr f : Int}  (X : CallFix p m c cc nL s args sg_tbl own) (hK : va_K D vwCl tys s) (hG : sgG (KR b d lo 241 mr f P) D vwCl (fun q : Nat => base ≤ q) tys ad ks H) (hC : sgC base s) (hS : va_S (fun q : Nat => base ≤ q) s.heap H locs) (hb : base ≤ s.heap.size) (a0 : Nat) (h0 : isK ad ks 12 a0) (hlo : 0 ≤ lo ∧ lo ≤ 241 ∧ -1 ≤ f ∧ f ≤ 0 ∧ 0 ≤ mr) (hl : Cond.methodLink own index yX12_digit ∈ sg_tbl) (hsize : ls.size = nL) (hst : st0 = [].reverse ++ .ref a0 :: rest) (hW : (rest.map fun v => v.category).sum ≤ 8) (hR : 2 ≤ R.frames ∧ 41 ≤ R.locals) (hf : cells ≤ R.cells ∧ slots ≤ R.slots) (hdg : decode cc pc = .ok (.invokevirtual index, 3)) (kk : ∀ (r : Int32) (H1 : Heap) (locs1 : List Loc), (fun r : Int32 => True) r → sgG (KR b d lo 241 mr f P) D vwCl (fun q : Nat => base ≤ q) tys ad ks H1 → va_S (fun q : Nat => base ≤ q) s.heap H1 locs1 → W p l e R s m args below meth c H1 locs1 cells slots Q (F0 m (pc + 3) ls (.int r :: rest))) : W p l e R s m args below meth c H locs cells slots Q (F0 m pc ls st0) :=
  sg_callVi X hK hG hC hS hb (m_X12_digit l a0 h0 hlo) h0 (k := 12) (ci := 12) rfl (C := RX12) (T := TX12) (N := 53) rfl wl_8_40 wl_1_13 wl_8_39 wl_0_71 (n := 0) (by decide +kernel) rfl rfl rfl hl hsize hst hW hR hf hdg kk

set_option maxHeartbeats 8000000 in
set_option maxRecDepth 100000 in
theorem m_X12_readItems_o (l : Launch) {D : va_G} {base : Nat} {tys : List (ClassId × FieldType)} {ad ks : List Nat} {P : sgPm}{b : Bool} {d : Int} {lo mr f : Int}  (ta tv : Nat) (tb : List Int32) (a0 : Nat) (h0 : isK ad ks 12 a0) (x1 : Int32) (a2 : Nat) (h2 : isK ad ks 51 a2) (hlo : 0 ≤ lo ∧ lo ≤ 241 ∧ -1 ≤ f ∧ f ≤ 0 ∧ 0 ≤ mr) (hd0 : 0 ≤ d) (htb : ∀ j : Nat, j < 1 → iv 0 127 (tb.getD j 0)) : Met l yX12_readItems (Cond.code yX12_readItems cX12_readItems 6 none :: sg_tbl) ({ frames := 5, cells := 0, slots := 0, locals := 107 }) (va_Pc [.ref a0, .int x1, .ref a2, .ref ta] (fun U => P_S ta tv 1 tb (fun q : Nat => base ≤ q) U ∧ sgB (KR b d lo 241 mr f P) D vwCl base tys ad ks U)) (va_Qv (fun (_ : Unit) => True) (fun _ => sgB (KR b d lo 241 mr f P) D vwCl base tys ad ks) (fun q : Nat => base ≤ q)) 0 0 (fun q : Nat => base ≤ q) := by
  refine sg_ofQ (by decide +kernel) (Nat.le_of_ble_eq_true rfl) (fun p e s m below meth c X hr hlk hb hK hC hG ls hl hp => ?_)
  have hS : va_S (fun q : Nat => base ≤ q) s.heap s.heap [] := va_S.rf
  have hl : lv_has ls 6 [(0, .ref a0), (1, .int x1), (2, .ref a2), (3, .ref ta)] := hl
  refine lv_iconst (v := 0) X.1 X.2.1 dX12_readItems_0 (by decide +kernel) ?_
  refine lv_istore (lv' := [(4, .int 0), (0, .ref a0), (1, .int x1), (2, .ref a2), (3, .ref ta)]) X.1 X.2.1 dX12_readItems_1 hl (by decide) rfl (fun ls hl => ?_)
  have B1_3 : ∀ (N : Nat) (H : Heap) (locs : List Loc) (ls : Array Slot) (z1_4 : Int32) (lo1 : Int), lo ≤ lo1 → lo1 ≤ 241 → sgG (KR b d lo1 241 mr f P) D vwCl (fun q : Nat => base ≤ q) tys ad ks H → va_S (fun q : Nat => base ≤ q) s.heap H locs → lv_has ls 6 [(0, .ref a0), (1, .int x1), (2, .ref a2), (3, .ref ta), (4, .int z1_4)] → iv 0 1 z1_4 → (2 - z1_4.toInt).toNat ≤ N → W p l e (headSpec (Cond.code yX12_readItems cX12_readItems 6 none :: sg_tbl) ({ frames := 5, cells := 0, slots := 0, locals := 107 })).room s m #[.ref a0, .int x1, .ref a2, .ref ta] below meth c H locs 0 0 (MQ below (va_Qv (fun (_ : Unit) => True) (fun _ => sgB (KR b d lo 241 mr f P) D vwCl base tys ad ks) (fun q : Nat => base ≤ q)) #[.ref a0, .int x1, .ref a2, .ref ta] s 0 0 (fun q : Nat => base ≤ q)) (F0 m 3 ls []) := by
    intro N; induction N with
    | zero =>
      intro H locs ls z1_4 lo1 jl1 jm1 hG hS hl hz1_4 hN
      exact absurd hN (by have := iv_up hz1_4; omega)
    | succ N ih1 =>
      intro H locs ls z1_4 lo1 jl1 jm1 hG hS hl hz1_4 hN1
      refine lv_iload X.1 X.2.1 dX12_readItems_3 (lv_at hl 4 rfl) ?_
      refine lv_aload_n X.1 X.2.1 dX12_readItems_5 rfl (lv_at hl 3 rfl) ?_
      refine ca_J0_length_8abf5_1 X hK (sgr_toKT hG (by omega) (by omega) (by omega)) hC (fun _ h => h) hS hb hp wl_7_150 hl.1 (rest := [.int z1_4]) rfl (Nat.le_of_ble_eq_true rfl) ⟨Nat.le_of_ble_eq_true rfl, Nat.le_of_ble_eq_true rfl⟩ ⟨Nat.le_of_ble_eq_true rfl, Nat.le_of_ble_eq_true rfl⟩ dX12_readItems_6 (fun f2 locs hf2 hS => ?_)
      refine lv_icmp_ge (tgt := 28) X.1 X.2.1 dX12_readItems_9 (by decide) (fun c3 => ?_) (fun c3 => ?_)
      · refine lv_iconst (v := 0) X.1 X.2.1 dX12_readItems_28 (by decide +kernel) ?_
        refine lv_istore (lv' := [(4, .int 0), (0, .ref a0), (1, .int x1), (2, .ref a2), (3, .ref ta)]) X.1 X.2.1 dX12_readItems_29 hl (by decide) rfl (fun ls hl => ?_)
        refine lv_aload_n X.1 X.2.1 dX12_readItems_31 rfl (lv_at hl 4 rfl) ?_
        refine lv_aload_n X.1 X.2.1 dX12_readItems_32 rfl (lv_at hl 1 rfl) ?_
        refine ca_X12_look X hK hG hC hS hb a0 h0 ⟨by omega, by omega, by omega, by omega, by omega⟩ ⟨by omega, by omega, by omega⟩ wl_7_137 hl.1 (rest := [.ref ta]) rfl (Nat.le_of_ble_eq_true rfl) ⟨Nat.le_of_ble_eq_true rfl, Nat.le_of_ble_eq_true rfl⟩ ⟨Nat.le_of_ble_eq_true rfl, Nat.le_of_ble_eq_true rfl⟩ dX12_readItems_33 (fun f4 tf4 H locs htf4 hf4 hWf4 hS => ?_)
        obtain ⟨hBf4, v5, kv5, hv5, lv5⟩ := hWf4
        have hG := hBf4.2.2.2
        rw [htf4] at hG kv5
        have ⟨lav5, uav5⟩ : lo1 ≤ v5.toInt ∧ v5.toInt ≤ 241 := hv5
        have hv5 : iv 0 241 v5 := ⟨by omega, by omega⟩
        refine ca_X12_spotOf_1 X hK (sgr_toKT hG (by omega) (by omega) (by omega)) hC (fun _ h => h) hS hb hp f4 htb wl_7_151 hl.1 (rest := []) rfl (Nat.le_of_ble_eq_true rfl) ⟨Nat.le_of_ble_eq_true rfl, Nat.le_of_ble_eq_true rfl⟩ ⟨Nat.le_of_ble_eq_true rfl, Nat.le_of_ble_eq_true rfl⟩ dX12_readItems_36 (fun f6 locs hf6 hS => ?_)
        refine lv_istore (lv' := [(5, .int f6), (4, .int 0), (0, .ref a0), (1, .int x1), (2, .ref a2), (3, .ref ta)]) X.1 X.2.1 dX12_readItems_39 hl (by decide) rfl (fun ls hl => ?_)
        refine lv_iload X.1 X.2.1 dX12_readItems_41 (lv_at hl 0 rfl) ?_
        refine lv_iconst (v := (-1)) X.1 X.2.1 dX12_readItems_43 (by decide +kernel) ?_
        refine lv_icmp_eq (tgt := 131) X.1 X.2.1 dX12_readItems_44 (by decide) (fun c7 => ?_) (fun c7 => ?_)
        · have hG := sgr_weak (d' := d) (lo' := lo) (hi' := 241) (f' := f) hG (by omega) (by omega) (by omega) (by omega)
          exact sg_vret2 X hr hlk hS (fun t ht hW => sg_post hb hK hC hG hS ht hW) dX12_readItems_131
        · refine lv_aload_n X.1 X.2.1 dX12_readItems_47 rfl (lv_at hl 2 rfl) ?_
          refine gf_X12_11r X hK hG h0 wl_6_189 dX12_readItems_48 (fun f8 hf8 kf8 => ?_)
          have ⟨laf8, uaf8⟩ : f ≤ f8.toInt ∧ f8.toInt ≤ 241 := hf8
          have hf8 : iv (-1) 241 f8 := ⟨by omega, by omega⟩
          refine lv_iconst (v := (-1)) X.1 X.2.1 dX12_readItems_51 (by decide +kernel) ?_
          refine lv_icmp_ne (tgt := 131) X.1 X.2.1 dX12_readItems_52 (by decide) (fun c9 => ?_) (fun c9 => ?_)
          · have hG := sgr_weak (d' := d) (lo' := lo) (hi' := 241) (f' := f) hG (by omega) (by omega) (by omega) (by omega)
            exact sg_vret2 X hr hlk hS (fun t ht hW => sg_post hb hK hC hG hS ht hW) dX12_readItems_131
          · have B10_55 : ∀ (N : Nat) (H : Heap) (locs : List Loc) (ls : Array Slot) (z10_4 : Int32) (z10_5 : Int32) (lo10 : Int), lo1 ≤ lo10 → lo10 ≤ 240 → sgG (KR b d lo10 240 mr f P) D vwCl (fun q : Nat => base ≤ q) tys ad ks H → va_S (fun q : Nat => base ≤ q) s.heap H locs → lv_has ls 6 [(0, .ref a0), (1, .int x1), (2, .ref a2), (3, .ref ta), (4, .int z10_4), (5, .int z10_5)] → iv 0 1 z10_4 → iv 0 0 z10_5 → (242 - lo10).toNat ≤ N → W p l e (headSpec (Cond.code yX12_readItems cX12_readItems 6 none :: sg_tbl) ({ frames := 5, cells := 0, slots := 0, locals := 107 })).room s m #[.ref a0, .int x1, .ref a2, .ref ta] below meth c H locs 0 0 (MQ below (va_Qv (fun (_ : Unit) => True) (fun _ => sgB (KR b d lo 241 mr f P) D vwCl base tys ad ks) (fun q : Nat => base ≤ q)) #[.ref a0, .int x1, .ref a2, .ref ta] s 0 0 (fun q : Nat => base ≤ q)) (F0 m 55 ls []) := by
              intro N; induction N with
              | zero =>
                intro H locs ls z10_4 z10_5 lo10 jl10 jm10 hG hS hl hz10_4 hz10_5 hN
                exact absurd hN (by have := jm10; omega)
              | succ N ih10 =>
                intro H locs ls z10_4 z10_5 lo10 jl10 jm10 hG hS hl hz10_4 hz10_5 hN10
                refine lv_iload X.1 X.2.1 dX12_readItems_55 (lv_at hl 4 rfl) ?_
                refine lv_iload X.1 X.2.1 dX12_readItems_57 (lv_at hl 5 rfl) ?_
                refine ca_X12_has X hK (sgr_toKT hG (by omega) (by omega) (by omega)) hC (fun _ h => h) hS hb z10_4 z10_5 wl_7_174 hl.1 (rest := []) rfl (Nat.le_of_ble_eq_true rfl) ⟨Nat.le_of_ble_eq_true rfl, Nat.le_of_ble_eq_true rfl⟩ ⟨Nat.le_of_ble_eq_true rfl, Nat.le_of_ble_eq_true rfl⟩ dX12_readItems_59 (fun f11 locs hf11 hS => ?_)
                refine lv_if_eq (tgt := 71) X.1 X.2.1 dX12_readItems_62 (by decide) (fun c12 => ?_) (fun c12 => ?_)
                · refine lv_iload X.1 X.2.1 dX12_readItems_71 (lv_at hl 4 rfl) ?_
                  refine lv_iconst (v := 1) X.1 X.2.1 dX12_readItems_73 (by decide +kernel) ?_
                  refine lv_iload X.1 X.2.1 dX12_readItems_74 (lv_at hl 5 rfl) ?_
                  refine lv_ishl X.1 X.2.1 dX12_readItems_76 ?_
                  refine lv_topi (fun f13 ef13 => ?_)
                  refine lv_ior X.1 X.2.1 dX12_readItems_77 ?_
                  refine lv_topi (fun f14 ef14 => ?_)
                  refine lv_istore (lv' := [(4, .int f14), (0, .ref a0), (1, .int x1), (2, .ref a2), (3, .ref ta), (5, .int z10_5)]) X.1 X.2.1 dX12_readItems_78 hl (by decide) rfl (fun ls hl => ?_)
                  refine lv_aload_n X.1 X.2.1 dX12_readItems_80 rfl (lv_at hl 1 rfl) ?_
                  refine lv_dup X.1 X.2.1 dX12_readItems_81 rfl ?_
                  refine gf_X12_10r X hK hG h0 wl_6_188 dX12_readItems_82 (fun f15 hf15 kf15 => ?_)
                  have ⟨laf15, uaf15⟩ : lo10 ≤ f15.toInt ∧ f15.toInt ≤ 240 := hf15
                  have hf15 : iv 0 240 f15 := ⟨by omega, by omega⟩
                  refine lv_iconst (v := 1) X.1 X.2.1 dX12_readItems_85 (by decide +kernel) ?_
                  refine lv_iadd X.1 X.2.1 dX12_readItems_86 ?_
                  refine lv_topi (fun f16 ef16 => ?_)
                  have sf16 : f16.toInt = f15.toInt + 1 := sg_inc (k := 1) ef16 hf15 (by decide +kernel)
                  have uf16 : f16.toInt ≤ 241 := Int.le_trans ((iv_add (a' := 1) (b' := 241) ef16 hf15 (iv_c 1 (a := 1) (b := 1) (by decide +kernel)) (by decide +kernel))).2 (by omega)
                  refine pf_X12_10R (lo2 := f16.toInt) (hi2 := 241) X hK hG hS h0 wl_6_188 ⟨_, rfl, Int.le_refl _, uf16⟩ dX12_readItems_87 (fun H locs hG hS => ?_)
                  refine lv_aload_n X.1 X.2.1 dX12_readItems_90 rfl (lv_at hl 3 rfl) ?_
                  refine lv_iload X.1 X.2.1 dX12_readItems_91 (lv_at hl 5 rfl) ?_
                  refine lv_aload_n X.1 X.2.1 dX12_readItems_93 rfl (lv_at hl 1 rfl) ?_
                  refine lv_iload_n X.1 X.2.1 dX12_readItems_94 rfl (lv_at hl 2 rfl) ?_
                  refine lv_iload X.1 X.2.1 dX12_readItems_95 (lv_at hl 5 rfl) ?_
                  refine ca_X12_leastOf X hK (sgr_toKT hG (by omega) (by omega) (by omega)) hC (fun _ h => h) hS hb x1 z10_5 wl_7_177 hl.1 (rest := [.ref a0, .int z10_5, .ref a2]) rfl (Nat.le_of_ble_eq_true rfl) ⟨Nat.le_of_ble_eq_true rfl, Nat.le_of_ble_eq_true rfl⟩ ⟨Nat.le_of_ble_eq_true rfl, Nat.le_of_ble_eq_true rfl⟩ dX12_readItems_97 (fun f17 locs hf17 hS => ?_)
                  refine lv_iload_n X.1 X.2.1 dX12_readItems_100 rfl (lv_at hl 2 rfl) ?_
                  refine lv_iload X.1 X.2.1 dX12_readItems_101 (lv_at hl 5 rfl) ?_
                  refine ca_X12_mostOf X hK (sgr_toKT hG (by omega) (by omega) (by omega)) hC (fun _ h => h) hS hb x1 z10_5 wl_7_180 hl.1 (rest := [.int f17, .ref a0, .int z10_5, .ref a2]) rfl (Nat.le_of_ble_eq_true rfl) ⟨Nat.le_of_ble_eq_true rfl, Nat.le_of_ble_eq_true rfl⟩ ⟨Nat.le_of_ble_eq_true rfl, Nat.le_of_ble_eq_true rfl⟩ dX12_readItems_103 (fun f18 locs hf18 hS => ?_)
                  refine ca_X12_number X hK hG hC hS hb a0 h0 f17 f18 ⟨by omega, by omega, by omega, by omega, by omega⟩ (by omega) wl_7_183 hl.1 (rest := [.int z10_5, .ref a2]) rfl (Nat.le_of_ble_eq_true rfl) ⟨Nat.le_of_ble_eq_true rfl, Nat.le_of_ble_eq_true rfl⟩ ⟨Nat.le_of_ble_eq_true rfl, Nat.le_of_ble_eq_true rfl⟩ dX12_readItems_106 (fun f19 H locs hf19 hG hS => ?_)
                  refine as_51r X hK hG hS h2 (iv_vpin hz10_5 (by decide +kernel)) ⟨_, rfl, (iv_top _)⟩ dX12_readItems_109 (fun H locs hG hS ru20 => ?_)
                  refine lv_aload_n X.1 X.2.1 dX12_readItems_110 rfl (lv_at hl 1 rfl) ?_
                  refine gf_X12_11r X hK hG h0 wl_6_189 dX12_readItems_111 (fun f21 hf21 kf21 => ?_)
                  have ⟨laf21, uaf21⟩ : f ≤ f21.toInt ∧ f21.toInt ≤ 241 := hf21
                  have hf21 : iv (-1) 241 f21 := ⟨by omega, by omega⟩
                  refine lv_iconst (v := (-1)) X.1 X.2.1 dX12_readItems_114 (by decide +kernel) ?_
                  refine lv_icmp_ne (tgt := 41) X.1 X.2.1 dX12_readItems_115 (by decide) (fun c22 => ?_) (fun c22 => ?_)
                  · refine lv_iload X.1 X.2.1 dX12_readItems_41 (lv_at hl 5 rfl) ?_
                    refine lv_iconst (v := (-1)) X.1 X.2.1 dX12_readItems_43 (by decide +kernel) ?_
                    refine lv_icmp_eq (tgt := 131) X.1 X.2.1 dX12_readItems_44 (by decide) (fun c23 => ?_) (fun c23 => ?_)
                    · exact ((iv_no (a := 0) (b := (-1)) (iv_eqm c23 hz10_5 (iv_c (-1) (a := (-1)) (b := (-1)) (by decide +kernel)) (by decide +kernel)) (by decide +kernel))).elim
                    · refine lv_aload_n X.1 X.2.1 dX12_readItems_47 rfl (lv_at hl 1 rfl) ?_
                      refine gg_X12_11r X hK hG h0 wl_6_189 kf21 dX12_readItems_48 ?_
                      refine lv_iconst (v := (-1)) X.1 X.2.1 dX12_readItems_51 (by decide +kernel) ?_
                      refine lv_icmp_ne (tgt := 131) X.1 X.2.1 dX12_readItems_52 (by decide) (fun c24 => ?_) (fun c24 => ?_)
                      · have hG := sgr_weak (d' := d) (lo' := lo) (hi' := 241) (f' := f) hG (by omega) (by omega) (by omega) (by omega)
                        exact sg_vret2 X hr hlk hS (fun t ht hW => sg_post hb hK hC hG hS ht hW) dX12_readItems_131
                      · exact ((iv_no (a := 0) (b := (-1)) (iv_eqm c24 (iv_ne_lo (a' := 0) c22 hf21 (by decide +kernel)) (iv_c (-1) (a := (-1)) (b := (-1)) (by decide +kernel)) (by decide +kernel)) (by decide +kernel))).elim
                  · refine lv_aload_n X.1 X.2.1 dX12_readItems_118 rfl (lv_at hl 4 rfl) ?_
                    refine lv_aload_n X.1 X.2.1 dX12_readItems_119 rfl (lv_at hl 1 rfl) ?_
                    refine ca_X12_look X hK hG hC hS hb a0 h0 ⟨by omega, by omega, by omega, by omega, by omega⟩ ⟨by omega, by omega, by omega⟩ wl_7_137 hl.1 (rest := [.ref ta]) rfl (Nat.le_of_ble_eq_true rfl) ⟨Nat.le_of_ble_eq_true rfl, Nat.le_of_ble_eq_true rfl⟩ ⟨Nat.le_of_ble_eq_true rfl, Nat.le_of_ble_eq_true rfl⟩ dX12_readItems_120 (fun f25 tf25 H locs htf25 hf25 hWf25 hS => ?_)
                    obtain ⟨hBf25, v26, kv26, hv26, lv26⟩ := hWf25
                    have hG := hBf25.2.2.2
                    rw [htf25] at hG kv26
                    have ⟨lav26, uav26⟩ : f16.toInt ≤ v26.toInt ∧ v26.toInt ≤ 241 := hv26
                    have hv26 : iv 0 241 v26 := ⟨by omega, by omega⟩
                    refine ca_X12_spotOf_1 X hK (sgr_toKT hG (by omega) (by omega) (by omega)) hC (fun _ h => h) hS hb hp f25 htb wl_7_151 hl.1 (rest := []) rfl (Nat.le_of_ble_eq_true rfl) ⟨Nat.le_of_ble_eq_true rfl, Nat.le_of_ble_eq_true rfl⟩ ⟨Nat.le_of_ble_eq_true rfl, Nat.le_of_ble_eq_true rfl⟩ dX12_readItems_123 (fun f27 locs hf27 hS => ?_)
                    refine lv_istore (lv' := [(5, .int f27), (4, .int f14), (0, .ref a0), (1, .int x1), (2, .ref a2), (3, .ref ta)]) X.1 X.2.1 dX12_readItems_126 hl (by decide) rfl (fun ls hl => ?_)
                    refine lv_goto (tgt := 41) X.1 X.2.1 dX12_readItems_128 (by decide) ?_
                    refine lv_iload X.1 X.2.1 dX12_readItems_41 (lv_at hl 0 rfl) ?_
                    refine lv_iconst (v := (-1)) X.1 X.2.1 dX12_readItems_43 (by decide +kernel) ?_
                    refine lv_icmp_eq (tgt := 131) X.1 X.2.1 dX12_readItems_44 (by decide) (fun c28 => ?_) (fun c28 => ?_)
                    · have hG := sgr_weak (d' := d) (lo' := lo) (hi' := 241) (f' := f) hG (by omega) (by omega) (by omega) (by omega)
                      exact sg_vret2 X hr hlk hS (fun t ht hW => sg_post hb hK hC hG hS ht hW) dX12_readItems_131
                    · refine lv_aload_n X.1 X.2.1 dX12_readItems_47 rfl (lv_at hl 2 rfl) ?_
                      refine gf_X12_11r X hK hG h0 wl_6_189 dX12_readItems_48 (fun f29 hf29 kf29 => ?_)
                      have ⟨laf29, uaf29⟩ : f ≤ f29.toInt ∧ f29.toInt ≤ 241 := hf29
                      have hf29 : iv (-1) 241 f29 := ⟨by omega, by omega⟩
                      refine lv_iconst (v := (-1)) X.1 X.2.1 dX12_readItems_51 (by decide +kernel) ?_
                      refine lv_icmp_ne (tgt := 131) X.1 X.2.1 dX12_readItems_52 (by decide) (fun c30 => ?_) (fun c30 => ?_)
                      · have hG := sgr_weak (d' := d) (lo' := lo) (hi' := 241) (f' := f) hG (by omega) (by omega) (by omega) (by omega)
                        exact sg_vret2 X hr hlk hS (fun t ht hW => sg_post hb hK hC hG hS ht hW) dX12_readItems_131
                      · have uss31 : v26.toInt ≤ 240 := ((iv_of (sg_lk (sg_spot (iv_ne_lo (a' := 0) c28 hf27.1 (by decide +kernel)) hf27.2) lv26 hv26) (a' := 0) (b' := 240) (by decide +kernel))).2
                        have hG := sgr_str (lo' := v26.toInt) (hi' := 240) hG h0 kv26 ⟨Int.le_refl _, ((iv_of (sg_lk (sg_spot (iv_ne_lo (a' := 0) c28 hf27.1 (by decide +kernel)) hf27.2) lv26 hv26) (a' := 0) (b' := 240) (by decide +kernel))).2⟩
                        exact ih10 H _ _ f14 f27 v26.toInt (by omega) (by omega) hG hS (lv_sub hl [2, 3, 4, 5, 1, 0] rfl) (iv_of (iv_or 1 ef14 hz10_4 (sg_shl1 ef13 hz10_5 (by decide +kernel)) (by decide +kernel)) (a' := 0) (b' := 1) (by decide +kernel)) (iv_ne_lo (a' := 0) c28 hf27.1 (by decide +kernel)) (by omega)
                · refine lv_aload_n X.1 X.2.1 dX12_readItems_65 rfl (lv_at hl 0 rfl) ?_
                  have hG := sgr_weak (d' := d) (lo' := lo10) (hi' := 241) (f' := f) hG (by omega) (by omega) (by omega) (by omega)
                  refine ca_X12_fails X hK hG hC hS hb a0 h0 ⟨by omega, by omega, by omega, by omega, by omega⟩ wl_7_141 hl.1 (rest := []) rfl (Nat.le_of_ble_eq_true rfl) ⟨Nat.le_of_ble_eq_true rfl, Nat.le_of_ble_eq_true rfl⟩ ⟨Nat.le_of_ble_eq_true rfl, Nat.le_of_ble_eq_true rfl⟩ dX12_readItems_66 (fun f32 H locs hf32 hG hS => ?_)
                  refine lv_pop X.1 X.2.1 dX12_readItems_69 rfl ?_
                  have hG := sgr_weak (d' := d) (lo' := lo) (hi' := 241) (f' := f) hG (by omega) (by omega) (by omega) (by omega)
                  exact sg_vret2 X hr hlk hS (fun t ht hW => sg_post hb hK hC hG hS ht hW) dX12_readItems_70
            have uss33 : v5.toInt ≤ 240 := ((iv_of (sg_lk (sg_spot (iv_ne_lo (a' := 0) c7 hf6.1 (by decide +kernel)) hf6.2) lv5 hv5) (a' := 0) (b' := 240) (by decide +kernel))).2
            have hG := sgr_str (lo' := v5.toInt) (hi' := 240) hG h0 kv5 ⟨Int.le_refl _, ((iv_of (sg_lk (sg_spot (iv_ne_lo (a' := 0) c7 hf6.1 (by decide +kernel)) hf6.2) lv5 hv5) (a' := 0) (b' := 240) (by decide +kernel))).2⟩
            exact B10_55 _ H _ _ 0 f6 v5.toInt (by omega) (by omega) hG hS (lv_sub hl [2, 3, 4, 5, 1, 0] rfl) (iv_of (iv_c 0 (a := 0) (b := 0) (by decide +kernel)) (a' := 0) (b' := 1) (by decide +kernel)) (iv_ne_lo (a' := 0) c7 hf6.1 (by decide +kernel)) (Nat.le_refl _)
      · refine lv_aload_n X.1 X.2.1 dX12_readItems_12 rfl (lv_at hl 2 rfl) ?_
        refine lv_iload X.1 X.2.1 dX12_readItems_13 (lv_at hl 4 rfl) ?_
        refine lv_iload_n X.1 X.2.1 dX12_readItems_15 rfl (lv_at hl 1 rfl) ?_
        refine lv_iload X.1 X.2.1 dX12_readItems_16 (lv_at hl 4 rfl) ?_
        refine ca_X12_usual X hK (sgr_toKT hG (by omega) (by omega) (by omega)) hC (fun _ h => h) hS hb x1 z1_4 wl_7_130 hl.1 (rest := [.int z1_4, .ref a2]) rfl (Nat.le_of_ble_eq_true rfl) ⟨Nat.le_of_ble_eq_true rfl, Nat.le_of_ble_eq_true rfl⟩ ⟨Nat.le_of_ble_eq_true rfl, Nat.le_of_ble_eq_true rfl⟩ dX12_readItems_18 (fun f34 locs hf34 hS => ?_)
        refine as_51r X hK hG hS h2 (iv_vpin (iv_lt (b' := 0) (iv_gt_of c3) hz1_4 hf2 (by decide +kernel)) (by decide +kernel)) ⟨_, rfl, (iv_top _)⟩ dX12_readItems_21 (fun H locs hG hS ru35 => ?_)
        obtain ⟨y36, ey36⟩ : ∃ y : Int32, y = z1_4 + Int32.ofInt 1 := ⟨_, rfl⟩
        refine lv_iinc (v := y36) (lv' := [(4, .int y36), (0, .ref a0), (1, .int x1), (2, .ref a2), (3, .ref ta)]) X.1 X.2.1 dX12_readItems_22 hl (k := 4) rfl ey36.symm (by decide) rfl (fun ls hl => ?_)
        refine lv_goto (tgt := 3) X.1 X.2.1 dX12_readItems_25 (by decide) ?_
        exact ih1 H _ _ y36 lo1 (by omega) (by omega) hG hS (lv_sub hl [1, 2, 3, 4, 0] rfl) (iv_of (iv_add (a' := 1) (b' := 1) ey36 (iv_lt (b' := 0) (iv_gt_of c3) hz1_4 hf2 (by decide +kernel)) (iv_c _ (a := 1) (b := 1) (by decide +kernel)) (by decide +kernel)) (a' := 0) (b' := 1) (by decide +kernel)) (iv_stepU ey36 (iv_lt (b' := 0) (iv_gt_of c3) hz1_4 hf2 (by decide +kernel)) (by decide +kernel) hN1)
  exact B1_3 _ s.heap _ _ 0 lo (by omega) (by omega) hG hS (lv_sub hl [1, 2, 3, 4, 0] rfl) (iv_of (iv_c 0 (a := 0) (b := 0) (by decide +kernel)) (a' := 0) (b' := 1) (by decide +kernel)) (Nat.le_refl _)

theorem ca_X12_readItems_o  {b : Bool} {d : Int} {lo mr f : Int}  (X : CallFix p m c cc nL s args sg_tbl own) (hK : va_K D vwCl tys s) (hG : sgG (KR b d lo 241 mr f P) D vwCl (fun q : Nat => base ≤ q) tys ad ks H) (hC : sgC base s) (hS : va_S (fun q : Nat => base ≤ q) s.heap H locs)  (hb : base ≤ s.heap.size) {ta tv : Nat} {tb : List Int32} (hp : P_S ta tv 1 tb (fun q : Nat => base ≤ q) s) (a0 : Nat) (h0 : isK ad ks 12 a0) (x1 : Int32) (a2 : Nat) (h2 : isK ad ks 51 a2) (hlo : 0 ≤ lo ∧ lo ≤ 241 ∧ -1 ≤ f ∧ f ≤ 0 ∧ 0 ≤ mr) (hd0 : 0 ≤ d) (htb : ∀ j : Nat, j < 1 → iv 0 127 (tb.getD j 0)) (hl : Cond.methodLink own index yX12_readItems ∈ sg_tbl) (hsize : ls.size = nL) (hst : st0 = [.int x1, .ref a2, .ref ta].reverse ++ .ref a0 :: rest) (hW : (rest.map fun v => v.category).sum ≤ 8) (hR : 6 ≤ R.frames ∧ 132 ≤ R.locals) (hf : cells ≤ R.cells ∧ slots ≤ R.slots) (hdg : decode cc pc = .ok (.invokevirtual index, 3)) (kk : ∀ (t : State) (H1 : Heap) (locs1 : List Loc), t.heap = H1 → (sgB (KR b d lo 241 mr f P) D vwCl base tys ad ks t) → va_S (fun q : Nat => base ≤ q) s.heap H1 locs1 → W p l e R s m args below meth c H1 locs1 cells slots Q (F0 m (pc + 3) ls rest)) : W p l e R s m args below meth c H locs cells slots Q (F0 m pc ls st0) :=
  sg_callQv X hK hG hC hS hb hp (m_X12_readItems_o l ta tv tb a0 h0 x1 a2 h2 hlo hd0 htb) h0 (k := 12) (ci := 12) rfl (C := RX12) (T := TX12) (N := 53) rfl wl_7_149 wl_1_13 wl_7_148 wl_0_54 (n := 3) (by decide +kernel) rfl rfl rfl hl hsize hst hW hR hf hdg kk

set_option maxHeartbeats 8000000 in
set_option maxRecDepth 100000 in
theorem m_X12_readMove (l : Launch) {D : va_G} {base : Nat} {tys : List (ClassId × FieldType)} {ad ks : List Nat} {P : sgPm}{b : Bool} {d : Int} {lo mr f : Int}  (a0 : Nat) (h0 : isK ad ks 12 a0) (x1 : Int32) (h1 : iv 256 316 x1) (hlo : 0 ≤ lo ∧ lo ≤ 241 ∧ -1 ≤ f ∧ f ≤ 0 ∧ 0 ≤ mr) (hd0 : 0 ≤ d) : sgMv l (KR b d lo 241 mr f P) D vwCl base tys ad ks yX12_readMove cX12_readMove 4 none ({ frames := 5, cells := 0, slots := 0, locals := 107 }) [.ref a0, .int x1] := by
  refine sg_ofW (by decide +kernel) (Nat.le_of_ble_eq_true rfl) (fun p e s m below meth c X hr hlk hb hK hC hG ls hl => ?_)
  have hS : va_S (fun q : Nat => base ≤ q) s.heap s.heap [] := va_S.rf
  have hl : lv_has ls 4 [(0, .ref a0), (1, .int x1)] := hl
  obtain ⟨t1, vt1, pt1, rt1⟩ := hC.2.2.2.2.2.1
  refine va_ldcSW X.1 X.2.1 X.2.2.2.1 rt1 dX12_readMove_0 ?_
  refine lv_aload_n X.1 X.2.1 dX12_readMove_3 rfl (lv_at hl 0 rfl) ?_
  refine ca_X12_look X hK hG hC hS hb a0 h0 ⟨by omega, by omega, by omega, by omega, by omega⟩ ⟨by omega, by omega, by omega⟩ wl_7_137 hl.1 (rest := [.ref t1]) rfl (Nat.le_of_ble_eq_true rfl) ⟨Nat.le_of_ble_eq_true rfl, Nat.le_of_ble_eq_true rfl⟩ ⟨Nat.le_of_ble_eq_true rfl, Nat.le_of_ble_eq_true rfl⟩ dX12_readMove_4 (fun f2 tf2 H locs htf2 hf2 hWf2 hS => ?_)
  obtain ⟨hBf2, v3, kv3, hv3, lv3⟩ := hWf2
  have hG := hBf2.2.2.2
  rw [htf2] at hG kv3
  have ⟨lav3, uav3⟩ : lo ≤ v3.toInt ∧ v3.toInt ≤ 241 := hv3
  have hv3 : iv 0 241 v3 := ⟨by omega, by omega⟩
  refine ca_X12_spotOf_4 X hK (sgr_toKT hG (by omega) (by omega) (by omega)) hC (fun _ h => h) hS hb pt1 f2 (sg_htb (by decide +kernel)) wl_7_151 hl.1 (rest := []) rfl (Nat.le_of_ble_eq_true rfl) ⟨Nat.le_of_ble_eq_true rfl, Nat.le_of_ble_eq_true rfl⟩ ⟨Nat.le_of_ble_eq_true rfl, Nat.le_of_ble_eq_true rfl⟩ dX12_readMove_7 (fun f4 locs hf4 hS => ?_)
  refine lv_istore_n (lv' := [(2, .int f4), (0, .ref a0), (1, .int x1)]) X.1 X.2.1 dX12_readMove_10 rfl hl (by decide) rfl (fun ls hl => ?_)
  refine lv_iload_n X.1 X.2.1 dX12_readMove_11 rfl (lv_at hl 0 rfl) ?_
  refine lv_iconst (v := (-1)) X.1 X.2.1 dX12_readMove_12 (by decide +kernel) ?_
  refine lv_icmp_ne (tgt := 22) X.1 X.2.1 dX12_readMove_13 (by decide) (fun c5 => ?_) (fun c5 => ?_)
  · refine lv_aload_n X.1 X.2.1 dX12_readMove_22 rfl (lv_at hl 1 rfl) ?_
    refine lv_dup X.1 X.2.1 dX12_readMove_23 rfl ?_
    refine gg_X12_10r X hK hG h0 wl_6_188 kv3 dX12_readMove_24 ?_
    refine lv_iconst (v := 1) X.1 X.2.1 dX12_readMove_27 (by decide +kernel) ?_
    refine lv_iadd X.1 X.2.1 dX12_readMove_28 ?_
    refine lv_topi (fun f6 ef6 => ?_)
    have sf6 : f6.toInt = v3.toInt + 1 := sg_inc (k := 1) ef6 (sg_lk (sg_spot (iv_ne_lo (a' := 0) c5 hf4.1 (by decide +kernel)) hf4.2) lv3 hv3) (by decide +kernel)
    have uf6 : f6.toInt ≤ 241 := Int.le_trans ((iv_add (a' := 1) (b' := 240) ef6 (sg_lk (sg_spot (iv_ne_lo (a' := 0) c5 hf4.1 (by decide +kernel)) hf4.2) lv3 hv3) (iv_c 1 (a := 1) (b := 1) (by decide +kernel)) (by decide +kernel))).2 (by omega)
    refine pf_X12_10R (lo2 := f6.toInt) (hi2 := 241) X hK hG hS h0 wl_6_188 ⟨_, rfl, Int.le_refl _, uf6⟩ dX12_readMove_29 (fun H locs hG hS => ?_)
    refine lv_aload_n X.1 X.2.1 dX12_readMove_32 rfl (lv_at hl 1 rfl) ?_
    refine gf_X12_21r X hK hG h0 wl_6_199 dX12_readMove_33 (fun q7 hq7 kq7 => ?_)
    refine lv_iload_n X.1 X.2.1 dX12_readMove_36 rfl (lv_at hl 2 rfl) ?_
    refine lv_iload_n X.1 X.2.1 dX12_readMove_37 rfl (lv_at hl 0 rfl) ?_
    refine as_52r X hK hG hS hq7 (iv_vpin h1 (by decide +kernel)) (sg_gal h1 (by decide +kernel)) dX12_readMove_38 (fun H locs hG hS ru8 => ?_)
    refine lv_aload_n X.1 X.2.1 dX12_readMove_39 rfl (lv_at hl 1 rfl) ?_
    refine gg_X12_21r X hK hG h0 wl_6_199 (ru8 _ _ _ _ _ _ _ h0 rfl rfl (by decide) (fun z => z.elim) kq7) dX12_readMove_40 ?_
    refine lv_iload_n X.1 X.2.1 dX12_readMove_43 rfl (lv_at hl 2 rfl) ?_
    refine lv_iconst (v := 1) X.1 X.2.1 dX12_readMove_44 (by decide +kernel) ?_
    refine lv_iadd X.1 X.2.1 dX12_readMove_45 ?_
    refine lv_topi (fun f9 ef9 => ?_)
    refine lv_iconst (v := (-1)) X.1 X.2.1 dX12_readMove_46 (by decide +kernel) ?_
    refine as_52r X hK hG hS hq7 (iv_vpin (iv_add (a' := 257) (b' := 317) ef9 h1 (iv_c 1 (a := 1) (b := 1) (by decide +kernel)) (by decide +kernel)) (by decide +kernel)) (sg_gal (iv_add (a' := 257) (b' := 317) ef9 h1 (iv_c 1 (a := 1) (b := 1) (by decide +kernel)) (by decide +kernel)) (by decide +kernel)) dX12_readMove_47 (fun H locs hG hS ru10 => ?_)
    refine lv_aload_n X.1 X.2.1 dX12_readMove_48 rfl (lv_at hl 1 rfl) ?_
    refine gg_X12_21r X hK hG h0 wl_6_199 (ru10 _ _ _ _ _ _ _ h0 rfl rfl (by decide) (fun z => z.elim) (ru8 _ _ _ _ _ _ _ h0 rfl rfl (by decide) (fun z => z.elim) kq7)) dX12_readMove_49 ?_
    refine lv_iload_n X.1 X.2.1 dX12_readMove_52 rfl (lv_at hl 2 rfl) ?_
    refine lv_iconst (v := 2) X.1 X.2.1 dX12_readMove_53 (by decide +kernel) ?_
    refine lv_iadd X.1 X.2.1 dX12_readMove_54 ?_
    refine lv_topi (fun f11 ef11 => ?_)
    refine lv_iconst (v := 0) X.1 X.2.1 dX12_readMove_55 (by decide +kernel) ?_
    refine as_52r X hK hG hS hq7 (iv_vpin (iv_add (a' := 258) (b' := 318) ef11 h1 (iv_c 2 (a := 2) (b := 2) (by decide +kernel)) (by decide +kernel)) (by decide +kernel)) (sg_gal (iv_add (a' := 258) (b' := 318) ef11 h1 (iv_c 2 (a := 2) (b := 2) (by decide +kernel)) (by decide +kernel)) (by decide +kernel)) dX12_readMove_56 (fun H locs hG hS ru12 => ?_)
    refine lv_aload_n X.1 X.2.1 dX12_readMove_57 rfl (lv_at hl 1 rfl) ?_
    refine gg_X12_21r X hK hG h0 wl_6_199 (ru12 _ _ _ _ _ _ _ h0 rfl rfl (by decide) (fun z => z.elim) (ru10 _ _ _ _ _ _ _ h0 rfl rfl (by decide) (fun z => z.elim) (ru8 _ _ _ _ _ _ _ h0 rfl rfl (by decide) (fun z => z.elim) kq7))) dX12_readMove_58 ?_
    refine lv_iload_n X.1 X.2.1 dX12_readMove_61 rfl (lv_at hl 2 rfl) ?_
    refine lv_iconst (v := 3) X.1 X.2.1 dX12_readMove_62 (by decide +kernel) ?_
    refine lv_iadd X.1 X.2.1 dX12_readMove_63 ?_
    refine lv_topi (fun f13 ef13 => ?_)
    refine lv_iconst (v := 0) X.1 X.2.1 dX12_readMove_64 (by decide +kernel) ?_
    refine as_52r X hK hG hS hq7 (iv_vpin (iv_add (a' := 259) (b' := 319) ef13 h1 (iv_c 3 (a := 3) (b := 3) (by decide +kernel)) (by decide +kernel)) (by decide +kernel)) (sg_gal (iv_add (a' := 259) (b' := 319) ef13 h1 (iv_c 3 (a := 3) (b := 3) (by decide +kernel)) (by decide +kernel)) (by decide +kernel)) dX12_readMove_65 (fun H locs hG hS ru14 => ?_)
    refine lv_iload_n X.1 X.2.1 dX12_readMove_66 rfl (lv_at hl 0 rfl) ?_
    refine lv_iconst (v := 3) X.1 X.2.1 dX12_readMove_67 (by decide +kernel) ?_
    refine lv_icmp_ne (tgt := 72) X.1 X.2.1 dX12_readMove_68 (by decide) (fun c15 => ?_) (fun c15 => ?_)
    · refine lv_iload_n X.1 X.2.1 dX12_readMove_72 rfl (lv_at hl 0 rfl) ?_
      have B17_96 : ∀ (H : Heap) (locs : List Loc) (ls : Array Slot) (lo17 : Int), f6.toInt ≤ lo17 → lo17 ≤ 241 → sgG (KR b d lo17 241 mr f P) D vwCl (fun q : Nat => base ≤ q) tys ad ks H → va_S (fun q : Nat => base ≤ q) s.heap H locs → lv_has ls 4 [(0, .ref a0), (1, .int x1), (2, .int f4)] → W p l e (headSpec (Cond.code yX12_readMove cX12_readMove 4 none :: sg_tbl) ({ frames := 5, cells := 0, slots := 0, locals := 107 })).room s m #[.ref a0, .int x1] below meth c H locs 0 0 (MQ below (va_Qv (fun (_ : Unit) => True) (fun _ => sgB (KR b d lo 241 mr f P) D vwCl base tys ad ks) (fun q : Nat => base ≤ q)) #[.ref a0, .int x1] s 0 0 (fun q : Nat => base ≤ q)) (F0 m 96 ls []) := by
        intro H locs ls lo17 jl17 jm17 hG hS hl
        refine lv_aload_n X.1 X.2.1 dX12_readMove_96 rfl (lv_at hl 0 rfl) ?_
        refine gf_X12_21r X hK hG h0 wl_6_199 dX12_readMove_97 (fun q18 hq18 kq18 => ?_)
        refine lv_iload_n X.1 X.2.1 dX12_readMove_100 rfl (lv_at hl 1 rfl) ?_
        refine lv_iconst (v := 1) X.1 X.2.1 dX12_readMove_101 (by decide +kernel) ?_
        refine lv_iadd X.1 X.2.1 dX12_readMove_102 ?_
        refine lv_topi (fun f19 ef19 => ?_)
        refine lv_aload_n X.1 X.2.1 dX12_readMove_103 rfl (lv_at hl 0 rfl) ?_
        refine lv_iconst (v := 0) X.1 X.2.1 dX12_readMove_104 (by decide +kernel) ?_
        refine lv_bipush (v := 29) X.1 X.2.1 dX12_readMove_105 (by decide +kernel) ?_
        refine ca_X12_number X hK hG hC hS hb a0 h0 0 29 ⟨by omega, by omega, by omega, by omega, by omega⟩ (by omega) wl_7_183 hl.1 (rest := [.int f19, .ref q18]) rfl (Nat.le_of_ble_eq_true rfl) ⟨Nat.le_of_ble_eq_true rfl, Nat.le_of_ble_eq_true rfl⟩ ⟨Nat.le_of_ble_eq_true rfl, Nat.le_of_ble_eq_true rfl⟩ dX12_readMove_107 (fun f20 H locs hf20 hG hS => ?_)
        refine as_52r X hK hG hS hq18 (iv_vpin (iv_add (a' := 257) (b' := 317) ef19 h1 (iv_c 1 (a := 1) (b := 1) (by decide +kernel)) (by decide +kernel)) (by decide +kernel)) (sg_gal (iv_add (a' := 257) (b' := 317) ef19 h1 (iv_c 1 (a := 1) (b := 1) (by decide +kernel)) (by decide +kernel)) (by decide +kernel)) dX12_readMove_110 (fun H locs hG hS ru21 => ?_)
        refine lv_iload_n X.1 X.2.1 dX12_readMove_111 rfl (lv_at hl 2 rfl) ?_
        refine lv_iconst (v := 1) X.1 X.2.1 dX12_readMove_112 (by decide +kernel) ?_
        refine lv_icmp_ne (tgt := 124) X.1 X.2.1 dX12_readMove_113 (by decide) (fun c22 => ?_) (fun c22 => ?_)
        · have hG := sgr_weak (d' := d) (lo' := lo) (hi' := 241) (f' := f) hG (by omega) (by omega) (by omega) (by omega)
          exact sg_vret X hr hlk hb hK hC hG hS dX12_readMove_124
        · refine lv_aload_n X.1 X.2.1 dX12_readMove_116 rfl (lv_at hl 0 rfl) ?_
          refine gf_X12_11r X hK hG h0 wl_6_189 dX12_readMove_117 (fun f23 hf23 kf23 => ?_)
          have ⟨laf23, uaf23⟩ : f ≤ f23.toInt ∧ f23.toInt ≤ 241 := hf23
          have hf23 : iv (-1) 241 f23 := ⟨by omega, by omega⟩
          refine lv_iconst (v := (-1)) X.1 X.2.1 dX12_readMove_120 (by decide +kernel) ?_
          refine lv_icmp_eq (tgt := 125) X.1 X.2.1 dX12_readMove_121 (by decide) (fun c24 => ?_) (fun c24 => ?_)
          · obtain ⟨t25, vt25, pt25, rt25⟩ := hC.2.2.2.2.2.2
            refine va_ldcSW X.1 X.2.1 X.2.2.2.1 rt25 dX12_readMove_125 ?_
            refine lv_aload_n X.1 X.2.1 dX12_readMove_128 rfl (lv_at hl 0 rfl) ?_
            refine ca_X12_look X hK hG hC hS hb a0 h0 ⟨by omega, by omega, by omega, by omega, by omega⟩ ⟨by omega, by omega, by omega⟩ wl_7_137 hl.1 (rest := [.ref t25]) rfl (Nat.le_of_ble_eq_true rfl) ⟨Nat.le_of_ble_eq_true rfl, Nat.le_of_ble_eq_true rfl⟩ ⟨Nat.le_of_ble_eq_true rfl, Nat.le_of_ble_eq_true rfl⟩ dX12_readMove_129 (fun f26 tf26 H locs htf26 hf26 hWf26 hS => ?_)
            obtain ⟨hBf26, v27, kv27, hv27, lv27⟩ := hWf26
            have hG := hBf26.2.2.2
            rw [htf26] at hG kv27
            have ⟨lav27, uav27⟩ : lo17 ≤ v27.toInt ∧ v27.toInt ≤ 241 := hv27
            have hv27 : iv 0 241 v27 := ⟨by omega, by omega⟩
            refine ca_X12_spotOf_2 X hK (sgr_toKT hG (by omega) (by omega) (by omega)) hC (fun _ h => h) hS hb pt25 f26 (sg_htb (by decide +kernel)) wl_7_151 hl.1 (rest := []) rfl (Nat.le_of_ble_eq_true rfl) ⟨Nat.le_of_ble_eq_true rfl, Nat.le_of_ble_eq_true rfl⟩ ⟨Nat.le_of_ble_eq_true rfl, Nat.le_of_ble_eq_true rfl⟩ dX12_readMove_132 (fun f28 locs hf28 hS => ?_)
            refine lv_istore_n (lv' := [(3, .int f28), (0, .ref a0), (1, .int x1), (2, .int f4)]) X.1 X.2.1 dX12_readMove_135 rfl hl (by decide) rfl (fun ls hl => ?_)
            refine lv_iload_n X.1 X.2.1 dX12_readMove_136 rfl (lv_at hl 0 rfl) ?_
            refine lv_iconst (v := (-1)) X.1 X.2.1 dX12_readMove_137 (by decide +kernel) ?_
            refine lv_icmp_ne (tgt := 147) X.1 X.2.1 dX12_readMove_138 (by decide) (fun c29 => ?_) (fun c29 => ?_)
            · refine lv_aload_n X.1 X.2.1 dX12_readMove_147 rfl (lv_at hl 1 rfl) ?_
              refine lv_dup X.1 X.2.1 dX12_readMove_148 rfl ?_
              refine gg_X12_10r X hK hG h0 wl_6_188 kv27 dX12_readMove_149 ?_
              refine lv_iconst (v := 1) X.1 X.2.1 dX12_readMove_152 (by decide +kernel) ?_
              refine lv_iadd X.1 X.2.1 dX12_readMove_153 ?_
              refine lv_topi (fun f30 ef30 => ?_)
              have sf30 : f30.toInt = v27.toInt + 1 := sg_inc (k := 1) ef30 (sg_lk (sg_spot (iv_ne_lo (a' := 0) c29 hf28.1 (by decide +kernel)) hf28.2) lv27 hv27) (by decide +kernel)
              have uf30 : f30.toInt ≤ 241 := Int.le_trans ((iv_add (a' := 1) (b' := 240) ef30 (sg_lk (sg_spot (iv_ne_lo (a' := 0) c29 hf28.1 (by decide +kernel)) hf28.2) lv27 hv27) (iv_c 1 (a := 1) (b := 1) (by decide +kernel)) (by decide +kernel))).2 (by omega)
              refine pf_X12_10R (lo2 := f30.toInt) (hi2 := 241) X hK hG hS h0 wl_6_188 ⟨_, rfl, Int.le_refl _, uf30⟩ dX12_readMove_154 (fun H locs hG hS => ?_)
              refine lv_aload_n X.1 X.2.1 dX12_readMove_157 rfl (lv_at hl 1 rfl) ?_
              refine gf_X12_21r X hK hG h0 wl_6_199 dX12_readMove_158 (fun q31 hq31 kq31 => ?_)
              refine lv_iload_n X.1 X.2.1 dX12_readMove_161 rfl (lv_at hl 2 rfl) ?_
              refine lv_iconst (v := 2) X.1 X.2.1 dX12_readMove_162 (by decide +kernel) ?_
              refine lv_iadd X.1 X.2.1 dX12_readMove_163 ?_
              refine lv_topi (fun f32 ef32 => ?_)
              refine lv_iload_n X.1 X.2.1 dX12_readMove_164 rfl (lv_at hl 0 rfl) ?_
              refine as_52r X hK hG hS hq31 (iv_vpin (iv_add (a' := 258) (b' := 318) ef32 h1 (iv_c 2 (a := 2) (b := 2) (by decide +kernel)) (by decide +kernel)) (by decide +kernel)) (sg_gal (iv_add (a' := 258) (b' := 318) ef32 h1 (iv_c 2 (a := 2) (b := 2) (by decide +kernel)) (by decide +kernel)) (by decide +kernel)) dX12_readMove_165 (fun H locs hG hS ru33 => ?_)
              refine lv_aload_n X.1 X.2.1 dX12_readMove_166 rfl (lv_at hl 1 rfl) ?_
              refine gg_X12_21r X hK hG h0 wl_6_199 (ru33 _ _ _ _ _ _ _ h0 rfl rfl (by decide) (fun z => z.elim) kq31) dX12_readMove_167 ?_
              refine lv_iload_n X.1 X.2.1 dX12_readMove_170 rfl (lv_at hl 2 rfl) ?_
              refine lv_iconst (v := 3) X.1 X.2.1 dX12_readMove_171 (by decide +kernel) ?_
              refine lv_iadd X.1 X.2.1 dX12_readMove_172 ?_
              refine lv_topi (fun f34 ef34 => ?_)
              refine lv_aload_n X.1 X.2.1 dX12_readMove_173 rfl (lv_at hl 1 rfl) ?_
              refine ca_X12_digit X hK hG hC hS hb a0 h0 ⟨by omega, by omega, by omega, by omega, by omega⟩ wl_8_37 hl.1 (rest := [.int f34, .ref q31]) rfl (Nat.le_of_ble_eq_true rfl) ⟨Nat.le_of_ble_eq_true rfl, Nat.le_of_ble_eq_true rfl⟩ ⟨Nat.le_of_ble_eq_true rfl, Nat.le_of_ble_eq_true rfl⟩ dX12_readMove_174 (fun f35 H locs hf35 hG hS => ?_)
              refine as_52r X hK hG hS hq31 (iv_vpin (iv_add (a' := 259) (b' := 319) ef34 h1 (iv_c 3 (a := 3) (b := 3) (by decide +kernel)) (by decide +kernel)) (by decide +kernel)) (sg_gal (iv_add (a' := 259) (b' := 319) ef34 h1 (iv_c 3 (a := 3) (b := 3) (by decide +kernel)) (by decide +kernel)) (by decide +kernel)) dX12_readMove_177 (fun H locs hG hS ru36 => ?_)
              have hG := sgr_weak (d' := d) (lo' := lo) (hi' := 241) (f' := f) hG (by omega) (by omega) (by omega) (by omega)
              exact sg_vret X hr hlk hb hK hC hG hS dX12_readMove_178
            · refine lv_aload_n X.1 X.2.1 dX12_readMove_141 rfl (lv_at hl 1 rfl) ?_
              refine ca_X12_fails X hK hG hC hS hb a0 h0 ⟨by omega, by omega, by omega, by omega, by omega⟩ wl_7_141 hl.1 (rest := []) rfl (Nat.le_of_ble_eq_true rfl) ⟨Nat.le_of_ble_eq_true rfl, Nat.le_of_ble_eq_true rfl⟩ ⟨Nat.le_of_ble_eq_true rfl, Nat.le_of_ble_eq_true rfl⟩ dX12_readMove_142 (fun f37 H locs hf37 hG hS => ?_)
              refine lv_pop X.1 X.2.1 dX12_readMove_145 rfl ?_
              have hG := sgr_weak (d' := d) (lo' := lo) (hi' := 241) (f' := f) hG (by omega) (by omega) (by omega) (by omega)
              exact sg_vret X hr hlk hb hK hC hG hS dX12_readMove_146
          · have hG := sgr_weak (d' := d) (lo' := lo) (hi' := 241) (f' := f) hG (by omega) (by omega) (by omega) (by omega)
            exact sg_vret X hr hlk hb hK hC hG hS dX12_readMove_124
      refine lv_if_ne (tgt := 96) X.1 X.2.1 dX12_readMove_73 (by decide) (fun c16 => ?_) (fun c16 => ?_)
      · exact B17_96 H _ _ f6.toInt (by omega) (by omega) hG hS (lv_sub hl [1, 2, 0] rfl)
      · refine lv_aload_n X.1 X.2.1 dX12_readMove_76 rfl (lv_at hl 1 rfl) ?_
        refine ca_X12_look X hK hG hC hS hb a0 h0 ⟨by omega, by omega, by omega, by omega, by omega⟩ ⟨by omega, by omega, by omega⟩ wl_7_137 hl.1 (rest := []) rfl (Nat.le_of_ble_eq_true rfl) ⟨Nat.le_of_ble_eq_true rfl, Nat.le_of_ble_eq_true rfl⟩ ⟨Nat.le_of_ble_eq_true rfl, Nat.le_of_ble_eq_true rfl⟩ dX12_readMove_77 (fun f38 tf38 H locs htf38 hf38 hWf38 hS => ?_)
        obtain ⟨hBf38, v39, kv39, hv39, lv39⟩ := hWf38
        have hG := hBf38.2.2.2
        rw [htf38] at hG kv39
        have ⟨lav39, uav39⟩ : f6.toInt ≤ v39.toInt ∧ v39.toInt ≤ 241 := hv39
        have hv39 : iv 0 241 v39 := ⟨by omega, by omega⟩
        refine lv_bipush (v := 63) X.1 X.2.1 dX12_readMove_80 (by decide +kernel) ?_
        refine lv_icmp_ne (tgt := 96) X.1 X.2.1 dX12_readMove_82 (by decide) (fun c40 => ?_) (fun c40 => ?_)
        · exact B17_96 H _ _ f6.toInt (by omega) (by omega) hG hS (lv_sub hl [1, 2, 0] rfl)
        · refine lv_aload_n X.1 X.2.1 dX12_readMove_85 rfl (lv_at hl 1 rfl) ?_
          refine lv_dup X.1 X.2.1 dX12_readMove_86 rfl ?_
          refine gg_X12_10r X hK hG h0 wl_6_188 kv39 dX12_readMove_87 ?_
          refine lv_iconst (v := 1) X.1 X.2.1 dX12_readMove_90 (by decide +kernel) ?_
          refine lv_iadd X.1 X.2.1 dX12_readMove_91 ?_
          refine lv_topi (fun f41 ef41 => ?_)
          have sf41 : f41.toInt = v39.toInt + 1 := sg_inc (k := 1) ef41 (sg_lk (iv_eqm (a' := 63) (b' := 63) c40 hf38 (iv_c 63 (a := 63) (b := 63) (by decide +kernel)) (by decide +kernel)) lv39 hv39) (by decide +kernel)
          have uf41 : f41.toInt ≤ 241 := Int.le_trans ((iv_add (a' := 1) (b' := 240) ef41 (sg_lk (iv_eqm (a' := 63) (b' := 63) c40 hf38 (iv_c 63 (a := 63) (b := 63) (by decide +kernel)) (by decide +kernel)) lv39 hv39) (iv_c 1 (a := 1) (b := 1) (by decide +kernel)) (by decide +kernel))).2 (by omega)
          refine pf_X12_10R (lo2 := f41.toInt) (hi2 := 241) X hK hG hS h0 wl_6_188 ⟨_, rfl, Int.le_refl _, uf41⟩ dX12_readMove_92 (fun H locs hG hS => ?_)
          have hG := sgr_weak (d' := d) (lo' := lo) (hi' := 241) (f' := f) hG (by omega) (by omega) (by omega) (by omega)
          exact sg_vret X hr hlk hb hK hC hG hS dX12_readMove_95
    · have hG := sgr_weak (d' := d) (lo' := lo) (hi' := 241) (f' := f) hG (by omega) (by omega) (by omega) (by omega)
      exact sg_vret X hr hlk hb hK hC hG hS dX12_readMove_71
  · refine lv_aload_n X.1 X.2.1 dX12_readMove_16 rfl (lv_at hl 1 rfl) ?_
    refine ca_X12_fails X hK hG hC hS hb a0 h0 ⟨by omega, by omega, by omega, by omega, by omega⟩ wl_7_141 hl.1 (rest := []) rfl (Nat.le_of_ble_eq_true rfl) ⟨Nat.le_of_ble_eq_true rfl, Nat.le_of_ble_eq_true rfl⟩ ⟨Nat.le_of_ble_eq_true rfl, Nat.le_of_ble_eq_true rfl⟩ dX12_readMove_17 (fun f42 H locs hf42 hG hS => ?_)
    refine lv_pop X.1 X.2.1 dX12_readMove_20 rfl ?_
    exact sg_vret X hr hlk hb hK hC hG hS dX12_readMove_21

theorem ca_X12_readMove  {b : Bool} {d : Int} {lo mr f : Int}  (X : CallFix p m c cc nL s args sg_tbl own) (hK : va_K D vwCl tys s) (hG : sgG (KR b d lo 241 mr f P) D vwCl (fun q : Nat => base ≤ q) tys ad ks H) (hC : sgC base s) (hS : va_S (fun q : Nat => base ≤ q) s.heap H locs) (hb : base ≤ s.heap.size) (a0 : Nat) (h0 : isK ad ks 12 a0) (x1 : Int32) (h1 : iv 256 316 x1) (hlo : 0 ≤ lo ∧ lo ≤ 241 ∧ -1 ≤ f ∧ f ≤ 0 ∧ 0 ≤ mr) (hd0 : 0 ≤ d) (hl : Cond.methodLink own index yX12_readMove ∈ sg_tbl) (hsize : ls.size = nL) (hst : st0 = [.int x1].reverse ++ .ref a0 :: rest) (hW : (rest.map fun v => v.category).sum ≤ 8) (hR : 6 ≤ R.frames ∧ 130 ≤ R.locals) (hf : cells ≤ R.cells ∧ slots ≤ R.slots) (hdg : decode cc pc = .ok (.invokevirtual index, 3)) (kk : ∀ (H1 : Heap) (locs1 : List Loc), sgG (KR b d lo 241 mr f P) D vwCl (fun q : Nat => base ≤ q) tys ad ks H1 → va_S (fun q : Nat => base ≤ q) s.heap H1 locs1 → W p l e R s m args below meth c H1 locs1 cells slots Q (F0 m (pc + 3) ls rest)) : W p l e R s m args below meth c H locs cells slots Q (F0 m pc ls st0) :=
  sg_callVv X hK hG hC hS hb (m_X12_readMove l a0 h0 x1 h1 hlo hd0) h0 (k := 12) (ci := 12) rfl (C := RX12) (T := TX12) (N := 53) rfl wl_8_34 wl_1_13 wl_8_33 wl_0_70 (n := 1) (by decide +kernel) rfl rfl rfl hl hsize hst hW hR hf hdg kk

set_option maxHeartbeats 8000000 in
set_option maxRecDepth 100000 in
theorem m_X12_starts_t (l : Launch) {D : va_G} {base : Nat} {tys : List (ClassId × FieldType)} {ad ks : List Nat} {P : sgPm} (a0 : Nat) (h0 : isK ad ks 12 a0) (a1 : Nat) (h1 : isK ad ks 45 a1) (x2 : Int32) (h2 : iv 0 0 x2) (x3 : Int32) (h3 : iv 0 240 x3) : Met l yX12_starts (Cond.code yX12_starts cX12_starts 4 none :: sg_tbl) ({ frames := 0, cells := 0, slots := 0, locals := 0 }) (va_Pc [.ref a0, .ref a1, .int x2, .int x3] (sgB (KT P) D vwCl base tys ad ks)) (va_Qv (fun (_ : Unit) => True) (fun _ => sgB (KR false 0 0 241 0 (-1) P) D vwCl base tys ad ks) (fun q : Nat => base ≤ q)) 0 0 (fun q : Nat => base ≤ q) := by
  refine sg_ofW (by decide +kernel) (Nat.le_of_ble_eq_true rfl) (fun p e s m below meth c X hr hlk hb hK hC hG ls hl => ?_)
  have hS : va_S (fun q : Nat => base ≤ q) s.heap s.heap [] := va_S.rf
  have hl : lv_has ls 4 [(0, .ref a0), (1, .ref a1), (2, .int x2), (3, .int x3)] := hl
  refine lv_aload_n X.1 X.2.1 dX12_starts_0 rfl (lv_at hl 0 rfl) ?_
  refine lv_aload_n X.1 X.2.1 dX12_starts_1 rfl (lv_at hl 1 rfl) ?_
  refine pf_X12_5S (b := false) X hK hG hS h0 wl_6_183 (Or.inr ⟨_, rfl, h1⟩) dX12_starts_2 (fun H locs hG hS => ?_)
  refine lv_aload_n X.1 X.2.1 dX12_starts_5 rfl (lv_at hl 0 rfl) ?_
  refine lv_iload_n X.1 X.2.1 dX12_starts_6 rfl (lv_at hl 2 rfl) ?_
  refine pf_X12_8S (b := false) X hK hG hS h0 wl_6_186 ⟨_, rfl, h2⟩ dX12_starts_7 (fun H locs hG hS => ?_)
  refine lv_aload_n X.1 X.2.1 dX12_starts_10 rfl (lv_at hl 0 rfl) ?_
  refine lv_iload_n X.1 X.2.1 dX12_starts_11 rfl (lv_at hl 3 rfl) ?_
  refine pf_X12_9u X hK hG hS h0 wl_6_187 ⟨_, rfl, h3⟩ dX12_starts_12 (fun H locs hG hS ku1 ru1 => ?_)
  refine lv_aload_n X.1 X.2.1 dX12_starts_15 rfl (lv_at hl 0 rfl) ?_
  refine lv_iconst (v := 0) X.1 X.2.1 dX12_starts_16 (by decide +kernel) ?_
  refine pf_X12_10S (b := false) X hK hG hS h0 wl_6_188 ⟨_, rfl, iv_c _ (by decide +kernel)⟩ dX12_starts_17 (fun H locs hG hS => ?_)
  refine lv_aload_n X.1 X.2.1 dX12_starts_20 rfl (lv_at hl 0 rfl) ?_
  refine lv_iconst (v := (-1)) X.1 X.2.1 dX12_starts_21 (by decide +kernel) ?_
  refine pf_X12_11r X hK hG hS h0 wl_6_189 ⟨_, rfl, iv_c _ (by decide +kernel)⟩ dX12_starts_22 (fun H locs hG hS ku2 ru2 => ?_)
  exact sg_vret2 X hr hlk hS (fun t ht hW => sg_post hb hK hC hG hS ht hW) dX12_starts_25

theorem ca_X12_starts_t   (X : CallFix p m c cc nL s args sg_tbl own) (hK : va_K D vwCl tys s) (hG : sgG (KT P) D vwCl (fun q : Nat => base ≤ q) tys ad ks H) (hC : sgC base s) (hS : va_S (fun q : Nat => base ≤ q) s.heap H locs) (hb : base ≤ s.heap.size) (a0 : Nat) (h0 : isK ad ks 12 a0) (a1 : Nat) (h1 : isK ad ks 45 a1) (x2 : Int32) (h2 : iv 0 0 x2) (x3 : Int32) (h3 : iv 0 240 x3) (hl : Cond.methodLink own index yX12_starts ∈ sg_tbl) (hsize : ls.size = nL) (hst : st0 = [.ref a1, .int x2, .int x3].reverse ++ .ref a0 :: rest) (hW : (rest.map fun v => v.category).sum ≤ 8) (hR : 1 ≤ R.frames ∧ 23 ≤ R.locals) (hf : cells ≤ R.cells ∧ slots ≤ R.slots) (hdg : decode cc pc = .ok (.invokevirtual index, 3)) (kk : ∀ (t : State) (H1 : Heap) (locs1 : List Loc), t.heap = H1 → (sgB (KR false 0 0 241 0 (-1) P) D vwCl base tys ad ks t) → va_S (fun q : Nat => base ≤ q) s.heap H1 locs1 → W p l e R s m args below meth c H1 locs1 cells slots Q (F0 m (pc + 3) ls rest)) : W p l e R s m args below meth c H locs cells slots Q (F0 m pc ls st0) :=
  sg_callV2v X hK hG hC hS hb (m_X12_starts_t l a0 h0 a1 h1 x2 h2 x3 h3) h0 (k := 12) (ci := 12) rfl (C := RX12) (T := TX12) (N := 53) rfl wl_7_129 wl_1_13 wl_7_128 wl_0_50 (n := 3) (by decide +kernel) rfl rfl rfl hl hsize hst hW hR hf hdg kk

set_option maxHeartbeats 8000000 in
set_option maxRecDepth 100000 in
theorem m_X12_goThrough_t (l : Launch) {D : va_G} {base : Nat} {tys : List (ClassId × FieldType)} {ad ks : List Nat} {P : sgPm} (a0 : Nat) (h0 : isK ad ks 12 a0) (a1 : Nat) (h1 : isK ad ks 45 a1) (x2 : Int32) (h2 : iv 0 0 x2) (x3 : Int32) (h3 : iv 0 240 x3) : sgMv l (KT P) D vwCl base tys ad ks yX12_goThrough cX12_goThrough 4 none ({ frames := 31, cells := 0, slots := 0, locals := 723 }) [.ref a0, .ref a1, .int x2, .int x3] := by
  refine sg_ofW (by decide +kernel) (Nat.le_of_ble_eq_true rfl) (fun p e s m below meth c X hr hlk hb hK hC hG ls hl => ?_)
  have hS : va_S (fun q : Nat => base ≤ q) s.heap s.heap [] := va_S.rf
  have hl : lv_has ls 4 [(0, .ref a0), (1, .ref a1), (2, .int x2), (3, .int x3)] := hl
  refine lv_aload_n X.1 X.2.1 dX12_goThrough_0 rfl (lv_at hl 0 rfl) ?_
  refine lv_aload_n X.1 X.2.1 dX12_goThrough_1 rfl (lv_at hl 1 rfl) ?_
  refine lv_iload_n X.1 X.2.1 dX12_goThrough_2 rfl (lv_at hl 2 rfl) ?_
  refine lv_iload_n X.1 X.2.1 dX12_goThrough_3 rfl (lv_at hl 3 rfl) ?_
  refine ca_X12_starts_t X hK hG hC hS hb a0 h0 a1 h1 x2 h2 x3 h3 wl_7_126 hl.1 (rest := []) rfl (Nat.le_of_ble_eq_true rfl) ⟨Nat.le_of_ble_eq_true rfl, Nat.le_of_ble_eq_true rfl⟩ ⟨Nat.le_of_ble_eq_true rfl, Nat.le_of_ble_eq_true rfl⟩ dX12_goThrough_4 (fun tg1 H locs htg1 hWg1 hS => ?_)
  have hG := hWg1.2.2.2
  rw [htg1] at hG
  refine lv_aload_n X.1 X.2.1 dX12_goThrough_7 rfl (lv_at hl 0 rfl) ?_
  refine lv_bipush (v := 121) X.1 X.2.1 dX12_goThrough_8 (by decide +kernel) ?_
  refine pf_X12_13r X hK hG hS h0 wl_6_191 ⟨_, rfl, (iv_top _)⟩ dX12_goThrough_10 (fun H locs hG hS ku2 ru2 => ?_)
  refine lv_aload_n X.1 X.2.1 dX12_goThrough_13 rfl (lv_at hl 0 rfl) ?_
  refine lv_iconst (v := 0) X.1 X.2.1 dX12_goThrough_14 (by decide +kernel) ?_
  refine pf_X12_12R (d2 := 0) X hK hG hS h0 wl_6_190 ⟨_, rfl, (iv_of (iv_c 0 (a := 0) (b := 0) (by decide +kernel)) (a' := 0) (b' := 6) (by decide +kernel))⟩ dX12_goThrough_15 (fun H locs hG hS => ?_)
  refine lv_aload_n X.1 X.2.1 dX12_goThrough_18 rfl (lv_at hl 0 rfl) ?_
  refine lv_iconst (v := 0) X.1 X.2.1 dX12_goThrough_19 (by decide +kernel) ?_
  refine pf_X12_17r X hK hG hS h0 wl_6_195 ⟨_, rfl, (iv_of (iv_c 0 (a := 0) (b := 0) (by decide +kernel)) (a' := 0) (b' := 1) (by decide +kernel))⟩ dX12_goThrough_20 (fun H locs hG hS ku3 ru3 => ?_)
  refine lv_aload_n X.1 X.2.1 dX12_goThrough_23 rfl (lv_at hl 0 rfl) ?_
  refine lv_iconst (v := 0) X.1 X.2.1 dX12_goThrough_24 (by decide +kernel) ?_
  refine pf_X12_14r X hK hG hS h0 wl_6_192 ⟨_, rfl, (iv_top _)⟩ dX12_goThrough_25 (fun H locs hG hS ku4 ru4 => ?_)
  refine lv_aload_n X.1 X.2.1 dX12_goThrough_28 rfl (lv_at hl 0 rfl) ?_
  refine ca_X12_clause X hK hG hC hS hb a0 h0 ⟨by omega, by omega, by omega, by omega, by omega⟩ wl_7_210 hl.1 (rest := []) rfl (Nat.le_of_ble_eq_true rfl) ⟨Nat.le_of_ble_eq_true rfl, Nat.le_of_ble_eq_true rfl⟩ ⟨Nat.le_of_ble_eq_true rfl, Nat.le_of_ble_eq_true rfl⟩ dX12_goThrough_29 (fun H locs hG hS => ?_)
  have B6_32 : ∀ (N : Nat) (H : Heap) (locs : List Loc) (ls : Array Slot) (lo6 : Int), 0 ≤ lo6 → lo6 ≤ 241 → sgG (KR false 0 lo6 241 0 (-1) P) D vwCl (fun q : Nat => base ≤ q) tys ad ks H → va_S (fun q : Nat => base ≤ q) s.heap H locs → lv_has ls 4 [(0, .ref a0)] → (242 - lo6).toNat ≤ N → W p l e (headSpec (Cond.code yX12_goThrough cX12_goThrough 4 none :: sg_tbl) ({ frames := 31, cells := 0, slots := 0, locals := 723 })).room s m #[.ref a0, .ref a1, .int x2, .int x3] below meth c H locs 0 0 (MQ below (va_Qv (fun (_ : Unit) => True) (fun _ => sgB (KT P) D vwCl base tys ad ks) (fun q : Nat => base ≤ q)) #[.ref a0, .ref a1, .int x2, .int x3] s 0 0 (fun q : Nat => base ≤ q)) (F0 m 32 ls []) := by
    intro N; induction N with
    | zero =>
      intro H locs ls lo6 jl6 jm6 hG hS hl hN
      exact absurd hN (by have := jm6; omega)
    | succ N ih6 =>
      intro H locs ls lo6 jl6 jm6 hG hS hl hN6
      refine lv_aload_n X.1 X.2.1 dX12_goThrough_32 rfl (lv_at hl 0 rfl) ?_
      refine gf_X12_11r X hK hG h0 wl_6_189 dX12_goThrough_33 (fun f7 hf7 kf7 => ?_)
      have ⟨laf7, uaf7⟩ : (-1) ≤ f7.toInt ∧ f7.toInt ≤ 241 := hf7
      have hf7 : iv (-1) 241 f7 := ⟨by omega, by omega⟩
      refine lv_iconst (v := (-1)) X.1 X.2.1 dX12_goThrough_36 (by decide +kernel) ?_
      have B9_66 : ∀ (H : Heap) (locs : List Loc) (ls : Array Slot) (lo9 : Int), lo6 ≤ lo9 → lo9 ≤ 241 → sgG (KR false 0 lo9 241 0 (-1) P) D vwCl (fun q : Nat => base ≤ q) tys ad ks H → va_S (fun q : Nat => base ≤ q) s.heap H locs → lv_has ls 4 [(0, .ref a0)] → W p l e (headSpec (Cond.code yX12_goThrough cX12_goThrough 4 none :: sg_tbl) ({ frames := 31, cells := 0, slots := 0, locals := 723 })).room s m #[.ref a0, .ref a1, .int x2, .int x3] below meth c H locs 0 0 (MQ below (va_Qv (fun (_ : Unit) => True) (fun _ => sgB (KT P) D vwCl base tys ad ks) (fun q : Nat => base ≤ q)) #[.ref a0, .ref a1, .int x2, .int x3] s 0 0 (fun q : Nat => base ≤ q)) (F0 m 66 ls []) := by
        intro H locs ls lo9 jl9 jm9 hG hS hl
        refine lv_aload_n X.1 X.2.1 dX12_goThrough_66 rfl (lv_at hl 0 rfl) ?_
        refine gf_X12_11r X hK hG h0 wl_6_189 dX12_goThrough_67 (fun f10 hf10 kf10 => ?_)
        have ⟨laf10, uaf10⟩ : (-1) ≤ f10.toInt ∧ f10.toInt ≤ 241 := hf10
        have hf10 : iv (-1) 241 f10 := ⟨by omega, by omega⟩
        refine lv_iconst (v := (-1)) X.1 X.2.1 dX12_goThrough_70 (by decide +kernel) ?_
        refine lv_icmp_ne (tgt := 87) X.1 X.2.1 dX12_goThrough_71 (by decide) (fun c11 => ?_) (fun c11 => ?_)
        · have hG := sgr_toKT hG (by omega) (by omega) (by omega)
          exact sg_vret X hr hlk hb hK hC hG hS dX12_goThrough_87
        · refine lv_aload_n X.1 X.2.1 dX12_goThrough_74 rfl (lv_at hl 0 rfl) ?_
          refine ca_X12_look X hK hG hC hS hb a0 h0 ⟨by omega, by omega, by omega, by omega, by omega⟩ ⟨by omega, by omega, by omega⟩ wl_7_137 hl.1 (rest := []) rfl (Nat.le_of_ble_eq_true rfl) ⟨Nat.le_of_ble_eq_true rfl, Nat.le_of_ble_eq_true rfl⟩ ⟨Nat.le_of_ble_eq_true rfl, Nat.le_of_ble_eq_true rfl⟩ dX12_goThrough_75 (fun f12 tf12 H locs htf12 hf12 hWf12 hS => ?_)
          obtain ⟨hBf12, v13, kv13, hv13, lv13⟩ := hWf12
          have hG := hBf12.2.2.2
          rw [htf12] at hG kv13
          have ⟨lav13, uav13⟩ : lo9 ≤ v13.toInt ∧ v13.toInt ≤ 241 := hv13
          have hv13 : iv 0 241 v13 := ⟨by omega, by omega⟩
          refine lv_iconst (v := (-1)) X.1 X.2.1 dX12_goThrough_78 (by decide +kernel) ?_
          refine lv_icmp_eq (tgt := 87) X.1 X.2.1 dX12_goThrough_79 (by decide) (fun c14 => ?_) (fun c14 => ?_)
          · have hG := sgr_toKT hG (by omega) (by omega) (by omega)
            exact sg_vret X hr hlk hb hK hC hG hS dX12_goThrough_87
          · refine lv_aload_n X.1 X.2.1 dX12_goThrough_82 rfl (lv_at hl 0 rfl) ?_
            refine ca_X12_fails X hK hG hC hS hb a0 h0 ⟨by omega, by omega, by omega, by omega, by omega⟩ wl_7_141 hl.1 (rest := []) rfl (Nat.le_of_ble_eq_true rfl) ⟨Nat.le_of_ble_eq_true rfl, Nat.le_of_ble_eq_true rfl⟩ ⟨Nat.le_of_ble_eq_true rfl, Nat.le_of_ble_eq_true rfl⟩ dX12_goThrough_83 (fun f15 H locs hf15 hG hS => ?_)
            refine lv_pop X.1 X.2.1 dX12_goThrough_86 rfl ?_
            have hG := sgr_toKT hG (by omega) (by omega) (by omega)
            exact sg_vret X hr hlk hb hK hC hG hS dX12_goThrough_87
      refine lv_icmp_ne (tgt := 66) X.1 X.2.1 dX12_goThrough_37 (by decide) (fun c8 => ?_) (fun c8 => ?_)
      · exact B9_66 H _ _ lo6 (by omega) (by omega) hG hS (lv_sub hl [0] rfl)
      · refine lv_aload_n X.1 X.2.1 dX12_goThrough_40 rfl (lv_at hl 0 rfl) ?_
        refine ca_X12_look X hK hG hC hS hb a0 h0 ⟨by omega, by omega, by omega, by omega, by omega⟩ ⟨by omega, by omega, by omega⟩ wl_7_137 hl.1 (rest := []) rfl (Nat.le_of_ble_eq_true rfl) ⟨Nat.le_of_ble_eq_true rfl, Nat.le_of_ble_eq_true rfl⟩ ⟨Nat.le_of_ble_eq_true rfl, Nat.le_of_ble_eq_true rfl⟩ dX12_goThrough_41 (fun f16 tf16 H locs htf16 hf16 hWf16 hS => ?_)
        obtain ⟨hBf16, v17, kv17, hv17, lv17⟩ := hWf16
        have hG := hBf16.2.2.2
        rw [htf16] at hG kv17
        have ⟨lav17, uav17⟩ : lo6 ≤ v17.toInt ∧ v17.toInt ≤ 241 := hv17
        have hv17 : iv 0 241 v17 := ⟨by omega, by omega⟩
        refine lv_bipush (v := 59) X.1 X.2.1 dX12_goThrough_44 (by decide +kernel) ?_
        refine lv_icmp_ne (tgt := 66) X.1 X.2.1 dX12_goThrough_46 (by decide) (fun c18 => ?_) (fun c18 => ?_)
        · exact B9_66 H _ _ lo6 (by omega) (by omega) hG hS (lv_sub hl [0] rfl)
        · refine lv_aload_n X.1 X.2.1 dX12_goThrough_49 rfl (lv_at hl 0 rfl) ?_
          refine lv_dup X.1 X.2.1 dX12_goThrough_50 rfl ?_
          refine gg_X12_10r X hK hG h0 wl_6_188 kv17 dX12_goThrough_51 ?_
          refine lv_iconst (v := 1) X.1 X.2.1 dX12_goThrough_54 (by decide +kernel) ?_
          refine lv_iadd X.1 X.2.1 dX12_goThrough_55 ?_
          refine lv_topi (fun f19 ef19 => ?_)
          have sf19 : f19.toInt = v17.toInt + 1 := sg_inc (k := 1) ef19 (sg_lk (iv_eqm (a' := 59) (b' := 59) c18 hf16 (iv_c 59 (a := 59) (b := 59) (by decide +kernel)) (by decide +kernel)) lv17 hv17) (by decide +kernel)
          have uf19 : f19.toInt ≤ 241 := Int.le_trans ((iv_add (a' := 1) (b' := 240) ef19 (sg_lk (iv_eqm (a' := 59) (b' := 59) c18 hf16 (iv_c 59 (a := 59) (b := 59) (by decide +kernel)) (by decide +kernel)) lv17 hv17) (iv_c 1 (a := 1) (b := 1) (by decide +kernel)) (by decide +kernel))).2 (by omega)
          refine pf_X12_10R (lo2 := f19.toInt) (hi2 := 241) X hK hG hS h0 wl_6_188 ⟨_, rfl, Int.le_refl _, uf19⟩ dX12_goThrough_56 (fun H locs hG hS => ?_)
          refine lv_aload_n X.1 X.2.1 dX12_goThrough_59 rfl (lv_at hl 0 rfl) ?_
          refine ca_X12_clause X hK hG hC hS hb a0 h0 ⟨by omega, by omega, by omega, by omega, by omega⟩ wl_7_210 hl.1 (rest := []) rfl (Nat.le_of_ble_eq_true rfl) ⟨Nat.le_of_ble_eq_true rfl, Nat.le_of_ble_eq_true rfl⟩ ⟨Nat.le_of_ble_eq_true rfl, Nat.le_of_ble_eq_true rfl⟩ dX12_goThrough_60 (fun H locs hG hS => ?_)
          refine lv_goto (tgt := 32) X.1 X.2.1 dX12_goThrough_63 (by decide) ?_
          exact ih6 H _ _ f19.toInt (by omega) (by omega) hG hS (lv_sub hl [0] rfl) (by omega)
  exact B6_32 _ H _ _ 0 (by omega) (by omega) hG hS (lv_sub hl [0] rfl) (Nat.le_refl _)

theorem ca_X12_goThrough_t   (X : CallFix p m c cc nL s args sg_tbl own) (hK : va_K D vwCl tys s) (hG : sgG (KT P) D vwCl (fun q : Nat => base ≤ q) tys ad ks H) (hC : sgC base s) (hS : va_S (fun q : Nat => base ≤ q) s.heap H locs) (hb : base ≤ s.heap.size) (a0 : Nat) (h0 : isK ad ks 12 a0) (a1 : Nat) (h1 : isK ad ks 45 a1) (x2 : Int32) (h2 : iv 0 0 x2) (x3 : Int32) (h3 : iv 0 240 x3) (hl : Cond.methodLink own index yX12_goThrough ∈ sg_tbl) (hsize : ls.size = nL) (hst : st0 = [.ref a1, .int x2, .int x3].reverse ++ .ref a0 :: rest) (hW : (rest.map fun v => v.category).sum ≤ 8) (hR : 32 ≤ R.frames ∧ 746 ≤ R.locals) (hf : cells ≤ R.cells ∧ slots ≤ R.slots) (hdg : decode cc pc = .ok (.invokevirtual index, 3)) (kk : ∀ (H1 : Heap) (locs1 : List Loc), sgG (KT P) D vwCl (fun q : Nat => base ≤ q) tys ad ks H1 → va_S (fun q : Nat => base ≤ q) s.heap H1 locs1 → W p l e R s m args below meth c H1 locs1 cells slots Q (F0 m (pc + 3) ls rest)) : W p l e R s m args below meth c H locs cells slots Q (F0 m pc ls st0) :=
  sg_callVv X hK hG hC hS hb (m_X12_goThrough_t l a0 h0 a1 h1 x2 h2 x3 h3) h0 (k := 12) (ci := 12) rfl (C := RX12) (T := TX12) (N := 53) rfl wl_7_209 wl_1_13 wl_7_208 wl_0_58 (n := 3) (by decide +kernel) rfl rfl rfl hl hsize hst hW hR hf hdg kk

set_option maxHeartbeats 8000000 in
set_option maxRecDepth 100000 in
theorem m_X12_starts_x (l : Launch) {D : va_G} {base : Nat} {tys : List (ClassId × FieldType)} {ad ks : List Nat} {P : sgPm} (a0 : Nat) (h0 : isK ad ks 12 a0) (a1 : Nat) (h1 : isK ad ks 46 a1) (x2 : Int32) (h2 : iv 0 720 x2) (x3 : Int32) (h3 : iv 0 240 x3) : Met l yX12_starts (Cond.code yX12_starts cX12_starts 4 none :: sg_tbl) ({ frames := 0, cells := 0, slots := 0, locals := 0 }) (va_Pc [.ref a0, .ref a1, .int x2, .int x3] (sgB (KT P) D vwCl base tys ad ks)) (va_Qv (fun (_ : Unit) => True) (fun _ => sgB (KR true 0 0 241 0 (-1) P) D vwCl base tys ad ks) (fun q : Nat => base ≤ q)) 0 0 (fun q : Nat => base ≤ q) := by
  refine sg_ofW (by decide +kernel) (Nat.le_of_ble_eq_true rfl) (fun p e s m below meth c X hr hlk hb hK hC hG ls hl => ?_)
  have hS : va_S (fun q : Nat => base ≤ q) s.heap s.heap [] := va_S.rf
  have hl : lv_has ls 4 [(0, .ref a0), (1, .ref a1), (2, .int x2), (3, .int x3)] := hl
  refine lv_aload_n X.1 X.2.1 dX12_starts_0 rfl (lv_at hl 0 rfl) ?_
  refine lv_aload_n X.1 X.2.1 dX12_starts_1 rfl (lv_at hl 1 rfl) ?_
  refine pf_X12_5S (b := true) X hK hG hS h0 wl_6_183 (Or.inr ⟨_, rfl, h1⟩) dX12_starts_2 (fun H locs hG hS => ?_)
  refine lv_aload_n X.1 X.2.1 dX12_starts_5 rfl (lv_at hl 0 rfl) ?_
  refine lv_iload_n X.1 X.2.1 dX12_starts_6 rfl (lv_at hl 2 rfl) ?_
  refine pf_X12_8S (b := true) X hK hG hS h0 wl_6_186 ⟨_, rfl, h2⟩ dX12_starts_7 (fun H locs hG hS => ?_)
  refine lv_aload_n X.1 X.2.1 dX12_starts_10 rfl (lv_at hl 0 rfl) ?_
  refine lv_iload_n X.1 X.2.1 dX12_starts_11 rfl (lv_at hl 3 rfl) ?_
  refine pf_X12_9u X hK hG hS h0 wl_6_187 ⟨_, rfl, h3⟩ dX12_starts_12 (fun H locs hG hS ku1 ru1 => ?_)
  refine lv_aload_n X.1 X.2.1 dX12_starts_15 rfl (lv_at hl 0 rfl) ?_
  refine lv_iconst (v := 0) X.1 X.2.1 dX12_starts_16 (by decide +kernel) ?_
  refine pf_X12_10S (b := true) X hK hG hS h0 wl_6_188 ⟨_, rfl, iv_c _ (by decide +kernel)⟩ dX12_starts_17 (fun H locs hG hS => ?_)
  refine lv_aload_n X.1 X.2.1 dX12_starts_20 rfl (lv_at hl 0 rfl) ?_
  refine lv_iconst (v := (-1)) X.1 X.2.1 dX12_starts_21 (by decide +kernel) ?_
  refine pf_X12_11r X hK hG hS h0 wl_6_189 ⟨_, rfl, iv_c _ (by decide +kernel)⟩ dX12_starts_22 (fun H locs hG hS ku2 ru2 => ?_)
  exact sg_vret2 X hr hlk hS (fun t ht hW => sg_post hb hK hC hG hS ht hW) dX12_starts_25

theorem ca_X12_starts_x   (X : CallFix p m c cc nL s args sg_tbl own) (hK : va_K D vwCl tys s) (hG : sgG (KT P) D vwCl (fun q : Nat => base ≤ q) tys ad ks H) (hC : sgC base s) (hS : va_S (fun q : Nat => base ≤ q) s.heap H locs) (hb : base ≤ s.heap.size) (a0 : Nat) (h0 : isK ad ks 12 a0) (a1 : Nat) (h1 : isK ad ks 46 a1) (x2 : Int32) (h2 : iv 0 720 x2) (x3 : Int32) (h3 : iv 0 240 x3) (hl : Cond.methodLink own index yX12_starts ∈ sg_tbl) (hsize : ls.size = nL) (hst : st0 = [.ref a1, .int x2, .int x3].reverse ++ .ref a0 :: rest) (hW : (rest.map fun v => v.category).sum ≤ 8) (hR : 1 ≤ R.frames ∧ 23 ≤ R.locals) (hf : cells ≤ R.cells ∧ slots ≤ R.slots) (hdg : decode cc pc = .ok (.invokevirtual index, 3)) (kk : ∀ (t : State) (H1 : Heap) (locs1 : List Loc), t.heap = H1 → (sgB (KR true 0 0 241 0 (-1) P) D vwCl base tys ad ks t) → va_S (fun q : Nat => base ≤ q) s.heap H1 locs1 → W p l e R s m args below meth c H1 locs1 cells slots Q (F0 m (pc + 3) ls rest)) : W p l e R s m args below meth c H locs cells slots Q (F0 m pc ls st0) :=
  sg_callV2v X hK hG hC hS hb (m_X12_starts_x l a0 h0 a1 h1 x2 h2 x3 h3) h0 (k := 12) (ci := 12) rfl (C := RX12) (T := TX12) (N := 53) rfl wl_7_129 wl_1_13 wl_7_128 wl_0_50 (n := 3) (by decide +kernel) rfl rfl rfl hl hsize hst hW hR hf hdg kk

set_option maxHeartbeats 8000000 in
set_option maxRecDepth 100000 in
theorem m_X12_goThrough_x (l : Launch) {D : va_G} {base : Nat} {tys : List (ClassId × FieldType)} {ad ks : List Nat} {P : sgPm} (a0 : Nat) (h0 : isK ad ks 12 a0) (a1 : Nat) (h1 : isK ad ks 46 a1) (x2 : Int32) (h2 : iv 0 720 x2) (x3 : Int32) (h3 : iv 0 240 x3) : sgMv l (KT P) D vwCl base tys ad ks yX12_goThrough cX12_goThrough 4 none ({ frames := 31, cells := 0, slots := 0, locals := 723 }) [.ref a0, .ref a1, .int x2, .int x3] := by
  refine sg_ofW (by decide +kernel) (Nat.le_of_ble_eq_true rfl) (fun p e s m below meth c X hr hlk hb hK hC hG ls hl => ?_)
  have hS : va_S (fun q : Nat => base ≤ q) s.heap s.heap [] := va_S.rf
  have hl : lv_has ls 4 [(0, .ref a0), (1, .ref a1), (2, .int x2), (3, .int x3)] := hl
  refine lv_aload_n X.1 X.2.1 dX12_goThrough_0 rfl (lv_at hl 0 rfl) ?_
  refine lv_aload_n X.1 X.2.1 dX12_goThrough_1 rfl (lv_at hl 1 rfl) ?_
  refine lv_iload_n X.1 X.2.1 dX12_goThrough_2 rfl (lv_at hl 2 rfl) ?_
  refine lv_iload_n X.1 X.2.1 dX12_goThrough_3 rfl (lv_at hl 3 rfl) ?_
  refine ca_X12_starts_x X hK hG hC hS hb a0 h0 a1 h1 x2 h2 x3 h3 wl_7_126 hl.1 (rest := []) rfl (Nat.le_of_ble_eq_true rfl) ⟨Nat.le_of_ble_eq_true rfl, Nat.le_of_ble_eq_true rfl⟩ ⟨Nat.le_of_ble_eq_true rfl, Nat.le_of_ble_eq_true rfl⟩ dX12_goThrough_4 (fun tg1 H locs htg1 hWg1 hS => ?_)
  have hG := hWg1.2.2.2
  rw [htg1] at hG
  refine lv_aload_n X.1 X.2.1 dX12_goThrough_7 rfl (lv_at hl 0 rfl) ?_
  refine lv_bipush (v := 121) X.1 X.2.1 dX12_goThrough_8 (by decide +kernel) ?_
  refine pf_X12_13r X hK hG hS h0 wl_6_191 ⟨_, rfl, (iv_top _)⟩ dX12_goThrough_10 (fun H locs hG hS ku2 ru2 => ?_)
  refine lv_aload_n X.1 X.2.1 dX12_goThrough_13 rfl (lv_at hl 0 rfl) ?_
  refine lv_iconst (v := 0) X.1 X.2.1 dX12_goThrough_14 (by decide +kernel) ?_
  refine pf_X12_12R (d2 := 0) X hK hG hS h0 wl_6_190 ⟨_, rfl, (iv_of (iv_c 0 (a := 0) (b := 0) (by decide +kernel)) (a' := 0) (b' := 6) (by decide +kernel))⟩ dX12_goThrough_15 (fun H locs hG hS => ?_)
  refine lv_aload_n X.1 X.2.1 dX12_goThrough_18 rfl (lv_at hl 0 rfl) ?_
  refine lv_iconst (v := 0) X.1 X.2.1 dX12_goThrough_19 (by decide +kernel) ?_
  refine pf_X12_17r X hK hG hS h0 wl_6_195 ⟨_, rfl, (iv_of (iv_c 0 (a := 0) (b := 0) (by decide +kernel)) (a' := 0) (b' := 1) (by decide +kernel))⟩ dX12_goThrough_20 (fun H locs hG hS ku3 ru3 => ?_)
  refine lv_aload_n X.1 X.2.1 dX12_goThrough_23 rfl (lv_at hl 0 rfl) ?_
  refine lv_iconst (v := 0) X.1 X.2.1 dX12_goThrough_24 (by decide +kernel) ?_
  refine pf_X12_14r X hK hG hS h0 wl_6_192 ⟨_, rfl, (iv_top _)⟩ dX12_goThrough_25 (fun H locs hG hS ku4 ru4 => ?_)
  refine lv_aload_n X.1 X.2.1 dX12_goThrough_28 rfl (lv_at hl 0 rfl) ?_
  refine ca_X12_clause X hK hG hC hS hb a0 h0 ⟨by omega, by omega, by omega, by omega, by omega⟩ wl_7_210 hl.1 (rest := []) rfl (Nat.le_of_ble_eq_true rfl) ⟨Nat.le_of_ble_eq_true rfl, Nat.le_of_ble_eq_true rfl⟩ ⟨Nat.le_of_ble_eq_true rfl, Nat.le_of_ble_eq_true rfl⟩ dX12_goThrough_29 (fun H locs hG hS => ?_)
  have B6_32 : ∀ (N : Nat) (H : Heap) (locs : List Loc) (ls : Array Slot) (lo6 : Int), 0 ≤ lo6 → lo6 ≤ 241 → sgG (KR true 0 lo6 241 0 (-1) P) D vwCl (fun q : Nat => base ≤ q) tys ad ks H → va_S (fun q : Nat => base ≤ q) s.heap H locs → lv_has ls 4 [(0, .ref a0)] → (242 - lo6).toNat ≤ N → W p l e (headSpec (Cond.code yX12_goThrough cX12_goThrough 4 none :: sg_tbl) ({ frames := 31, cells := 0, slots := 0, locals := 723 })).room s m #[.ref a0, .ref a1, .int x2, .int x3] below meth c H locs 0 0 (MQ below (va_Qv (fun (_ : Unit) => True) (fun _ => sgB (KT P) D vwCl base tys ad ks) (fun q : Nat => base ≤ q)) #[.ref a0, .ref a1, .int x2, .int x3] s 0 0 (fun q : Nat => base ≤ q)) (F0 m 32 ls []) := by
    intro N; induction N with
    | zero =>
      intro H locs ls lo6 jl6 jm6 hG hS hl hN
      exact absurd hN (by have := jm6; omega)
    | succ N ih6 =>
      intro H locs ls lo6 jl6 jm6 hG hS hl hN6
      refine lv_aload_n X.1 X.2.1 dX12_goThrough_32 rfl (lv_at hl 0 rfl) ?_
      refine gf_X12_11r X hK hG h0 wl_6_189 dX12_goThrough_33 (fun f7 hf7 kf7 => ?_)
      have ⟨laf7, uaf7⟩ : (-1) ≤ f7.toInt ∧ f7.toInt ≤ 241 := hf7
      have hf7 : iv (-1) 241 f7 := ⟨by omega, by omega⟩
      refine lv_iconst (v := (-1)) X.1 X.2.1 dX12_goThrough_36 (by decide +kernel) ?_
      have B9_66 : ∀ (H : Heap) (locs : List Loc) (ls : Array Slot) (lo9 : Int), lo6 ≤ lo9 → lo9 ≤ 241 → sgG (KR true 0 lo9 241 0 (-1) P) D vwCl (fun q : Nat => base ≤ q) tys ad ks H → va_S (fun q : Nat => base ≤ q) s.heap H locs → lv_has ls 4 [(0, .ref a0)] → W p l e (headSpec (Cond.code yX12_goThrough cX12_goThrough 4 none :: sg_tbl) ({ frames := 31, cells := 0, slots := 0, locals := 723 })).room s m #[.ref a0, .ref a1, .int x2, .int x3] below meth c H locs 0 0 (MQ below (va_Qv (fun (_ : Unit) => True) (fun _ => sgB (KT P) D vwCl base tys ad ks) (fun q : Nat => base ≤ q)) #[.ref a0, .ref a1, .int x2, .int x3] s 0 0 (fun q : Nat => base ≤ q)) (F0 m 66 ls []) := by
        intro H locs ls lo9 jl9 jm9 hG hS hl
        refine lv_aload_n X.1 X.2.1 dX12_goThrough_66 rfl (lv_at hl 0 rfl) ?_
        refine gf_X12_11r X hK hG h0 wl_6_189 dX12_goThrough_67 (fun f10 hf10 kf10 => ?_)
        have ⟨laf10, uaf10⟩ : (-1) ≤ f10.toInt ∧ f10.toInt ≤ 241 := hf10
        have hf10 : iv (-1) 241 f10 := ⟨by omega, by omega⟩
        refine lv_iconst (v := (-1)) X.1 X.2.1 dX12_goThrough_70 (by decide +kernel) ?_
        refine lv_icmp_ne (tgt := 87) X.1 X.2.1 dX12_goThrough_71 (by decide) (fun c11 => ?_) (fun c11 => ?_)
        · have hG := sgr_toKT hG (by omega) (by omega) (by omega)
          exact sg_vret X hr hlk hb hK hC hG hS dX12_goThrough_87
        · refine lv_aload_n X.1 X.2.1 dX12_goThrough_74 rfl (lv_at hl 0 rfl) ?_
          refine ca_X12_look X hK hG hC hS hb a0 h0 ⟨by omega, by omega, by omega, by omega, by omega⟩ ⟨by omega, by omega, by omega⟩ wl_7_137 hl.1 (rest := []) rfl (Nat.le_of_ble_eq_true rfl) ⟨Nat.le_of_ble_eq_true rfl, Nat.le_of_ble_eq_true rfl⟩ ⟨Nat.le_of_ble_eq_true rfl, Nat.le_of_ble_eq_true rfl⟩ dX12_goThrough_75 (fun f12 tf12 H locs htf12 hf12 hWf12 hS => ?_)
          obtain ⟨hBf12, v13, kv13, hv13, lv13⟩ := hWf12
          have hG := hBf12.2.2.2
          rw [htf12] at hG kv13
          have ⟨lav13, uav13⟩ : lo9 ≤ v13.toInt ∧ v13.toInt ≤ 241 := hv13
          have hv13 : iv 0 241 v13 := ⟨by omega, by omega⟩
          refine lv_iconst (v := (-1)) X.1 X.2.1 dX12_goThrough_78 (by decide +kernel) ?_
          refine lv_icmp_eq (tgt := 87) X.1 X.2.1 dX12_goThrough_79 (by decide) (fun c14 => ?_) (fun c14 => ?_)
          · have hG := sgr_toKT hG (by omega) (by omega) (by omega)
            exact sg_vret X hr hlk hb hK hC hG hS dX12_goThrough_87
          · refine lv_aload_n X.1 X.2.1 dX12_goThrough_82 rfl (lv_at hl 0 rfl) ?_
            refine ca_X12_fails X hK hG hC hS hb a0 h0 ⟨by omega, by omega, by omega, by omega, by omega⟩ wl_7_141 hl.1 (rest := []) rfl (Nat.le_of_ble_eq_true rfl) ⟨Nat.le_of_ble_eq_true rfl, Nat.le_of_ble_eq_true rfl⟩ ⟨Nat.le_of_ble_eq_true rfl, Nat.le_of_ble_eq_true rfl⟩ dX12_goThrough_83 (fun f15 H locs hf15 hG hS => ?_)
            refine lv_pop X.1 X.2.1 dX12_goThrough_86 rfl ?_
            have hG := sgr_toKT hG (by omega) (by omega) (by omega)
            exact sg_vret X hr hlk hb hK hC hG hS dX12_goThrough_87
      refine lv_icmp_ne (tgt := 66) X.1 X.2.1 dX12_goThrough_37 (by decide) (fun c8 => ?_) (fun c8 => ?_)
      · exact B9_66 H _ _ lo6 (by omega) (by omega) hG hS (lv_sub hl [0] rfl)
      · refine lv_aload_n X.1 X.2.1 dX12_goThrough_40 rfl (lv_at hl 0 rfl) ?_
        refine ca_X12_look X hK hG hC hS hb a0 h0 ⟨by omega, by omega, by omega, by omega, by omega⟩ ⟨by omega, by omega, by omega⟩ wl_7_137 hl.1 (rest := []) rfl (Nat.le_of_ble_eq_true rfl) ⟨Nat.le_of_ble_eq_true rfl, Nat.le_of_ble_eq_true rfl⟩ ⟨Nat.le_of_ble_eq_true rfl, Nat.le_of_ble_eq_true rfl⟩ dX12_goThrough_41 (fun f16 tf16 H locs htf16 hf16 hWf16 hS => ?_)
        obtain ⟨hBf16, v17, kv17, hv17, lv17⟩ := hWf16
        have hG := hBf16.2.2.2
        rw [htf16] at hG kv17
        have ⟨lav17, uav17⟩ : lo6 ≤ v17.toInt ∧ v17.toInt ≤ 241 := hv17
        have hv17 : iv 0 241 v17 := ⟨by omega, by omega⟩
        refine lv_bipush (v := 59) X.1 X.2.1 dX12_goThrough_44 (by decide +kernel) ?_
        refine lv_icmp_ne (tgt := 66) X.1 X.2.1 dX12_goThrough_46 (by decide) (fun c18 => ?_) (fun c18 => ?_)
        · exact B9_66 H _ _ lo6 (by omega) (by omega) hG hS (lv_sub hl [0] rfl)
        · refine lv_aload_n X.1 X.2.1 dX12_goThrough_49 rfl (lv_at hl 0 rfl) ?_
          refine lv_dup X.1 X.2.1 dX12_goThrough_50 rfl ?_
          refine gg_X12_10r X hK hG h0 wl_6_188 kv17 dX12_goThrough_51 ?_
          refine lv_iconst (v := 1) X.1 X.2.1 dX12_goThrough_54 (by decide +kernel) ?_
          refine lv_iadd X.1 X.2.1 dX12_goThrough_55 ?_
          refine lv_topi (fun f19 ef19 => ?_)
          have sf19 : f19.toInt = v17.toInt + 1 := sg_inc (k := 1) ef19 (sg_lk (iv_eqm (a' := 59) (b' := 59) c18 hf16 (iv_c 59 (a := 59) (b := 59) (by decide +kernel)) (by decide +kernel)) lv17 hv17) (by decide +kernel)
          have uf19 : f19.toInt ≤ 241 := Int.le_trans ((iv_add (a' := 1) (b' := 240) ef19 (sg_lk (iv_eqm (a' := 59) (b' := 59) c18 hf16 (iv_c 59 (a := 59) (b := 59) (by decide +kernel)) (by decide +kernel)) lv17 hv17) (iv_c 1 (a := 1) (b := 1) (by decide +kernel)) (by decide +kernel))).2 (by omega)
          refine pf_X12_10R (lo2 := f19.toInt) (hi2 := 241) X hK hG hS h0 wl_6_188 ⟨_, rfl, Int.le_refl _, uf19⟩ dX12_goThrough_56 (fun H locs hG hS => ?_)
          refine lv_aload_n X.1 X.2.1 dX12_goThrough_59 rfl (lv_at hl 0 rfl) ?_
          refine ca_X12_clause X hK hG hC hS hb a0 h0 ⟨by omega, by omega, by omega, by omega, by omega⟩ wl_7_210 hl.1 (rest := []) rfl (Nat.le_of_ble_eq_true rfl) ⟨Nat.le_of_ble_eq_true rfl, Nat.le_of_ble_eq_true rfl⟩ ⟨Nat.le_of_ble_eq_true rfl, Nat.le_of_ble_eq_true rfl⟩ dX12_goThrough_60 (fun H locs hG hS => ?_)
          refine lv_goto (tgt := 32) X.1 X.2.1 dX12_goThrough_63 (by decide) ?_
          exact ih6 H _ _ f19.toInt (by omega) (by omega) hG hS (lv_sub hl [0] rfl) (by omega)
  exact B6_32 _ H _ _ 0 (by omega) (by omega) hG hS (lv_sub hl [0] rfl) (Nat.le_refl _)

theorem ca_X12_goThrough_x   (X : CallFix p m c cc nL s args sg_tbl own) (hK : va_K D vwCl tys s) (hG : sgG (KT P) D vwCl (fun q : Nat => base ≤ q) tys ad ks H) (hC : sgC base s) (hS : va_S (fun q : Nat => base ≤ q) s.heap H locs) (hb : base ≤ s.heap.size) (a0 : Nat) (h0 : isK ad ks 12 a0) (a1 : Nat) (h1 : isK ad ks 46 a1) (x2 : Int32) (h2 : iv 0 720 x2) (x3 : Int32) (h3 : iv 0 240 x3) (hl : Cond.methodLink own index yX12_goThrough ∈ sg_tbl) (hsize : ls.size = nL) (hst : st0 = [.ref a1, .int x2, .int x3].reverse ++ .ref a0 :: rest) (hW : (rest.map fun v => v.category).sum ≤ 8) (hR : 32 ≤ R.frames ∧ 746 ≤ R.locals) (hf : cells ≤ R.cells ∧ slots ≤ R.slots) (hdg : decode cc pc = .ok (.invokevirtual index, 3)) (kk : ∀ (H1 : Heap) (locs1 : List Loc), sgG (KT P) D vwCl (fun q : Nat => base ≤ q) tys ad ks H1 → va_S (fun q : Nat => base ≤ q) s.heap H1 locs1 → W p l e R s m args below meth c H1 locs1 cells slots Q (F0 m (pc + 3) ls rest)) : W p l e R s m args below meth c H locs cells slots Q (F0 m pc ls st0) :=
  sg_callVv X hK hG hC hS hb (m_X12_goThrough_x l a0 h0 a1 h1 x2 h2 x3 h3) h0 (k := 12) (ci := 12) rfl (C := RX12) (T := TX12) (N := 53) rfl wl_7_209 wl_1_13 wl_7_208 wl_0_58 (n := 3) (by decide +kernel) rfl rfl rfl hl hsize hst hW hR hf hdg kk

set_option maxHeartbeats 8000000 in
set_option maxRecDepth 100000 in
theorem m_X12_readGame (l : Launch) {D : va_G} {base : Nat} {tys : List (ClassId × FieldType)} {ad ks : List Nat} {P : sgPm} (a0 : Nat) (h0 : isK ad ks 12 a0) : sgMv l (KT P) D vwCl base tys ad ks yX12_readGame cX12_readGame 3 none ({ frames := 6, cells := 0, slots := 0, locals := 130 }) [.ref a0] := by
  refine sg_ofW (by decide +kernel) (Nat.le_of_ble_eq_true rfl) (fun p e s m below meth c X hr hlk hb hK hC hG ls hl => ?_)
  have hS : va_S (fun q : Nat => base ≤ q) s.heap s.heap [] := va_S.rf
  have hl : lv_has ls 3 [(0, .ref a0)] := hl
  refine lv_aload_n X.1 X.2.1 dX12_readGame_0 rfl (lv_at hl 0 rfl) ?_
  refine lv_aload_n X.1 X.2.1 dX12_readGame_1 rfl (lv_at hl 0 rfl) ?_
  refine gf_X12_1 X hK hG h0 wl_6_179 dX12_readGame_2 (fun q1 hq1 kq1 => ?_)
  refine lv_iconst (v := 0) X.1 X.2.1 dX12_readGame_5 (by decide +kernel) ?_
  refine lv_aload_n X.1 X.2.1 dX12_readGame_6 rfl (lv_at hl 0 rfl) ?_
  refine gf_X12_6 X hK hG h0 wl_6_184 dX12_readGame_7 (fun f2 hf2 pf2 kf2 => ?_)
  refine ca_X12_starts_t X hK hG hC hS hb a0 h0 q1 hq1 0 (iv_c 0 (a := 0) (b := 0) (by decide +kernel)) f2 hf2 wl_7_126 hl.1 (rest := []) rfl (Nat.le_of_ble_eq_true rfl) ⟨Nat.le_of_ble_eq_true rfl, Nat.le_of_ble_eq_true rfl⟩ ⟨Nat.le_of_ble_eq_true rfl, Nat.le_of_ble_eq_true rfl⟩ dX12_readGame_10 (fun tg3 H locs htg3 hWg3 hS => ?_)
  have hG := hWg3.2.2.2
  rw [htg3] at hG
  refine lv_iconst (v := 0) X.1 X.2.1 dX12_readGame_13 (by decide +kernel) ?_
  refine lv_istore_n (lv' := [(1, .int 0), (0, .ref a0)]) X.1 X.2.1 dX12_readGame_14 rfl hl (by decide) rfl (fun ls hl => ?_)
  refine lv_iconst (v := 1) X.1 X.2.1 dX12_readGame_15 (by decide +kernel) ?_
  refine lv_istore_n (lv' := [(2, .int 1), (1, .int 0), (0, .ref a0)]) X.1 X.2.1 dX12_readGame_16 rfl hl (by decide) rfl (fun ls hl => ?_)
  refine lv_iload_n X.1 X.2.1 dX12_readGame_17 rfl (lv_at hl 0 rfl) ?_
  refine lv_if_eq (tgt := 91) X.1 X.2.1 dX12_readGame_18 (by decide) (fun c4 => ?_) (fun c4 => ?_)
  · exact ((iv_no (a := 1) (b := 0) (iv_eqm c4 (iv_c 1 (a := 1) (b := 1) (by decide +kernel)) (iv_c 0 (a := 0) (b := 0) (by decide +kernel)) (by decide +kernel)) (by decide +kernel))).elim
  · have B5_21 : ∀ (N : Nat) (H : Heap) (locs : List Loc) (ls : Array Slot) (z5_1 : Int32) (lo5 : Int), 0 ≤ lo5 → lo5 ≤ 241 → sgG (KR false 0 lo5 241 0 (-1) P) D vwCl (fun q : Nat => base ≤ q) tys ad ks H → va_S (fun q : Nat => base ≤ q) s.heap H locs → lv_has ls 3 [(0, .ref a0), (1, .int z5_1)] → iv 0 15 z5_1 → (242 - lo5).toNat ≤ N → W p l e (headSpec (Cond.code yX12_readGame cX12_readGame 3 none :: sg_tbl) ({ frames := 6, cells := 0, slots := 0, locals := 130 })).room s m #[.ref a0] below meth c H locs 0 0 (MQ below (va_Qv (fun (_ : Unit) => True) (fun _ => sgB (KT P) D vwCl base tys ad ks) (fun q : Nat => base ≤ q)) #[.ref a0] s 0 0 (fun q : Nat => base ≤ q)) (F0 m 21 ls []) := by
      intro N; induction N with
      | zero =>
        intro H locs ls z5_1 lo5 jl5 jm5 hG hS hl hz5_1 hN
        exact absurd hN (by have := jm5; omega)
      | succ N ih5 =>
        intro H locs ls z5_1 lo5 jl5 jm5 hG hS hl hz5_1 hN5
        refine lv_aload_n X.1 X.2.1 dX12_readGame_21 rfl (lv_at hl 0 rfl) ?_
        refine lv_iconst (v := 4) X.1 X.2.1 dX12_readGame_22 (by decide +kernel) ?_
        refine lv_bipush (v := 64) X.1 X.2.1 dX12_readGame_23 (by decide +kernel) ?_
        refine lv_iload_n X.1 X.2.1 dX12_readGame_25 rfl (lv_at hl 1 rfl) ?_
        refine lv_iadd X.1 X.2.1 dX12_readGame_26 ?_
        refine lv_topi (fun f6 ef6 => ?_)
        refine lv_imul X.1 X.2.1 dX12_readGame_27 ?_
        refine lv_topi (fun f7 ef7 => ?_)
        refine ca_X12_readMove X hK hG hC hS hb a0 h0 f7 (iv_mul (a' := 256) (b' := 316) ef7 (iv_c 4 (a := 4) (b := 4) (by decide +kernel)) (iv_add (a' := 64) (b' := 79) ef6 (iv_c 64 (a := 64) (b := 64) (by decide +kernel)) hz5_1 (by decide +kernel)) (by decide +kernel)) ⟨by omega, by omega, by omega, by omega, by omega⟩ (by omega) wl_8_31 hl.1 (rest := []) rfl (Nat.le_of_ble_eq_true rfl) ⟨Nat.le_of_ble_eq_true rfl, Nat.le_of_ble_eq_true rfl⟩ ⟨Nat.le_of_ble_eq_true rfl, Nat.le_of_ble_eq_true rfl⟩ dX12_readGame_28 (fun H locs hG hS => ?_)
        refine lv_aload_n X.1 X.2.1 dX12_readGame_31 rfl (lv_at hl 0 rfl) ?_
        refine gf_X12_11r X hK hG h0 wl_6_189 dX12_readGame_32 (fun f9 hf9 kf9 => ?_)
        have ⟨laf9, uaf9⟩ : (-1) ≤ f9.toInt ∧ f9.toInt ≤ 241 := hf9
        have hf9 : iv (-1) 241 f9 := ⟨by omega, by omega⟩
        refine lv_iconst (v := (-1)) X.1 X.2.1 dX12_readGame_35 (by decide +kernel) ?_
        refine lv_icmp_eq (tgt := 40) X.1 X.2.1 dX12_readGame_36 (by decide) (fun c10 => ?_) (fun c10 => ?_)
        · obtain ⟨y11, ey11⟩ : ∃ y : Int32, y = z5_1 + Int32.ofInt 1 := ⟨_, rfl⟩
          refine lv_iinc (v := y11) (lv' := [(1, .int y11), (0, .ref a0)]) X.1 X.2.1 dX12_readGame_40 hl (k := 1) rfl ey11.symm (by decide) rfl (fun ls hl => ?_)
          refine lv_aload_n X.1 X.2.1 dX12_readGame_43 rfl (lv_at hl 1 rfl) ?_
          refine ca_X12_look X hK hG hC hS hb a0 h0 ⟨by omega, by omega, by omega, by omega, by omega⟩ ⟨by omega, by omega, by omega⟩ wl_7_137 hl.1 (rest := []) rfl (Nat.le_of_ble_eq_true rfl) ⟨Nat.le_of_ble_eq_true rfl, Nat.le_of_ble_eq_true rfl⟩ ⟨Nat.le_of_ble_eq_true rfl, Nat.le_of_ble_eq_true rfl⟩ dX12_readGame_44 (fun f12 tf12 H locs htf12 hf12 hWf12 hS => ?_)
          obtain ⟨hBf12, v13, kv13, hv13, lv13⟩ := hWf12
          have hG := hBf12.2.2.2
          rw [htf12] at hG kv13
          have ⟨lav13, uav13⟩ : lo5 ≤ v13.toInt ∧ v13.toInt ≤ 241 := hv13
          have hv13 : iv 0 241 v13 := ⟨by omega, by omega⟩
          refine lv_bipush (v := 59) X.1 X.2.1 dX12_readGame_47 (by decide +kernel) ?_
          refine lv_icmp_ne (tgt := 56) X.1 X.2.1 dX12_readGame_49 (by decide) (fun c14 => ?_) (fun c14 => ?_)
          · refine lv_iconst (v := 0) X.1 X.2.1 dX12_readGame_56 (by decide +kernel) ?_
            refine lv_istore_n (lv' := [(2, .int 0), (1, .int y11), (0, .ref a0)]) X.1 X.2.1 dX12_readGame_57 rfl hl (by decide) rfl (fun ls hl => ?_)
            refine lv_iload_n X.1 X.2.1 dX12_readGame_58 rfl (lv_at hl 0 rfl) ?_
            refine lv_if_eq (tgt := 74) X.1 X.2.1 dX12_readGame_59 (by decide) (fun c15 => ?_) (fun c15 => ?_)
            · refine lv_iload_n X.1 X.2.1 dX12_readGame_74 rfl (lv_at hl 0 rfl) ?_
              refine lv_if_eq (tgt := 17) X.1 X.2.1 dX12_readGame_75 (by decide) (fun c16 => ?_) (fun c16 => ?_)
              · refine lv_iload_n X.1 X.2.1 dX12_readGame_17 rfl (lv_at hl 0 rfl) ?_
                refine lv_if_eq (tgt := 91) X.1 X.2.1 dX12_readGame_18 (by decide) (fun c17 => ?_) (fun c17 => ?_)
                · refine lv_aload_n X.1 X.2.1 dX12_readGame_91 rfl (lv_at hl 2 rfl) ?_
                  refine gf_X12_22r X hK hG h0 wl_6_200 dX12_readGame_92 (fun q18 hq18 kq18 => ?_)
                  refine lv_iconst (v := 4) X.1 X.2.1 dX12_readGame_95 (by decide +kernel) ?_
                  refine lv_iload_n X.1 X.2.1 dX12_readGame_96 rfl (lv_at hl 1 rfl) ?_
                  refine as_53r X hK hG hS hq18 (iv_vpin (iv_c 4 (a := 4) (b := 4) (by decide +kernel)) (by decide +kernel)) (sg_gll (iv_c 4 (a := 4) (b := 4) (by decide +kernel)) (by decide +kernel) (iv_of (iv_add (a' := 1) (b' := 16) ey11 hz5_1 (iv_c _ (a := 1) (b := 1) (by decide +kernel)) (by decide +kernel)) (a' := 0) (b' := 16) (by decide +kernel))) dX12_readGame_97 (fun H locs hG hS ru19 => ?_)
                  refine lv_aload_n X.1 X.2.1 dX12_readGame_98 rfl (lv_at hl 2 rfl) ?_
                  refine ca_X12_look X hK hG hC hS hb a0 h0 ⟨by omega, by omega, by omega, by omega, by omega⟩ ⟨by omega, by omega, by omega⟩ wl_7_137 hl.1 (rest := []) rfl (Nat.le_of_ble_eq_true rfl) ⟨Nat.le_of_ble_eq_true rfl, Nat.le_of_ble_eq_true rfl⟩ ⟨Nat.le_of_ble_eq_true rfl, Nat.le_of_ble_eq_true rfl⟩ dX12_readGame_99 (fun f20 tf20 H locs htf20 hf20 hWf20 hS => ?_)
                  obtain ⟨hBf20, v21, kv21, hv21, lv21⟩ := hWf20
                  have hG := hBf20.2.2.2
                  rw [htf20] at hG kv21
                  have ⟨lav21, uav21⟩ : lo5 ≤ v21.toInt ∧ v21.toInt ≤ 241 := hv21
                  have hv21 : iv 0 241 v21 := ⟨by omega, by omega⟩
                  refine lv_iconst (v := (-1)) X.1 X.2.1 dX12_readGame_102 (by decide +kernel) ?_
                  refine lv_icmp_eq (tgt := 111) X.1 X.2.1 dX12_readGame_103 (by decide) (fun c22 => ?_) (fun c22 => ?_)
                  · have hG := sgr_toKT hG (by omega) (by omega) (by omega)
                    exact sg_vret X hr hlk hb hK hC hG hS dX12_readGame_111
                  · refine lv_aload_n X.1 X.2.1 dX12_readGame_106 rfl (lv_at hl 2 rfl) ?_
                    refine ca_X12_fails X hK hG hC hS hb a0 h0 ⟨by omega, by omega, by omega, by omega, by omega⟩ wl_7_141 hl.1 (rest := []) rfl (Nat.le_of_ble_eq_true rfl) ⟨Nat.le_of_ble_eq_true rfl, Nat.le_of_ble_eq_true rfl⟩ ⟨Nat.le_of_ble_eq_true rfl, Nat.le_of_ble_eq_true rfl⟩ dX12_readGame_107 (fun f23 H locs hf23 hG hS => ?_)
                    refine lv_pop X.1 X.2.1 dX12_readGame_110 rfl ?_
                    have hG := sgr_toKT hG (by omega) (by omega) (by omega)
                    exact sg_vret X hr hlk hb hK hC hG hS dX12_readGame_111
                · exact ((c17 (iv_one (iv_c 0 (a := 0) (b := 0) (by decide +kernel)) (iv_c 0 (a := 0) (b := 0) (by decide +kernel)) (by decide +kernel)))).elim
              · exact ((c16 (iv_one (iv_c 0 (a := 0) (b := 0) (by decide +kernel)) (iv_c 0 (a := 0) (b := 0) (by decide +kernel)) (by decide +kernel)))).elim
            · exact ((c15 (iv_one (iv_c 0 (a := 0) (b := 0) (by decide +kernel)) (iv_c 0 (a := 0) (b := 0) (by decide +kernel)) (by decide +kernel)))).elim
          · refine lv_iconst (v := 1) X.1 X.2.1 dX12_readGame_52 (by decide +kernel) ?_
            refine lv_goto (tgt := 57) X.1 X.2.1 dX12_readGame_53 (by decide) ?_
            refine lv_istore_n (lv' := [(2, .int 1), (1, .int y11), (0, .ref a0)]) X.1 X.2.1 dX12_readGame_57 rfl hl (by decide) rfl (fun ls hl => ?_)
            refine lv_iload_n X.1 X.2.1 dX12_readGame_58 rfl (lv_at hl 0 rfl) ?_
            refine lv_if_eq (tgt := 74) X.1 X.2.1 dX12_readGame_59 (by decide) (fun c24 => ?_) (fun c24 => ?_)
            · exact ((iv_no (a := 1) (b := 0) (iv_eqm c24 (iv_c 1 (a := 1) (b := 1) (by decide +kernel)) (iv_c 0 (a := 0) (b := 0) (by decide +kernel)) (by decide +kernel)) (by decide +kernel))).elim
            · refine lv_iload_n X.1 X.2.1 dX12_readGame_62 rfl (lv_at hl 1 rfl) ?_
              refine lv_bipush (v := 16) X.1 X.2.1 dX12_readGame_63 (by decide +kernel) ?_
              refine lv_icmp_ne (tgt := 74) X.1 X.2.1 dX12_readGame_65 (by decide) (fun c25 => ?_) (fun c25 => ?_)
              · refine lv_iload_n X.1 X.2.1 dX12_readGame_74 rfl (lv_at hl 0 rfl) ?_
                refine lv_if_eq (tgt := 17) X.1 X.2.1 dX12_readGame_75 (by decide) (fun c26 => ?_) (fun c26 => ?_)
                · exact ((iv_no (a := 1) (b := 0) (iv_eqm c26 (iv_c 1 (a := 1) (b := 1) (by decide +kernel)) (iv_c 0 (a := 0) (b := 0) (by decide +kernel)) (by decide +kernel)) (by decide +kernel))).elim
                · refine lv_aload_n X.1 X.2.1 dX12_readGame_78 rfl (lv_at hl 2 rfl) ?_
                  refine lv_dup X.1 X.2.1 dX12_readGame_79 rfl ?_
                  refine gg_X12_10r X hK hG h0 wl_6_188 kv13 dX12_readGame_80 ?_
                  refine lv_iconst (v := 1) X.1 X.2.1 dX12_readGame_83 (by decide +kernel) ?_
                  refine lv_iadd X.1 X.2.1 dX12_readGame_84 ?_
                  refine lv_topi (fun f27 ef27 => ?_)
                  have sf27 : f27.toInt = v13.toInt + 1 := sg_inc (k := 1) ef27 (sg_lk (iv_eqm (a' := 59) (b' := 59) c14 hf12 (iv_c 59 (a := 59) (b := 59) (by decide +kernel)) (by decide +kernel)) lv13 hv13) (by decide +kernel)
                  have uf27 : f27.toInt ≤ 241 := Int.le_trans ((iv_add (a' := 1) (b' := 240) ef27 (sg_lk (iv_eqm (a' := 59) (b' := 59) c14 hf12 (iv_c 59 (a := 59) (b := 59) (by decide +kernel)) (by decide +kernel)) lv13 hv13) (iv_c 1 (a := 1) (b := 1) (by decide +kernel)) (by decide +kernel))).2 (by omega)
                  refine pf_X12_10R (lo2 := f27.toInt) (hi2 := 241) X hK hG hS h0 wl_6_188 ⟨_, rfl, Int.le_refl _, uf27⟩ dX12_readGame_85 (fun H locs hG hS => ?_)
                  refine lv_goto (tgt := 17) X.1 X.2.1 dX12_readGame_88 (by decide) ?_
                  refine lv_iload_n X.1 X.2.1 dX12_readGame_17 rfl (lv_at hl 0 rfl) ?_
                  refine lv_if_eq (tgt := 91) X.1 X.2.1 dX12_readGame_18 (by decide) (fun c28 => ?_) (fun c28 => ?_)
                  · exact ((iv_no (a := 1) (b := 0) (iv_eqm c28 (iv_c 1 (a := 1) (b := 1) (by decide +kernel)) (iv_c 0 (a := 0) (b := 0) (by decide +kernel)) (by decide +kernel)) (by decide +kernel))).elim
                  · exact ih5 H _ _ y11 f27.toInt (by omega) (by omega) hG hS (lv_sub hl [2, 1] rfl) (iv_of (iv_ne_hi (b' := 15) c25 (iv_add (a' := 1) (b' := 16) ey11 hz5_1 (iv_c _ (a := 1) (b := 1) (by decide +kernel)) (by decide +kernel)) (by decide +kernel)) (a' := 0) (b' := 15) (by decide +kernel)) (by omega)
              · refine lv_aload_n X.1 X.2.1 dX12_readGame_68 rfl (lv_at hl 2 rfl) ?_
                refine ca_X12_fails X hK hG hC hS hb a0 h0 ⟨by omega, by omega, by omega, by omega, by omega⟩ wl_7_141 hl.1 (rest := []) rfl (Nat.le_of_ble_eq_true rfl) ⟨Nat.le_of_ble_eq_true rfl, Nat.le_of_ble_eq_true rfl⟩ ⟨Nat.le_of_ble_eq_true rfl, Nat.le_of_ble_eq_true rfl⟩ dX12_readGame_69 (fun f29 H locs hf29 hG hS => ?_)
                refine lv_pop X.1 X.2.1 dX12_readGame_72 rfl ?_
                have hG := sgr_toKT hG (by omega) (by omega) (by omega)
                exact sg_vret X hr hlk hb hK hC hG hS dX12_readGame_73
        · have hG := sgr_toKT hG (by omega) (by omega) (by omega)
          exact sg_vret X hr hlk hb hK hC hG hS dX12_readGame_39
    exact B5_21 _ H _ _ 0 0 (by omega) (by omega) hG hS (lv_sub hl [2, 1] rfl) (iv_of (iv_c 0 (a := 0) (b := 0) (by decide +kernel)) (a' := 0) (b' := 15) (by decide +kernel)) (Nat.le_refl _)

theorem ca_X12_readGame   (X : CallFix p m c cc nL s args sg_tbl own) (hK : va_K D vwCl tys s) (hG : sgG (KT P) D vwCl (fun q : Nat => base ≤ q) tys ad ks H) (hC : sgC base s) (hS : va_S (fun q : Nat => base ≤ q) s.heap H locs) (hb : base ≤ s.heap.size) (a0 : Nat) (h0 : isK ad ks 12 a0) (hl : Cond.methodLink own index yX12_readGame ∈ sg_tbl) (hsize : ls.size = nL) (hst : st0 = [].reverse ++ .ref a0 :: rest) (hW : (rest.map fun v => v.category).sum ≤ 8) (hR : 7 ≤ R.frames ∧ 152 ≤ R.locals) (hf : cells ≤ R.cells ∧ slots ≤ R.slots) (hdg : decode cc pc = .ok (.invokevirtual index, 3)) (kk : ∀ (H1 : Heap) (locs1 : List Loc), sgG (KT P) D vwCl (fun q : Nat => base ≤ q) tys ad ks H1 → va_S (fun q : Nat => base ≤ q) s.heap H1 locs1 → W p l e R s m args below meth c H1 locs1 cells slots Q (F0 m (pc + 3) ls rest)) : W p l e R s m args below meth c H locs cells slots Q (F0 m pc ls st0) :=
  sg_callVv X hK hG hC hS hb (m_X12_readGame l a0 h0) h0 (k := 12) (ci := 12) rfl (C := RX12) (T := TX12) (N := 53) rfl wl_8_30 wl_1_13 wl_8_29 wl_0_69 (n := 0) (by decide +kernel) rfl rfl rfl hl hsize hst hW hR hf hdg kk

set_option maxHeartbeats 8000000 in
set_option maxRecDepth 100000 in
theorem m_X12_writes_n (l : Launch) {D : va_G} {base : Nat} {tys : List (ClassId × FieldType)} {ad ks : List Nat} {P : sgPm} (a0 : Nat) (h0 : isK ad ks 54 a0) (x1 : Int32) (x2 : Int32) (x3 : Int32) (x4 : Int32) : sgMv l (KT P) D vwCl base tys ad ks yX12_writes cX12_writes 6 none ({ frames := 0, cells := 0, slots := 0, locals := 0 }) [.ref a0, .int x1, .int x2, .int x3, .int x4] := by
  refine sg_ofW (by decide +kernel) (Nat.le_of_ble_eq_true rfl) (fun p e s m below meth c X hr hlk hb hK hC hG ls hl => ?_)
  have hS : va_S (fun q : Nat => base ≤ q) s.heap s.heap [] := va_S.rf
  have hl : lv_has ls 6 [(0, .ref a0), (1, .int x1), (2, .int x2), (3, .int x3), (4, .int x4)] := hl
  refine lv_aload_n X.1 X.2.1 dX12_writes_0 rfl (lv_at hl 0 rfl) ?_
  refine lv_bipush (v := 8) X.1 X.2.1 dX12_writes_1 (by decide +kernel) ?_
  refine sg_ialdE X hK hG h0 (k := 54) rfl (iv_vpin (iv_c 8 (a := 8) (b := 8) (by decide +kernel)) (by decide +kernel)) (n0 := 8) (sg_cl (iv_c 8 (a := 8) (b := 8) (by decide +kernel)) (by decide +kernel)) dX12_writes_3 (fun f1 hf1 kf1 => ?_)
  have hf1 := sg_nw_now hf1
  have of1 := hf1
  have hf1 : iv 0 60 f1 := sg_sp_now hf1 (iv_c 8 (a := 8) (b := 8) (by decide +kernel)) (by decide +kernel) rfl
  refine lv_bipush (v := 60) X.1 X.2.1 dX12_writes_4 (by decide +kernel) ?_
  have B3_50 : ∀ (H : Heap) (locs : List Loc) (ls : Array Slot) (v3_0_e8 : Int32), sgG (KT P) D vwCl (fun q : Nat => base ≤ q) tys ad ks H → va_S (fun q : Nat => base ≤ q) s.heap H locs → lv_has ls 6 [(0, .ref a0), (1, .int x1), (2, .int x2), (3, .int x3), (4, .int x4)] → iv 0 59 v3_0_e8 → ele H a0 8 v3_0_e8 → W p l e (headSpec (Cond.code yX12_writes cX12_writes 6 none :: sg_tbl) ({ frames := 0, cells := 0, slots := 0, locals := 0 })).room s m #[.ref a0, .int x1, .int x2, .int x3, .int x4] below meth c H locs 0 0 (MQ below (va_Qv (fun (_ : Unit) => True) (fun _ => sgB (KT P) D vwCl base tys ad ks) (fun q : Nat => base ≤ q)) #[.ref a0, .int x1, .int x2, .int x3, .int x4] s 0 0 (fun q : Nat => base ≤ q)) (F0 m 50 ls []) := by
    intro H locs ls v3_0_e8 hG hS hl hv3_0_e8 hkv3_0_e8
    refine lv_bipush (v := 9) X.1 X.2.1 dX12_writes_50 (by decide +kernel) ?_
    refine lv_iconst (v := 4) X.1 X.2.1 dX12_writes_52 (by decide +kernel) ?_
    refine lv_aload_n X.1 X.2.1 dX12_writes_53 rfl (lv_at hl 0 rfl) ?_
    refine lv_bipush (v := 8) X.1 X.2.1 dX12_writes_54 (by decide +kernel) ?_
    refine sg_ialdK X hK hG h0 (k := 54) rfl (iv_vpin (iv_c 8 (a := 8) (b := 8) (by decide +kernel)) (by decide +kernel)) (n0 := 8) (sg_cl (iv_c 8 (a := 8) (b := 8) (by decide +kernel)) (by decide +kernel)) hkv3_0_e8 dX12_writes_56 ?_
    refine lv_imul X.1 X.2.1 dX12_writes_57 ?_
    refine lv_topi (fun f5 ef5 => ?_)
    refine lv_iadd X.1 X.2.1 dX12_writes_58 ?_
    refine lv_topi (fun f6 ef6 => ?_)
    refine lv_istore (lv' := [(5, .int f6), (0, .ref a0), (1, .int x1), (2, .int x2), (3, .int x3), (4, .int x4)]) X.1 X.2.1 dX12_writes_59 hl (by decide) rfl (fun ls hl => ?_)
    refine lv_aload_n X.1 X.2.1 dX12_writes_61 rfl (lv_at hl 1 rfl) ?_
    refine lv_iload X.1 X.2.1 dX12_writes_62 (lv_at hl 0 rfl) ?_
    refine lv_iload_n X.1 X.2.1 dX12_writes_64 rfl (lv_at hl 2 rfl) ?_
    refine sg_iastE X hK hG hS h0 (k := 54) rfl (iv_vpin (iv_add (a' := 9) (b' := 245) ef6 (iv_c 9 (a := 9) (b := 9) (by decide +kernel)) (iv_mul (a' := 0) (b' := 236) ef5 (iv_c 4 (a := 4) (b := 4) (by decide +kernel)) hv3_0_e8 (by decide +kernel)) (by decide +kernel)) (by decide +kernel)) (sg_nw_ne (sg_nei0 (iv_add (a' := 9) (b' := 245) ef6 (iv_c 9 (a := 9) (b := 9) (by decide +kernel)) (iv_mul (a' := 0) (b' := 236) ef5 (iv_c 4 (a := 4) (b := 4) (by decide +kernel)) hv3_0_e8 (by decide +kernel)) (by decide +kernel)) (by decide +kernel)) (sg_off_now (iv_add (a' := 9) (b' := 245) ef6 (iv_c 9 (a := 9) (b := 9) (by decide +kernel)) (iv_mul (a' := 0) (b' := 236) ef5 (iv_c 4 (a := 4) (b := 4) (by decide +kernel)) hv3_0_e8 (by decide +kernel)) (by decide +kernel)) (by decide +kernel))) dX12_writes_65 (fun H locs hG hS ru7 eu7 gu7 => ?_)
    refine lv_aload_n X.1 X.2.1 dX12_writes_66 rfl (lv_at hl 1 rfl) ?_
    refine lv_iload X.1 X.2.1 dX12_writes_67 (lv_at hl 0 rfl) ?_
    refine lv_iconst (v := 1) X.1 X.2.1 dX12_writes_69 (by decide +kernel) ?_
    refine lv_iadd X.1 X.2.1 dX12_writes_70 ?_
    refine lv_topi (fun f8 ef8 => ?_)
    refine lv_iload_n X.1 X.2.1 dX12_writes_71 rfl (lv_at hl 3 rfl) ?_
    refine sg_iastE X hK hG hS h0 (k := 54) rfl (iv_vpin (iv_add (a' := 10) (b' := 246) ef8 (iv_add (a' := 9) (b' := 245) ef6 (iv_c 9 (a := 9) (b := 9) (by decide +kernel)) (iv_mul (a' := 0) (b' := 236) ef5 (iv_c 4 (a := 4) (b := 4) (by decide +kernel)) hv3_0_e8 (by decide +kernel)) (by decide +kernel)) (iv_c 1 (a := 1) (b := 1) (by decide +kernel)) (by decide +kernel)) (by decide +kernel)) (sg_nw_ne (sg_nei0 (iv_add (a' := 10) (b' := 246) ef8 (iv_add (a' := 9) (b' := 245) ef6 (iv_c 9 (a := 9) (b := 9) (by decide +kernel)) (iv_mul (a' := 0) (b' := 236) ef5 (iv_c 4 (a := 4) (b := 4) (by decide +kernel)) hv3_0_e8 (by decide +kernel)) (by decide +kernel)) (iv_c 1 (a := 1) (b := 1) (by decide +kernel)) (by decide +kernel)) (by decide +kernel)) (sg_off_now (iv_add (a' := 10) (b' := 246) ef8 (iv_add (a' := 9) (b' := 245) ef6 (iv_c 9 (a := 9) (b := 9) (by decide +kernel)) (iv_mul (a' := 0) (b' := 236) ef5 (iv_c 4 (a := 4) (b := 4) (by decide +kernel)) hv3_0_e8 (by decide +kernel)) (by decide +kernel)) (iv_c 1 (a := 1) (b := 1) (by decide +kernel)) (by decide +kernel)) (by decide +kernel))) dX12_writes_72 (fun H locs hG hS ru9 eu9 gu9 => ?_)
    refine lv_aload_n X.1 X.2.1 dX12_writes_73 rfl (lv_at hl 1 rfl) ?_
    refine lv_iload X.1 X.2.1 dX12_writes_74 (lv_at hl 0 rfl) ?_
    refine lv_iconst (v := 2) X.1 X.2.1 dX12_writes_76 (by decide +kernel) ?_
    refine lv_iadd X.1 X.2.1 dX12_writes_77 ?_
    refine lv_topi (fun f10 ef10 => ?_)
    refine lv_iload_n X.1 X.2.1 dX12_writes_78 rfl (lv_at hl 4 rfl) ?_
    refine sg_iastE X hK hG hS h0 (k := 54) rfl (iv_vpin (iv_add (a' := 11) (b' := 247) ef10 (iv_add (a' := 9) (b' := 245) ef6 (iv_c 9 (a := 9) (b := 9) (by decide +kernel)) (iv_mul (a' := 0) (b' := 236) ef5 (iv_c 4 (a := 4) (b := 4) (by decide +kernel)) hv3_0_e8 (by decide +kernel)) (by decide +kernel)) (iv_c 2 (a := 2) (b := 2) (by decide +kernel)) (by decide +kernel)) (by decide +kernel)) (sg_nw_ne (sg_nei0 (iv_add (a' := 11) (b' := 247) ef10 (iv_add (a' := 9) (b' := 245) ef6 (iv_c 9 (a := 9) (b := 9) (by decide +kernel)) (iv_mul (a' := 0) (b' := 236) ef5 (iv_c 4 (a := 4) (b := 4) (by decide +kernel)) hv3_0_e8 (by decide +kernel)) (by decide +kernel)) (iv_c 2 (a := 2) (b := 2) (by decide +kernel)) (by decide +kernel)) (by decide +kernel)) (sg_off_now (iv_add (a' := 11) (b' := 247) ef10 (iv_add (a' := 9) (b' := 245) ef6 (iv_c 9 (a := 9) (b := 9) (by decide +kernel)) (iv_mul (a' := 0) (b' := 236) ef5 (iv_c 4 (a := 4) (b := 4) (by decide +kernel)) hv3_0_e8 (by decide +kernel)) (by decide +kernel)) (iv_c 2 (a := 2) (b := 2) (by decide +kernel)) (by decide +kernel)) (by decide +kernel))) dX12_writes_79 (fun H locs hG hS ru11 eu11 gu11 => ?_)
    refine lv_aload_n X.1 X.2.1 dX12_writes_80 rfl (lv_at hl 1 rfl) ?_
    refine lv_iload X.1 X.2.1 dX12_writes_81 (lv_at hl 0 rfl) ?_
    refine lv_iconst (v := 3) X.1 X.2.1 dX12_writes_83 (by decide +kernel) ?_
    refine lv_iadd X.1 X.2.1 dX12_writes_84 ?_
    refine lv_topi (fun f12 ef12 => ?_)
    refine lv_iload X.1 X.2.1 dX12_writes_85 (lv_at hl 5 rfl) ?_
    refine sg_iastE X hK hG hS h0 (k := 54) rfl (iv_vpin (iv_add (a' := 12) (b' := 248) ef12 (iv_add (a' := 9) (b' := 245) ef6 (iv_c 9 (a := 9) (b := 9) (by decide +kernel)) (iv_mul (a' := 0) (b' := 236) ef5 (iv_c 4 (a := 4) (b := 4) (by decide +kernel)) hv3_0_e8 (by decide +kernel)) (by decide +kernel)) (iv_c 3 (a := 3) (b := 3) (by decide +kernel)) (by decide +kernel)) (by decide +kernel)) (sg_nw_ne (sg_nei0 (iv_add (a' := 12) (b' := 248) ef12 (iv_add (a' := 9) (b' := 245) ef6 (iv_c 9 (a := 9) (b := 9) (by decide +kernel)) (iv_mul (a' := 0) (b' := 236) ef5 (iv_c 4 (a := 4) (b := 4) (by decide +kernel)) hv3_0_e8 (by decide +kernel)) (by decide +kernel)) (iv_c 3 (a := 3) (b := 3) (by decide +kernel)) (by decide +kernel)) (by decide +kernel)) (sg_off_now (iv_add (a' := 12) (b' := 248) ef12 (iv_add (a' := 9) (b' := 245) ef6 (iv_c 9 (a := 9) (b := 9) (by decide +kernel)) (iv_mul (a' := 0) (b' := 236) ef5 (iv_c 4 (a := 4) (b := 4) (by decide +kernel)) hv3_0_e8 (by decide +kernel)) (by decide +kernel)) (iv_c 3 (a := 3) (b := 3) (by decide +kernel)) (by decide +kernel)) (by decide +kernel))) dX12_writes_87 (fun H locs hG hS ru13 eu13 gu13 => ?_)
    refine lv_aload_n X.1 X.2.1 dX12_writes_88 rfl (lv_at hl 1 rfl) ?_
    refine lv_bipush (v := 8) X.1 X.2.1 dX12_writes_89 (by decide +kernel) ?_
    refine lv_dup2_11 X.1 X.2.1 dX12_writes_91 rfl rfl ?_
    refine sg_ialdK X hK hG h0 (k := 54) rfl (iv_vpin (iv_c 8 (a := 8) (b := 8) (by decide +kernel)) (by decide +kernel)) (n0 := 8) (sg_cl (iv_c 8 (a := 8) (b := 8) (by decide +kernel)) (by decide +kernel)) (gu13 _ _ (sg_nei (iv_add (a' := 12) (b' := 248) ef12 (iv_add (a' := 9) (b' := 245) ef6 (iv_c 9 (a := 9) (b := 9) (by decide +kernel)) (iv_mul (a' := 0) (b' := 236) ef5 (iv_c 4 (a := 4) (b := 4) (by decide +kernel)) hv3_0_e8 (by decide +kernel)) (by decide +kernel)) (iv_c 3 (a := 3) (b := 3) (by decide +kernel)) (by decide +kernel)) (by decide +kernel)) (gu11 _ _ (sg_nei (iv_add (a' := 11) (b' := 247) ef10 (iv_add (a' := 9) (b' := 245) ef6 (iv_c 9 (a := 9) (b := 9) (by decide +kernel)) (iv_mul (a' := 0) (b' := 236) ef5 (iv_c 4 (a := 4) (b := 4) (by decide +kernel)) hv3_0_e8 (by decide +kernel)) (by decide +kernel)) (iv_c 2 (a := 2) (b := 2) (by decide +kernel)) (by decide +kernel)) (by decide +kernel)) (gu9 _ _ (sg_nei (iv_add (a' := 10) (b' := 246) ef8 (iv_add (a' := 9) (b' := 245) ef6 (iv_c 9 (a := 9) (b := 9) (by decide +kernel)) (iv_mul (a' := 0) (b' := 236) ef5 (iv_c 4 (a := 4) (b := 4) (by decide +kernel)) hv3_0_e8 (by decide +kernel)) (by decide +kernel)) (iv_c 1 (a := 1) (b := 1) (by decide +kernel)) (by decide +kernel)) (by decide +kernel)) (gu7 _ _ (sg_nei (iv_add (a' := 9) (b' := 245) ef6 (iv_c 9 (a := 9) (b := 9) (by decide +kernel)) (iv_mul (a' := 0) (b' := 236) ef5 (iv_c 4 (a := 4) (b := 4) (by decide +kernel)) hv3_0_e8 (by decide +kernel)) (by decide +kernel)) (by decide +kernel)) hkv3_0_e8)))) dX12_writes_92 ?_
    refine lv_iconst (v := 1) X.1 X.2.1 dX12_writes_93 (by decide +kernel) ?_
    refine lv_iadd X.1 X.2.1 dX12_writes_94 ?_
    refine lv_topi (fun f15 ef15 => ?_)
    refine sg_iastE X hK hG hS h0 (k := 54) rfl (iv_vpin (iv_c 8 (a := 8) (b := 8) (by decide +kernel)) (by decide +kernel)) (sg_nw_ne (sg_nei0 (iv_c 8 (a := 8) (b := 8) (by decide +kernel)) (by decide +kernel)) (sg_at_now (a := 0) (b := 60) (iv_c 8 (a := 8) (b := 8) (by decide +kernel)) (by decide +kernel) rfl (iv_of (iv_add (a' := 1) (b' := 60) ef15 hv3_0_e8 (iv_c 1 (a := 1) (b := 1) (by decide +kernel)) (by decide +kernel)) (a' := 0) (b' := 60) (by decide +kernel)))) dX12_writes_95 (fun H locs hG hS ru16 eu16 gu16 => ?_)
    exact sg_vret X hr hlk hb hK hC hG hS dX12_writes_96
  refine lv_icmp_ne (tgt := 50) X.1 X.2.1 dX12_writes_6 (by decide) (fun c2 => ?_) (fun c2 => ?_)
  · exact B3_50 s.heap _ _ f1 hG hS (lv_sub hl [0, 1, 2, 3, 4] rfl) (iv_ne_hi (b' := 59) c2 hf1 (by decide +kernel)) kf1
  · refine lv_iconst (v := 1) X.1 X.2.1 dX12_writes_9 (by decide +kernel) ?_
    refine lv_istore (lv' := [(5, .int 1), (0, .ref a0), (1, .int x1), (2, .int x2), (3, .int x3), (4, .int x4)]) X.1 X.2.1 dX12_writes_10 hl (by decide) rfl (fun ls hl => ?_)
    have B17_12 : ∀ (N : Nat) (H : Heap) (locs : List Loc) (ls : Array Slot) (z17_5 : Int32) (v17_0_e8 : Int32), sgG (KT P) D vwCl (fun q : Nat => base ≤ q) tys ad ks H → va_S (fun q : Nat => base ≤ q) s.heap H locs → lv_has ls 6 [(0, .ref a0), (1, .int x1), (2, .int x2), (3, .int x3), (4, .int x4), (5, .int z17_5)] → iv 1 237 z17_5 → iv 60 60 v17_0_e8 → ele H a0 8 v17_0_e8 → (238 - z17_5.toInt).toNat ≤ N → W p l e (headSpec (Cond.code yX12_writes cX12_writes 6 none :: sg_tbl) ({ frames := 0, cells := 0, slots := 0, locals := 0 })).room s m #[.ref a0, .int x1, .int x2, .int x3, .int x4] below meth c H locs 0 0 (MQ below (va_Qv (fun (_ : Unit) => True) (fun _ => sgB (KT P) D vwCl base tys ad ks) (fun q : Nat => base ≤ q)) #[.ref a0, .int x1, .int x2, .int x3, .int x4] s 0 0 (fun q : Nat => base ≤ q)) (F0 m 12 ls []) := by
      intro N; induction N with
      | zero =>
        intro H locs ls z17_5 v17_0_e8 hG hS hl hz17_5 hv17_0_e8 hkv17_0_e8 hN
        exact absurd hN (by have := iv_up hz17_5; omega)
      | succ N ih17 =>
        intro H locs ls z17_5 v17_0_e8 hG hS hl hz17_5 hv17_0_e8 hkv17_0_e8 hN17
        refine lv_iload X.1 X.2.1 dX12_writes_12 (lv_at hl 5 rfl) ?_
        refine lv_sipush (v := 236) X.1 X.2.1 dX12_writes_14 (by decide +kernel) ?_
        refine lv_icmp_gt (tgt := 42) X.1 X.2.1 dX12_writes_17 (by decide) (fun c18 => ?_) (fun c18 => ?_)
        · refine lv_aload_n X.1 X.2.1 dX12_writes_42 rfl (lv_at hl 0 rfl) ?_
          refine lv_bipush (v := 8) X.1 X.2.1 dX12_writes_43 (by decide +kernel) ?_
          refine lv_dup2_11 X.1 X.2.1 dX12_writes_45 rfl rfl ?_
          refine sg_ialdK X hK hG h0 (k := 54) rfl (iv_vpin (iv_c 8 (a := 8) (b := 8) (by decide +kernel)) (by decide +kernel)) (n0 := 8) (sg_cl (iv_c 8 (a := 8) (b := 8) (by decide +kernel)) (by decide +kernel)) hkv17_0_e8 dX12_writes_46 ?_
          refine lv_iconst (v := 1) X.1 X.2.1 dX12_writes_47 (by decide +kernel) ?_
          refine lv_isub X.1 X.2.1 dX12_writes_48 ?_
          refine lv_topi (fun f20 ef20 => ?_)
          refine sg_iastE X hK hG hS h0 (k := 54) rfl (iv_vpin (iv_c 8 (a := 8) (b := 8) (by decide +kernel)) (by decide +kernel)) (sg_nw_ne (sg_nei0 (iv_c 8 (a := 8) (b := 8) (by decide +kernel)) (by decide +kernel)) (sg_at_now (a := 0) (b := 60) (iv_c 8 (a := 8) (b := 8) (by decide +kernel)) (by decide +kernel) rfl (iv_of (iv_sub (a' := 59) (b' := 59) ef20 hv17_0_e8 (iv_c 1 (a := 1) (b := 1) (by decide +kernel)) (by decide +kernel)) (a' := 0) (b' := 60) (by decide +kernel)))) dX12_writes_49 (fun H locs hG hS ru21 eu21 gu21 => ?_)
          exact B3_50 H _ _ f20 hG hS (lv_sub hl [0, 1, 2, 3, 4] rfl) (iv_of (iv_sub (a' := 59) (b' := 59) ef20 hv17_0_e8 (iv_c 1 (a := 1) (b := 1) (by decide +kernel)) (by decide +kernel)) (a' := 0) (b' := 59) (by decide +kernel)) (sg_eli eu21 (sg_cl (iv_c 8 (a := 8) (b := 8) (by decide +kernel)) (by decide +kernel)))
        · refine lv_aload_n X.1 X.2.1 dX12_writes_20 rfl (lv_at hl 0 rfl) ?_
          refine lv_bipush (v := 8) X.1 X.2.1 dX12_writes_21 (by decide +kernel) ?_
          refine lv_iload X.1 X.2.1 dX12_writes_23 (lv_at hl 5 rfl) ?_
          refine lv_iadd X.1 X.2.1 dX12_writes_25 ?_
          refine lv_topi (fun f22 ef22 => ?_)
          refine lv_aload_n X.1 X.2.1 dX12_writes_26 rfl (lv_at hl 0 rfl) ?_
          refine lv_bipush (v := 8) X.1 X.2.1 dX12_writes_27 (by decide +kernel) ?_
          refine lv_iload X.1 X.2.1 dX12_writes_29 (lv_at hl 5 rfl) ?_
          refine lv_iadd X.1 X.2.1 dX12_writes_31 ?_
          refine lv_topi (fun f23 ef23 => ?_)
          refine lv_iconst (v := 4) X.1 X.2.1 dX12_writes_32 (by decide +kernel) ?_
          refine lv_iadd X.1 X.2.1 dX12_writes_33 ?_
          refine lv_topi (fun f24 ef24 => ?_)
          refine al_54 X hK hG h0 (iv_vpin (iv_add (a' := 13) (b' := 248) ef24 (iv_add (a' := 9) (b' := 244) ef23 (iv_c 8 (a := 8) (b := 8) (by decide +kernel)) (iv_le (b' := 236) (iv_ge_of c18) hz17_5 (iv_c 236 (a := 236) (b := 236) (by decide +kernel)) (by decide +kernel)) (by decide +kernel)) (iv_c 4 (a := 4) (b := 4) (by decide +kernel)) (by decide +kernel)) (by decide +kernel)) dX12_writes_34 (fun f25 hf25 => ?_)
          have hf25 := sg_nw_now hf25
          have of25 := hf25
          have hf25 : iv (-2147483648) 2147483647 f25 := sg_spa_now hf25
          refine sg_iastE X hK hG hS h0 (k := 54) rfl (iv_vpin (iv_add (a' := 9) (b' := 244) ef22 (iv_c 8 (a := 8) (b := 8) (by decide +kernel)) (iv_le (b' := 236) (iv_ge_of c18) hz17_5 (iv_c 236 (a := 236) (b := 236) (by decide +kernel)) (by decide +kernel)) (by decide +kernel)) (by decide +kernel)) (sg_nw_ne (sg_nei0 (iv_add (a' := 9) (b' := 244) ef22 (iv_c 8 (a := 8) (b := 8) (by decide +kernel)) (iv_le (b' := 236) (iv_ge_of c18) hz17_5 (iv_c 236 (a := 236) (b := 236) (by decide +kernel)) (by decide +kernel)) (by decide +kernel)) (by decide +kernel)) (sg_off_now (iv_add (a' := 9) (b' := 244) ef22 (iv_c 8 (a := 8) (b := 8) (by decide +kernel)) (iv_le (b' := 236) (iv_ge_of c18) hz17_5 (iv_c 236 (a := 236) (b := 236) (by decide +kernel)) (by decide +kernel)) (by decide +kernel)) (by decide +kernel))) dX12_writes_35 (fun H locs hG hS ru26 eu26 gu26 => ?_)
          obtain ⟨y27, ey27⟩ : ∃ y : Int32, y = z17_5 + Int32.ofInt 1 := ⟨_, rfl⟩
          refine lv_iinc (v := y27) (lv' := [(5, .int y27), (0, .ref a0), (1, .int x1), (2, .int x2), (3, .int x3), (4, .int x4)]) X.1 X.2.1 dX12_writes_36 hl (k := 5) rfl ey27.symm (by decide) rfl (fun ls hl => ?_)
          refine lv_goto (tgt := 12) X.1 X.2.1 dX12_writes_39 (by decide) ?_
          exact ih17 H _ _ y27 v17_0_e8 hG hS (lv_sub hl [1, 2, 3, 4, 5, 0] rfl) (iv_of (iv_add (a' := 2) (b' := 237) ey27 (iv_le (b' := 236) (iv_ge_of c18) hz17_5 (iv_c 236 (a := 236) (b := 236) (by decide +kernel)) (by decide +kernel)) (iv_c _ (a := 1) (b := 1) (by decide +kernel)) (by decide +kernel)) (a' := 1) (b' := 237) (by decide +kernel)) hv17_0_e8 (gu26 _ _ (sg_nei (iv_add (a' := 9) (b' := 244) ef22 (iv_c 8 (a := 8) (b := 8) (by decide +kernel)) (iv_le (b' := 236) (iv_ge_of c18) hz17_5 (iv_c 236 (a := 236) (b := 236) (by decide +kernel)) (by decide +kernel)) (by decide +kernel)) (by decide +kernel)) hkv17_0_e8) (iv_stepU ey27 (iv_le (b' := 236) (iv_ge_of c18) hz17_5 (iv_c 236 (a := 236) (b := 236) (by decide +kernel)) (by decide +kernel)) (by decide +kernel) hN17)
    exact B17_12 _ s.heap _ _ 1 f1 hG hS (lv_sub hl [1, 2, 3, 4, 5, 0] rfl) (iv_of (iv_c 1 (a := 1) (b := 1) (by decide +kernel)) (a' := 1) (b' := 237) (by decide +kernel)) (iv_eqm (a' := 60) (b' := 60) c2 hf1 (iv_c 60 (a := 60) (b := 60) (by decide +kernel)) (by decide +kernel)) kf1 (Nat.le_refl _)

theorem ca_X12_writes_n   (X : CallFix p m c cc nL s args sg_tbl own) (hK : va_K D vwCl tys s) (hG : sgG (KT P) D vwCl (fun q : Nat => base ≤ q) tys ad ks H) (hC : sgC base s) (hS : va_S (fun q : Nat => base ≤ q) s.heap H locs) (hb : base ≤ s.heap.size) (a0 : Nat) (h0 : isK ad ks 54 a0) (x1 : Int32) (x2 : Int32) (x3 : Int32) (x4 : Int32) (hl : Cond.methodLink own index yX12_writes ∈ sg_tbl) (hsize : ls.size = nL) (hst : st0 = [.ref a0, .int x1, .int x2, .int x3, .int x4].reverse ++ rest) (hW : (rest.map fun v => v.category).sum ≤ 8) (hR : 1 ≤ R.frames ∧ 25 ≤ R.locals) (hf : cells ≤ R.cells ∧ slots ≤ R.slots) (hdg : decode cc pc = .ok (.invokestatic index, 3)) (kk : ∀ (H1 : Heap) (locs1 : List Loc), sgG (KT P) D vwCl (fun q : Nat => base ≤ q) tys ad ks H1 → va_S (fun q : Nat => base ≤ q) s.heap H1 locs1 → W p l e R s m args below meth c H1 locs1 cells slots Q (F0 m (pc + 3) ls rest)) : W p l e R s m args below meth c H locs cells slots Q (F0 m pc ls st0) :=
  sg_callSv X hK hG hC hS hb (m_X12_writes_n l a0 h0 x1 x2 x3 x4) wl_8_112 wl_1_13 wl_8_111 (n := 5) (by decide +kernel) rfl rfl rfl hl hsize hst hW hR hf hdg kk

set_option maxHeartbeats 8000000 in
set_option maxRecDepth 100000 in
theorem m_X12_writes_t (l : Launch) {D : va_G} {base : Nat} {tys : List (ClassId × FieldType)} {ad ks : List Nat} {P : sgPm} (a0 : Nat) (h0 : isK ad ks 55 a0) (x1 : Int32) (x2 : Int32) (x3 : Int32) (x4 : Int32) : sgMv l (KT P) D vwCl base tys ad ks yX12_writes cX12_writes 6 none ({ frames := 0, cells := 0, slots := 0, locals := 0 }) [.ref a0, .int x1, .int x2, .int x3, .int x4] := by
  refine sg_ofW (by decide +kernel) (Nat.le_of_ble_eq_true rfl) (fun p e s m below meth c X hr hlk hb hK hC hG ls hl => ?_)
  have hS : va_S (fun q : Nat => base ≤ q) s.heap s.heap [] := va_S.rf
  have hl : lv_has ls 6 [(0, .ref a0), (1, .int x1), (2, .int x2), (3, .int x3), (4, .int x4)] := hl
  refine lv_aload_n X.1 X.2.1 dX12_writes_0 rfl (lv_at hl 0 rfl) ?_
  refine lv_bipush (v := 8) X.1 X.2.1 dX12_writes_1 (by decide +kernel) ?_
  refine sg_ialdE X hK hG h0 (k := 55) rfl (iv_vpin (iv_c 8 (a := 8) (b := 8) (by decide +kernel)) (by decide +kernel)) (n0 := 8) (sg_cl (iv_c 8 (a := 8) (b := 8) (by decide +kernel)) (by decide +kernel)) dX12_writes_3 (fun f1 hf1 kf1 => ?_)
  have of1 := hf1
  have hf1 : iv 0 60 f1 := sg_sp_now hf1 (iv_c 8 (a := 8) (b := 8) (by decide +kernel)) (by decide +kernel) rfl
  refine lv_bipush (v := 60) X.1 X.2.1 dX12_writes_4 (by decide +kernel) ?_
  have B3_50 : ∀ (H : Heap) (locs : List Loc) (ls : Array Slot) (v3_0_e8 : Int32), sgG (KT P) D vwCl (fun q : Nat => base ≤ q) tys ad ks H → va_S (fun q : Nat => base ≤ q) s.heap H locs → lv_has ls 6 [(0, .ref a0), (1, .int x1), (2, .int x2), (3, .int x3), (4, .int x4)] → iv 0 59 v3_0_e8 → ele H a0 8 v3_0_e8 → W p l e (headSpec (Cond.code yX12_writes cX12_writes 6 none :: sg_tbl) ({ frames := 0, cells := 0, slots := 0, locals := 0 })).room s m #[.ref a0, .int x1, .int x2, .int x3, .int x4] below meth c H locs 0 0 (MQ below (va_Qv (fun (_ : Unit) => True) (fun _ => sgB (KT P) D vwCl base tys ad ks) (fun q : Nat => base ≤ q)) #[.ref a0, .int x1, .int x2, .int x3, .int x4] s 0 0 (fun q : Nat => base ≤ q)) (F0 m 50 ls []) := by
    intro H locs ls v3_0_e8 hG hS hl hv3_0_e8 hkv3_0_e8
    refine lv_bipush (v := 9) X.1 X.2.1 dX12_writes_50 (by decide +kernel) ?_
    refine lv_iconst (v := 4) X.1 X.2.1 dX12_writes_52 (by decide +kernel) ?_
    refine lv_aload_n X.1 X.2.1 dX12_writes_53 rfl (lv_at hl 0 rfl) ?_
    refine lv_bipush (v := 8) X.1 X.2.1 dX12_writes_54 (by decide +kernel) ?_
    refine sg_ialdK X hK hG h0 (k := 55) rfl (iv_vpin (iv_c 8 (a := 8) (b := 8) (by decide +kernel)) (by decide +kernel)) (n0 := 8) (sg_cl (iv_c 8 (a := 8) (b := 8) (by decide +kernel)) (by decide +kernel)) hkv3_0_e8 dX12_writes_56 ?_
    refine lv_imul X.1 X.2.1 dX12_writes_57 ?_
    refine lv_topi (fun f5 ef5 => ?_)
    refine lv_iadd X.1 X.2.1 dX12_writes_58 ?_
    refine lv_topi (fun f6 ef6 => ?_)
    refine lv_istore (lv' := [(5, .int f6), (0, .ref a0), (1, .int x1), (2, .int x2), (3, .int x3), (4, .int x4)]) X.1 X.2.1 dX12_writes_59 hl (by decide) rfl (fun ls hl => ?_)
    refine lv_aload_n X.1 X.2.1 dX12_writes_61 rfl (lv_at hl 1 rfl) ?_
    refine lv_iload X.1 X.2.1 dX12_writes_62 (lv_at hl 0 rfl) ?_
    refine lv_iload_n X.1 X.2.1 dX12_writes_64 rfl (lv_at hl 2 rfl) ?_
    refine sg_iastE X hK hG hS h0 (k := 55) rfl (iv_vpin (iv_add (a' := 9) (b' := 245) ef6 (iv_c 9 (a := 9) (b := 9) (by decide +kernel)) (iv_mul (a' := 0) (b' := 236) ef5 (iv_c 4 (a := 4) (b := 4) (by decide +kernel)) hv3_0_e8 (by decide +kernel)) (by decide +kernel)) (by decide +kernel)) (sg_off_now (iv_add (a' := 9) (b' := 245) ef6 (iv_c 9 (a := 9) (b := 9) (by decide +kernel)) (iv_mul (a' := 0) (b' := 236) ef5 (iv_c 4 (a := 4) (b := 4) (by decide +kernel)) hv3_0_e8 (by decide +kernel)) (by decide +kernel)) (by decide +kernel)) dX12_writes_65 (fun H locs hG hS ru7 eu7 gu7 => ?_)
    refine lv_aload_n X.1 X.2.1 dX12_writes_66 rfl (lv_at hl 1 rfl) ?_
    refine lv_iload X.1 X.2.1 dX12_writes_67 (lv_at hl 0 rfl) ?_
    refine lv_iconst (v := 1) X.1 X.2.1 dX12_writes_69 (by decide +kernel) ?_
    refine lv_iadd X.1 X.2.1 dX12_writes_70 ?_
    refine lv_topi (fun f8 ef8 => ?_)
    refine lv_iload_n X.1 X.2.1 dX12_writes_71 rfl (lv_at hl 3 rfl) ?_
    refine sg_iastE X hK hG hS h0 (k := 55) rfl (iv_vpin (iv_add (a' := 10) (b' := 246) ef8 (iv_add (a' := 9) (b' := 245) ef6 (iv_c 9 (a := 9) (b := 9) (by decide +kernel)) (iv_mul (a' := 0) (b' := 236) ef5 (iv_c 4 (a := 4) (b := 4) (by decide +kernel)) hv3_0_e8 (by decide +kernel)) (by decide +kernel)) (iv_c 1 (a := 1) (b := 1) (by decide +kernel)) (by decide +kernel)) (by decide +kernel)) (sg_off_now (iv_add (a' := 10) (b' := 246) ef8 (iv_add (a' := 9) (b' := 245) ef6 (iv_c 9 (a := 9) (b := 9) (by decide +kernel)) (iv_mul (a' := 0) (b' := 236) ef5 (iv_c 4 (a := 4) (b := 4) (by decide +kernel)) hv3_0_e8 (by decide +kernel)) (by decide +kernel)) (iv_c 1 (a := 1) (b := 1) (by decide +kernel)) (by decide +kernel)) (by decide +kernel)) dX12_writes_72 (fun H locs hG hS ru9 eu9 gu9 => ?_)
    refine lv_aload_n X.1 X.2.1 dX12_writes_73 rfl (lv_at hl 1 rfl) ?_
    refine lv_iload X.1 X.2.1 dX12_writes_74 (lv_at hl 0 rfl) ?_
    refine lv_iconst (v := 2) X.1 X.2.1 dX12_writes_76 (by decide +kernel) ?_
    refine lv_iadd X.1 X.2.1 dX12_writes_77 ?_
    refine lv_topi (fun f10 ef10 => ?_)
    refine lv_iload_n X.1 X.2.1 dX12_writes_78 rfl (lv_at hl 4 rfl) ?_
    refine sg_iastE X hK hG hS h0 (k := 55) rfl (iv_vpin (iv_add (a' := 11) (b' := 247) ef10 (iv_add (a' := 9) (b' := 245) ef6 (iv_c 9 (a := 9) (b := 9) (by decide +kernel)) (iv_mul (a' := 0) (b' := 236) ef5 (iv_c 4 (a := 4) (b := 4) (by decide +kernel)) hv3_0_e8 (by decide +kernel)) (by decide +kernel)) (iv_c 2 (a := 2) (b := 2) (by decide +kernel)) (by decide +kernel)) (by decide +kernel)) (sg_off_now (iv_add (a' := 11) (b' := 247) ef10 (iv_add (a' := 9) (b' := 245) ef6 (iv_c 9 (a := 9) (b := 9) (by decide +kernel)) (iv_mul (a' := 0) (b' := 236) ef5 (iv_c 4 (a := 4) (b := 4) (by decide +kernel)) hv3_0_e8 (by decide +kernel)) (by decide +kernel)) (iv_c 2 (a := 2) (b := 2) (by decide +kernel)) (by decide +kernel)) (by decide +kernel)) dX12_writes_79 (fun H locs hG hS ru11 eu11 gu11 => ?_)
    refine lv_aload_n X.1 X.2.1 dX12_writes_80 rfl (lv_at hl 1 rfl) ?_
    refine lv_iload X.1 X.2.1 dX12_writes_81 (lv_at hl 0 rfl) ?_
    refine lv_iconst (v := 3) X.1 X.2.1 dX12_writes_83 (by decide +kernel) ?_
    refine lv_iadd X.1 X.2.1 dX12_writes_84 ?_
    refine lv_topi (fun f12 ef12 => ?_)
    refine lv_iload X.1 X.2.1 dX12_writes_85 (lv_at hl 5 rfl) ?_
    refine sg_iastE X hK hG hS h0 (k := 55) rfl (iv_vpin (iv_add (a' := 12) (b' := 248) ef12 (iv_add (a' := 9) (b' := 245) ef6 (iv_c 9 (a := 9) (b := 9) (by decide +kernel)) (iv_mul (a' := 0) (b' := 236) ef5 (iv_c 4 (a := 4) (b := 4) (by decide +kernel)) hv3_0_e8 (by decide +kernel)) (by decide +kernel)) (iv_c 3 (a := 3) (b := 3) (by decide +kernel)) (by decide +kernel)) (by decide +kernel)) (sg_off_now (iv_add (a' := 12) (b' := 248) ef12 (iv_add (a' := 9) (b' := 245) ef6 (iv_c 9 (a := 9) (b := 9) (by decide +kernel)) (iv_mul (a' := 0) (b' := 236) ef5 (iv_c 4 (a := 4) (b := 4) (by decide +kernel)) hv3_0_e8 (by decide +kernel)) (by decide +kernel)) (iv_c 3 (a := 3) (b := 3) (by decide +kernel)) (by decide +kernel)) (by decide +kernel)) dX12_writes_87 (fun H locs hG hS ru13 eu13 gu13 => ?_)
    refine lv_aload_n X.1 X.2.1 dX12_writes_88 rfl (lv_at hl 1 rfl) ?_
    refine lv_bipush (v := 8) X.1 X.2.1 dX12_writes_89 (by decide +kernel) ?_
    refine lv_dup2_11 X.1 X.2.1 dX12_writes_91 rfl rfl ?_
    refine sg_ialdK X hK hG h0 (k := 55) rfl (iv_vpin (iv_c 8 (a := 8) (b := 8) (by decide +kernel)) (by decide +kernel)) (n0 := 8) (sg_cl (iv_c 8 (a := 8) (b := 8) (by decide +kernel)) (by decide +kernel)) (gu13 _ _ (sg_nei (iv_add (a' := 12) (b' := 248) ef12 (iv_add (a' := 9) (b' := 245) ef6 (iv_c 9 (a := 9) (b := 9) (by decide +kernel)) (iv_mul (a' := 0) (b' := 236) ef5 (iv_c 4 (a := 4) (b := 4) (by decide +kernel)) hv3_0_e8 (by decide +kernel)) (by decide +kernel)) (iv_c 3 (a := 3) (b := 3) (by decide +kernel)) (by decide +kernel)) (by decide +kernel)) (gu11 _ _ (sg_nei (iv_add (a' := 11) (b' := 247) ef10 (iv_add (a' := 9) (b' := 245) ef6 (iv_c 9 (a := 9) (b := 9) (by decide +kernel)) (iv_mul (a' := 0) (b' := 236) ef5 (iv_c 4 (a := 4) (b := 4) (by decide +kernel)) hv3_0_e8 (by decide +kernel)) (by decide +kernel)) (iv_c 2 (a := 2) (b := 2) (by decide +kernel)) (by decide +kernel)) (by decide +kernel)) (gu9 _ _ (sg_nei (iv_add (a' := 10) (b' := 246) ef8 (iv_add (a' := 9) (b' := 245) ef6 (iv_c 9 (a := 9) (b := 9) (by decide +kernel)) (iv_mul (a' := 0) (b' := 236) ef5 (iv_c 4 (a := 4) (b := 4) (by decide +kernel)) hv3_0_e8 (by decide +kernel)) (by decide +kernel)) (iv_c 1 (a := 1) (b := 1) (by decide +kernel)) (by decide +kernel)) (by decide +kernel)) (gu7 _ _ (sg_nei (iv_add (a' := 9) (b' := 245) ef6 (iv_c 9 (a := 9) (b := 9) (by decide +kernel)) (iv_mul (a' := 0) (b' := 236) ef5 (iv_c 4 (a := 4) (b := 4) (by decide +kernel)) hv3_0_e8 (by decide +kernel)) (by decide +kernel)) (by decide +kernel)) hkv3_0_e8)))) dX12_writes_92 ?_
    refine lv_iconst (v := 1) X.1 X.2.1 dX12_writes_93 (by decide +kernel) ?_
    refine lv_iadd X.1 X.2.1 dX12_writes_94 ?_
    refine lv_topi (fun f15 ef15 => ?_)
    refine sg_iastE X hK hG hS h0 (k := 55) rfl (iv_vpin (iv_c 8 (a := 8) (b := 8) (by decide +kernel)) (by decide +kernel)) (sg_at_now (a := 0) (b := 60) (iv_c 8 (a := 8) (b := 8) (by decide +kernel)) (by decide +kernel) rfl (iv_of (iv_add (a' := 1) (b' := 60) ef15 hv3_0_e8 (iv_c 1 (a := 1) (b := 1) (by decide +kernel)) (by decide +kernel)) (a' := 0) (b' := 60) (by decide +kernel))) dX12_writes_95 (fun H locs hG hS ru16 eu16 gu16 => ?_)
    exact sg_vret X hr hlk hb hK hC hG hS dX12_writes_96
  refine lv_icmp_ne (tgt := 50) X.1 X.2.1 dX12_writes_6 (by decide) (fun c2 => ?_) (fun c2 => ?_)
  · exact B3_50 s.heap _ _ f1 hG hS (lv_sub hl [0, 1, 2, 3, 4] rfl) (iv_ne_hi (b' := 59) c2 hf1 (by decide +kernel)) kf1
  · refine lv_iconst (v := 1) X.1 X.2.1 dX12_writes_9 (by decide +kernel) ?_
    refine lv_istore (lv' := [(5, .int 1), (0, .ref a0), (1, .int x1), (2, .int x2), (3, .int x3), (4, .int x4)]) X.1 X.2.1 dX12_writes_10 hl (by decide) rfl (fun ls hl => ?_)
    have B17_12 : ∀ (N : Nat) (H : Heap) (locs : List Loc) (ls : Array Slot) (z17_5 : Int32) (v17_0_e8 : Int32), sgG (KT P) D vwCl (fun q : Nat => base ≤ q) tys ad ks H → va_S (fun q : Nat => base ≤ q) s.heap H locs → lv_has ls 6 [(0, .ref a0), (1, .int x1), (2, .int x2), (3, .int x3), (4, .int x4), (5, .int z17_5)] → iv 1 237 z17_5 → iv 60 60 v17_0_e8 → ele H a0 8 v17_0_e8 → (238 - z17_5.toInt).toNat ≤ N → W p l e (headSpec (Cond.code yX12_writes cX12_writes 6 none :: sg_tbl) ({ frames := 0, cells := 0, slots := 0, locals := 0 })).room s m #[.ref a0, .int x1, .int x2, .int x3, .int x4] below meth c H locs 0 0 (MQ below (va_Qv (fun (_ : Unit) => True) (fun _ => sgB (KT P) D vwCl base tys ad ks) (fun q : Nat => base ≤ q)) #[.ref a0, .int x1, .int x2, .int x3, .int x4] s 0 0 (fun q : Nat => base ≤ q)) (F0 m 12 ls []) := by
      intro N; induction N with
      | zero =>
        intro H locs ls z17_5 v17_0_e8 hG hS hl hz17_5 hv17_0_e8 hkv17_0_e8 hN
        exact absurd hN (by have := iv_up hz17_5; omega)
      | succ N ih17 =>
        intro H locs ls z17_5 v17_0_e8 hG hS hl hz17_5 hv17_0_e8 hkv17_0_e8 hN17
        refine lv_iload X.1 X.2.1 dX12_writes_12 (lv_at hl 5 rfl) ?_
        refine lv_sipush (v := 236) X.1 X.2.1 dX12_writes_14 (by decide +kernel) ?_
        refine lv_icmp_gt (tgt := 42) X.1 X.2.1 dX12_writes_17 (by decide) (fun c18 => ?_) (fun c18 => ?_)
        · refine lv_aload_n X.1 X.2.1 dX12_writes_42 rfl (lv_at hl 0 rfl) ?_
          refine lv_bipush (v := 8) X.1 X.2.1 dX12_writes_43 (by decide +kernel) ?_
          refine lv_dup2_11 X.1 X.2.1 dX12_writes_45 rfl rfl ?_
          refine sg_ialdK X hK hG h0 (k := 55) rfl (iv_vpin (iv_c 8 (a := 8) (b := 8) (by decide +kernel)) (by decide +kernel)) (n0 := 8) (sg_cl (iv_c 8 (a := 8) (b := 8) (by decide +kernel)) (by decide +kernel)) hkv17_0_e8 dX12_writes_46 ?_
          refine lv_iconst (v := 1) X.1 X.2.1 dX12_writes_47 (by decide +kernel) ?_
          refine lv_isub X.1 X.2.1 dX12_writes_48 ?_
          refine lv_topi (fun f20 ef20 => ?_)
          refine sg_iastE X hK hG hS h0 (k := 55) rfl (iv_vpin (iv_c 8 (a := 8) (b := 8) (by decide +kernel)) (by decide +kernel)) (sg_at_now (a := 0) (b := 60) (iv_c 8 (a := 8) (b := 8) (by decide +kernel)) (by decide +kernel) rfl (iv_of (iv_sub (a' := 59) (b' := 59) ef20 hv17_0_e8 (iv_c 1 (a := 1) (b := 1) (by decide +kernel)) (by decide +kernel)) (a' := 0) (b' := 60) (by decide +kernel))) dX12_writes_49 (fun H locs hG hS ru21 eu21 gu21 => ?_)
          exact B3_50 H _ _ f20 hG hS (lv_sub hl [0, 1, 2, 3, 4] rfl) (iv_of (iv_sub (a' := 59) (b' := 59) ef20 hv17_0_e8 (iv_c 1 (a := 1) (b := 1) (by decide +kernel)) (by decide +kernel)) (a' := 0) (b' := 59) (by decide +kernel)) (sg_eli eu21 (sg_cl (iv_c 8 (a := 8) (b := 8) (by decide +kernel)) (by decide +kernel)))
        · refine lv_aload_n X.1 X.2.1 dX12_writes_20 rfl (lv_at hl 0 rfl) ?_
          refine lv_bipush (v := 8) X.1 X.2.1 dX12_writes_21 (by decide +kernel) ?_
          refine lv_iload X.1 X.2.1 dX12_writes_23 (lv_at hl 5 rfl) ?_
          refine lv_iadd X.1 X.2.1 dX12_writes_25 ?_
          refine lv_topi (fun f22 ef22 => ?_)
          refine lv_aload_n X.1 X.2.1 dX12_writes_26 rfl (lv_at hl 0 rfl) ?_
          refine lv_bipush (v := 8) X.1 X.2.1 dX12_writes_27 (by decide +kernel) ?_
          refine lv_iload X.1 X.2.1 dX12_writes_29 (lv_at hl 5 rfl) ?_
          refine lv_iadd X.1 X.2.1 dX12_writes_31 ?_
          refine lv_topi (fun f23 ef23 => ?_)
          refine lv_iconst (v := 4) X.1 X.2.1 dX12_writes_32 (by decide +kernel) ?_
          refine lv_iadd X.1 X.2.1 dX12_writes_33 ?_
          refine lv_topi (fun f24 ef24 => ?_)
          refine al_55 X hK hG h0 (iv_vpin (iv_add (a' := 13) (b' := 248) ef24 (iv_add (a' := 9) (b' := 244) ef23 (iv_c 8 (a := 8) (b := 8) (by decide +kernel)) (iv_le (b' := 236) (iv_ge_of c18) hz17_5 (iv_c 236 (a := 236) (b := 236) (by decide +kernel)) (by decide +kernel)) (by decide +kernel)) (iv_c 4 (a := 4) (b := 4) (by decide +kernel)) (by decide +kernel)) (by decide +kernel)) dX12_writes_34 (fun f25 hf25 => ?_)
          have of25 := hf25
          have hf25 : iv (-2147483648) 2147483647 f25 := sg_spa_now hf25
          refine sg_iastE X hK hG hS h0 (k := 55) rfl (iv_vpin (iv_add (a' := 9) (b' := 244) ef22 (iv_c 8 (a := 8) (b := 8) (by decide +kernel)) (iv_le (b' := 236) (iv_ge_of c18) hz17_5 (iv_c 236 (a := 236) (b := 236) (by decide +kernel)) (by decide +kernel)) (by decide +kernel)) (by decide +kernel)) (sg_off_now (iv_add (a' := 9) (b' := 244) ef22 (iv_c 8 (a := 8) (b := 8) (by decide +kernel)) (iv_le (b' := 236) (iv_ge_of c18) hz17_5 (iv_c 236 (a := 236) (b := 236) (by decide +kernel)) (by decide +kernel)) (by decide +kernel)) (by decide +kernel)) dX12_writes_35 (fun H locs hG hS ru26 eu26 gu26 => ?_)
          obtain ⟨y27, ey27⟩ : ∃ y : Int32, y = z17_5 + Int32.ofInt 1 := ⟨_, rfl⟩
          refine lv_iinc (v := y27) (lv' := [(5, .int y27), (0, .ref a0), (1, .int x1), (2, .int x2), (3, .int x3), (4, .int x4)]) X.1 X.2.1 dX12_writes_36 hl (k := 5) rfl ey27.symm (by decide) rfl (fun ls hl => ?_)
          refine lv_goto (tgt := 12) X.1 X.2.1 dX12_writes_39 (by decide) ?_
          exact ih17 H _ _ y27 v17_0_e8 hG hS (lv_sub hl [1, 2, 3, 4, 5, 0] rfl) (iv_of (iv_add (a' := 2) (b' := 237) ey27 (iv_le (b' := 236) (iv_ge_of c18) hz17_5 (iv_c 236 (a := 236) (b := 236) (by decide +kernel)) (by decide +kernel)) (iv_c _ (a := 1) (b := 1) (by decide +kernel)) (by decide +kernel)) (a' := 1) (b' := 237) (by decide +kernel)) hv17_0_e8 (gu26 _ _ (sg_nei (iv_add (a' := 9) (b' := 244) ef22 (iv_c 8 (a := 8) (b := 8) (by decide +kernel)) (iv_le (b' := 236) (iv_ge_of c18) hz17_5 (iv_c 236 (a := 236) (b := 236) (by decide +kernel)) (by decide +kernel)) (by decide +kernel)) (by decide +kernel)) hkv17_0_e8) (iv_stepU ey27 (iv_le (b' := 236) (iv_ge_of c18) hz17_5 (iv_c 236 (a := 236) (b := 236) (by decide +kernel)) (by decide +kernel)) (by decide +kernel) hN17)
    exact B17_12 _ s.heap _ _ 1 f1 hG hS (lv_sub hl [1, 2, 3, 4, 5, 0] rfl) (iv_of (iv_c 1 (a := 1) (b := 1) (by decide +kernel)) (a' := 1) (b' := 237) (by decide +kernel)) (iv_eqm (a' := 60) (b' := 60) c2 hf1 (iv_c 60 (a := 60) (b := 60) (by decide +kernel)) (by decide +kernel)) kf1 (Nat.le_refl _)

theorem ca_X12_writes_t   (X : CallFix p m c cc nL s args sg_tbl own) (hK : va_K D vwCl tys s) (hG : sgG (KT P) D vwCl (fun q : Nat => base ≤ q) tys ad ks H) (hC : sgC base s) (hS : va_S (fun q : Nat => base ≤ q) s.heap H locs) (hb : base ≤ s.heap.size) (a0 : Nat) (h0 : isK ad ks 55 a0) (x1 : Int32) (x2 : Int32) (x3 : Int32) (x4 : Int32) (hl : Cond.methodLink own index yX12_writes ∈ sg_tbl) (hsize : ls.size = nL) (hst : st0 = [.ref a0, .int x1, .int x2, .int x3, .int x4].reverse ++ rest) (hW : (rest.map fun v => v.category).sum ≤ 8) (hR : 1 ≤ R.frames ∧ 25 ≤ R.locals) (hf : cells ≤ R.cells ∧ slots ≤ R.slots) (hdg : decode cc pc = .ok (.invokestatic index, 3)) (kk : ∀ (H1 : Heap) (locs1 : List Loc), sgG (KT P) D vwCl (fun q : Nat => base ≤ q) tys ad ks H1 → va_S (fun q : Nat => base ≤ q) s.heap H1 locs1 → W p l e R s m args below meth c H1 locs1 cells slots Q (F0 m (pc + 3) ls rest)) : W p l e R s m args below meth c H locs cells slots Q (F0 m pc ls st0) :=
  sg_callSv X hK hG hC hS hb (m_X12_writes_t l a0 h0 x1 x2 x3 x4) wl_8_112 wl_1_13 wl_8_111 (n := 5) (by decide +kernel) rfl rfl rfl hl hsize hst hW hR hf hdg kk

set_option maxHeartbeats 8000000 in
set_option maxRecDepth 100000 in
theorem m_X12_worthNow (l : Launch) {D : va_G} {base : Nat} {tys : List (ClassId × FieldType)} {ad ks : List Nat} {P : sgPm} (a0 : Nat) (h0 : isK ad ks 12 a0) : Met l yX12_worthNow (Cond.code yX12_worthNow cX12_worthNow 4 (some .int) :: sg_tbl) ({ frames := 32, cells := 0, slots := 0, locals := 746 }) (va_Pc [.ref a0] (sgB (KL P) D vwCl base tys ad ks)) (va_Qi (fun r (u : Int32) => u = r ∧ (fun r : Int32 => True) r) (fun u t => sgB (KT P) D vwCl base tys ad ks t) (fun q : Nat => base ≤ q)) 0 0 (fun q : Nat => base ≤ q) := by
  refine sg_ofW (by decide +kernel) (Nat.le_of_ble_eq_true rfl) (fun p e s m below meth c X hr hlk hb hK hC hG ls hl => ?_)
  have hS : va_S (fun q : Nat => base ≤ q) s.heap s.heap [] := va_S.rf
  have hl : lv_has ls 4 [(0, .ref a0)] := hl
  obtain ⟨gl, hgl, kgl⟩ := pk_X12_34l hG h0
  have hG := sgl_weak hG
  refine lv_aload_n X.1 X.2.1 dX12_worthNow_0 rfl (lv_at hl 0 rfl) ?_
  refine gf_X12_4 X hK hG h0 wl_6_182 dX12_worthNow_1 (fun q1 hq1 kq1 => ?_)
  refine lv_bipush (v := 100) X.1 X.2.1 dX12_worthNow_4 (by decide +kernel) ?_
  refine al_48 X hK hG hq1 (iv_vpin (iv_c 100 (a := 100) (b := 100) (by decide +kernel)) (by decide +kernel)) dX12_worthNow_6 (fun f2 hf2 => ?_)
  obtain ⟨g3, eg3⟩ : ∃ y : Int64, y = (f2 : Int32).toInt64 := ⟨_, rfl⟩
  refine lv_i2l (v := g3) X.1 X.2.1 dX12_worthNow_7 eg3.symm ?_
  refine lv_lstore_n (lv' := [(1, .long g3), (0, .ref a0)]) X.1 X.2.1 dX12_worthNow_8 rfl hl (by decide) rfl (fun ls hl => ?_)
  refine lv_ldc2 X.1 X.2.1 X.2.2.2.1 (X.2.2.2.2 _ wl_8_73) dX12_worthNow_9 ?_
  refine lv_lload_n X.1 X.2.1 dX12_worthNow_12 rfl (lv_at hl 0 rfl) ?_
  refine lv_lmul X.1 X.2.1 dX12_worthNow_13 ?_
  refine lv_topl (fun g4 eg4 => ?_)
  refine lv_aload_n X.1 X.2.1 dX12_worthNow_14 rfl (lv_at hl 1 rfl) ?_
  refine gg_X12_4 X hK hG h0 wl_6_182 kq1 dX12_worthNow_15 ?_
  refine lv_bipush (v := 116) X.1 X.2.1 dX12_worthNow_18 (by decide +kernel) ?_
  refine al_48 X hK hG hq1 (iv_vpin (iv_c 116 (a := 116) (b := 116) (by decide +kernel)) (by decide +kernel)) dX12_worthNow_20 (fun f5 hf5 => ?_)
  obtain ⟨g6, eg6⟩ : ∃ y : Int64, y = (f5 : Int32).toInt64 := ⟨_, rfl⟩
  refine lv_i2l (v := g6) X.1 X.2.1 dX12_worthNow_21 eg6.symm ?_
  refine lv_ladd X.1 X.2.1 dX12_worthNow_22 ?_
  refine lv_topl (fun g7 eg7 => ?_)
  refine lv_lstore_n (lv' := [(1, .long g7), (0, .ref a0)]) X.1 X.2.1 dX12_worthNow_23 rfl hl (by decide) rfl (fun ls hl => ?_)
  refine lv_ldc2 X.1 X.2.1 X.2.2.2.1 (X.2.2.2.2 _ wl_8_50) dX12_worthNow_24 ?_
  refine lv_lload_n X.1 X.2.1 dX12_worthNow_27 rfl (lv_at hl 0 rfl) ?_
  refine lv_lmul X.1 X.2.1 dX12_worthNow_28 ?_
  refine lv_topl (fun g8 eg8 => ?_)
  refine lv_aload_n X.1 X.2.1 dX12_worthNow_29 rfl (lv_at hl 1 rfl) ?_
  refine gg_X12_4 X hK hG h0 wl_6_182 kq1 dX12_worthNow_30 ?_
  refine lv_bipush (v := 114) X.1 X.2.1 dX12_worthNow_33 (by decide +kernel) ?_
  refine al_48 X hK hG hq1 (iv_vpin (iv_c 114 (a := 114) (b := 114) (by decide +kernel)) (by decide +kernel)) dX12_worthNow_35 (fun f9 hf9 => ?_)
  obtain ⟨g10, eg10⟩ : ∃ y : Int64, y = (f9 : Int32).toInt64 := ⟨_, rfl⟩
  refine lv_i2l (v := g10) X.1 X.2.1 dX12_worthNow_36 eg10.symm ?_
  refine lv_ladd X.1 X.2.1 dX12_worthNow_37 ?_
  refine lv_topl (fun g11 eg11 => ?_)
  refine lv_lstore_n (lv' := [(1, .long g11), (0, .ref a0)]) X.1 X.2.1 dX12_worthNow_38 rfl hl (by decide) rfl (fun ls hl => ?_)
  refine lv_ldc2 X.1 X.2.1 X.2.2.2.1 (X.2.2.2.2 _ wl_8_74) dX12_worthNow_39 ?_
  refine lv_lload_n X.1 X.2.1 dX12_worthNow_42 rfl (lv_at hl 0 rfl) ?_
  refine lv_lmul X.1 X.2.1 dX12_worthNow_43 ?_
  refine lv_topl (fun g12 eg12 => ?_)
  refine lv_aload_n X.1 X.2.1 dX12_worthNow_44 rfl (lv_at hl 1 rfl) ?_
  refine gg_X12_4 X hK hG h0 wl_6_182 kq1 dX12_worthNow_45 ?_
  refine lv_bipush (v := 99) X.1 X.2.1 dX12_worthNow_48 (by decide +kernel) ?_
  refine al_48 X hK hG hq1 (iv_vpin (iv_c 99 (a := 99) (b := 99) (by decide +kernel)) (by decide +kernel)) dX12_worthNow_50 (fun f13 hf13 => ?_)
  obtain ⟨g14, eg14⟩ : ∃ y : Int64, y = (f13 : Int32).toInt64 := ⟨_, rfl⟩
  refine lv_i2l (v := g14) X.1 X.2.1 dX12_worthNow_51 eg14.symm ?_
  refine lv_ladd X.1 X.2.1 dX12_worthNow_52 ?_
  refine lv_topl (fun g15 eg15 => ?_)
  refine lv_lstore_n (lv' := [(1, .long g15), (0, .ref a0)]) X.1 X.2.1 dX12_worthNow_53 rfl hl (by decide) rfl (fun ls hl => ?_)
  refine lv_ldc2 X.1 X.2.1 X.2.2.2.1 (X.2.2.2.2 _ wl_8_73) dX12_worthNow_54 ?_
  refine lv_lload_n X.1 X.2.1 dX12_worthNow_57 rfl (lv_at hl 0 rfl) ?_
  refine lv_lmul X.1 X.2.1 dX12_worthNow_58 ?_
  refine lv_topl (fun g16 eg16 => ?_)
  refine lv_aload_n X.1 X.2.1 dX12_worthNow_59 rfl (lv_at hl 1 rfl) ?_
  refine gg_X12_4 X hK hG h0 wl_6_182 kq1 dX12_worthNow_60 ?_
  refine lv_bipush (v := 98) X.1 X.2.1 dX12_worthNow_63 (by decide +kernel) ?_
  refine al_48 X hK hG hq1 (iv_vpin (iv_c 98 (a := 98) (b := 98) (by decide +kernel)) (by decide +kernel)) dX12_worthNow_65 (fun f17 hf17 => ?_)
  obtain ⟨g18, eg18⟩ : ∃ y : Int64, y = (f17 : Int32).toInt64 := ⟨_, rfl⟩
  refine lv_i2l (v := g18) X.1 X.2.1 dX12_worthNow_66 eg18.symm ?_
  refine lv_ladd X.1 X.2.1 dX12_worthNow_67 ?_
  refine lv_topl (fun g19 eg19 => ?_)
  refine lv_lstore_n (lv' := [(1, .long g19), (0, .ref a0)]) X.1 X.2.1 dX12_worthNow_68 rfl hl (by decide) rfl (fun ls hl => ?_)
  refine lv_ldc2 X.1 X.2.1 X.2.2.2.1 (X.2.2.2.2 _ wl_8_75) dX12_worthNow_69 ?_
  refine lv_lload_n X.1 X.2.1 dX12_worthNow_72 rfl (lv_at hl 0 rfl) ?_
  refine lv_lmul X.1 X.2.1 dX12_worthNow_73 ?_
  refine lv_topl (fun g20 eg20 => ?_)
  refine lv_aload_n X.1 X.2.1 dX12_worthNow_74 rfl (lv_at hl 1 rfl) ?_
  refine gg_X12_4 X hK hG h0 wl_6_182 kq1 dX12_worthNow_75 ?_
  refine lv_bipush (v := 111) X.1 X.2.1 dX12_worthNow_78 (by decide +kernel) ?_
  refine al_48 X hK hG hq1 (iv_vpin (iv_c 111 (a := 111) (b := 111) (by decide +kernel)) (by decide +kernel)) dX12_worthNow_80 (fun f21 hf21 => ?_)
  obtain ⟨g22, eg22⟩ : ∃ y : Int64, y = (f21 : Int32).toInt64 := ⟨_, rfl⟩
  refine lv_i2l (v := g22) X.1 X.2.1 dX12_worthNow_81 eg22.symm ?_
  refine lv_ladd X.1 X.2.1 dX12_worthNow_82 ?_
  refine lv_topl (fun g23 eg23 => ?_)
  refine lv_lstore_n (lv' := [(1, .long g23), (0, .ref a0)]) X.1 X.2.1 dX12_worthNow_83 rfl hl (by decide) rfl (fun ls hl => ?_)
  refine lv_ldc2 X.1 X.2.1 X.2.2.2.1 (X.2.2.2.2 _ wl_8_50) dX12_worthNow_84 ?_
  refine lv_lload_n X.1 X.2.1 dX12_worthNow_87 rfl (lv_at hl 0 rfl) ?_
  refine lv_lmul X.1 X.2.1 dX12_worthNow_88 ?_
  refine lv_topl (fun g24 eg24 => ?_)
  refine lv_aload_n X.1 X.2.1 dX12_worthNow_89 rfl (lv_at hl 1 rfl) ?_
  refine gg_X12_34 X hK hG h0 wl_6_212 kgl dX12_worthNow_90 ?_
  obtain ⟨g25, eg25⟩ : ∃ y : Int64, y = (gl : Int32).toInt64 := ⟨_, rfl⟩
  refine lv_i2l (v := g25) X.1 X.2.1 dX12_worthNow_93 eg25.symm ?_
  refine lv_ladd X.1 X.2.1 dX12_worthNow_94 ?_
  refine lv_topl (fun g26 eg26 => ?_)
  refine lv_lconst (v := 1) X.1 X.2.1 dX12_worthNow_95 (by decide +kernel) ?_
  refine lv_ladd X.1 X.2.1 dX12_worthNow_96 ?_
  refine lv_topl (fun g27 eg27 => ?_)
  refine lv_lstore_n (lv' := [(1, .long g27), (0, .ref a0)]) X.1 X.2.1 dX12_worthNow_97 rfl hl (by decide) rfl (fun ls hl => ?_)
  refine lv_lload_n X.1 X.2.1 dX12_worthNow_98 rfl (lv_at hl 0 rfl) ?_
  refine lv_ldc2 X.1 X.2.1 X.2.2.2.1 (X.2.2.2.2 _ wl_8_76) dX12_worthNow_99 ?_
  refine lv_lrem X.1 X.2.1 dX12_worthNow_102 (by decide +kernel) ?_
  refine lv_topl (fun g28 eg28 => ?_)
  obtain ⟨f29, ef29⟩ : ∃ y : Int32, y = (g28 : Int64).toInt32 := ⟨_, rfl⟩
  refine lv_l2i (v := f29) X.1 X.2.1 dX12_worthNow_103 ef29.symm ?_
  refine lv_istore_n (lv' := [(3, .int f29), (1, .long g27), (0, .ref a0)]) X.1 X.2.1 dX12_worthNow_104 rfl hl (by decide) rfl (fun ls hl => ?_)
  refine lv_aload_n X.1 X.2.1 dX12_worthNow_105 rfl (lv_at hl 2 rfl) ?_
  refine gf_X12_36 X hK hG h0 wl_6_214 dX12_worthNow_106 (fun q30 hq30 kq30 => ?_)
  refine lv_iload_n X.1 X.2.1 dX12_worthNow_109 rfl (lv_at hl 0 rfl) ?_
  refine al_56 X hK hG hq30 (iv_vpin (jv_l2i ef29 (jv_rem (a' := 0) (b' := 8190) eg28 (jv_add (a' := 1) (b' := 1122081680393974) eg27 (jv_add (a' := 0) (b' := 1122081680393973) eg26 (jv_mul (a' := 0) (b' := 1122081680393970) eg24 (jv_c 5 (a := 5) (b := 5) (by decide +kernel)) (jv_add (a' := 0) (b' := 224416336078794) eg23 (jv_mul (a' := 0) (b' := 224414188595147) eg20 (jv_c 31 (a := 31) (b := 31) (by decide +kernel)) (jv_add (a' := 0) (b' := 7239167374037) eg19 (jv_mul (a' := 0) (b' := 7237019890390) eg16 (jv_c 10 (a := 10) (b := 10) (by decide +kernel)) (jv_add (a' := 0) (b' := 723701989039) eg15 (jv_mul (a' := 0) (b' := 721554505392) eg12 (jv_c 6 (a := 6) (b := 6) (by decide +kernel)) (jv_add (a' := 0) (b' := 120259084232) eg11 (jv_mul (a' := 0) (b' := 118111600585) eg8 (jv_c 5 (a := 5) (b := 5) (by decide +kernel)) (jv_add (a' := 0) (b' := 23622320117) eg7 (jv_mul (a' := 0) (b' := 21474836470) eg4 (jv_c 10 (a := 10) (b := 10) (by decide +kernel)) (jv_i2l eg3 hf2) (by decide +kernel)) (jv_i2l eg6 hf5) (by decide +kernel)) (by decide +kernel)) (jv_i2l eg10 hf9) (by decide +kernel)) (by decide +kernel)) (jv_i2l eg14 hf13) (by decide +kernel)) (by decide +kernel)) (jv_i2l eg18 hf17) (by decide +kernel)) (by decide +kernel)) (jv_i2l eg22 hf21) (by decide +kernel)) (by decide +kernel)) (jv_i2l eg25 hgl) (by decide +kernel)) (jv_c 1 (a := 1) (b := 1) (by decide +kernel)) (by decide +kernel)) (jv_c 8191 (a := 8191) (b := 8191) (by decide +kernel)) (by decide +kernel)) (by decide +kernel)) (by decide +kernel)) dX12_worthNow_110 (fun g31 => ?_)
  refine lv_lload_n X.1 X.2.1 dX12_worthNow_111 rfl (lv_at hl 1 rfl) ?_
  refine W.lcmp X.1 X.2.1 dX12_worthNow_112 ?_
  refine lv_topi (fun f32 ef32 => ?_)
  refine lv_if_ne (tgt := 123) X.1 X.2.1 dX12_worthNow_113 (by decide) (fun c33 => ?_) (fun c33 => ?_)
  · refine lv_aload_n X.1 X.2.1 dX12_worthNow_123 rfl (lv_at hl 2 rfl) ?_
    refine lv_aload_n X.1 X.2.1 dX12_worthNow_124 rfl (lv_at hl 2 rfl) ?_
    refine gf_X12_2 X hK hG h0 wl_6_180 dX12_worthNow_125 (fun q34 hq34 kq34 => ?_)
    refine lv_sipush (v := 240) X.1 X.2.1 dX12_worthNow_128 (by decide +kernel) ?_
    refine lv_aload_n X.1 X.2.1 dX12_worthNow_131 rfl (lv_at hl 2 rfl) ?_
    refine gg_X12_34 X hK hG h0 wl_6_212 kgl dX12_worthNow_132 ?_
    refine lv_imul X.1 X.2.1 dX12_worthNow_135 ?_
    refine lv_topi (fun f35 ef35 => ?_)
    refine lv_aload_n X.1 X.2.1 dX12_worthNow_136 rfl (lv_at hl 2 rfl) ?_
    refine gf_X12_3 X hK hG h0 wl_6_181 dX12_worthNow_137 (fun q36 hq36 kq36 => ?_)
    refine lv_aload_n X.1 X.2.1 dX12_worthNow_140 rfl (lv_at hl 2 rfl) ?_
    refine gg_X12_34 X hK hG h0 wl_6_212 kgl dX12_worthNow_141 ?_
    refine al_47 X hK hG hq36 (iv_vpin hgl (by decide +kernel)) dX12_worthNow_144 (fun f37 hf37 => ?_)
    refine ca_X12_goThrough_x X hK hG hC hS hb a0 h0 q34 hq34 f35 (iv_mul (a' := 0) (b' := 720) ef35 (iv_c 240 (a := 240) (b := 240) (by decide +kernel)) hgl (by decide +kernel)) f37 hf37 wl_7_206 hl.1 (rest := []) rfl (Nat.le_of_ble_eq_true rfl) ⟨Nat.le_of_ble_eq_true rfl, Nat.le_of_ble_eq_true rfl⟩ ⟨Nat.le_of_ble_eq_true rfl, Nat.le_of_ble_eq_true rfl⟩ dX12_worthNow_145 (fun H locs hG hS => ?_)
    refine lv_aload_n X.1 X.2.1 dX12_worthNow_148 rfl (lv_at hl 2 rfl) ?_
    refine gf_X12_36 X hK hG h0 wl_6_214 dX12_worthNow_149 (fun q39 hq39 kq39 => ?_)
    refine lv_iload_n X.1 X.2.1 dX12_worthNow_152 rfl (lv_at hl 0 rfl) ?_
    refine lv_lload_n X.1 X.2.1 dX12_worthNow_153 rfl (lv_at hl 1 rfl) ?_
    refine as_56 X hK hG hS hq39 (iv_vpin (jv_l2i ef29 (jv_rem (a' := 0) (b' := 8190) eg28 (jv_add (a' := 1) (b' := 1122081680393974) eg27 (jv_add (a' := 0) (b' := 1122081680393973) eg26 (jv_mul (a' := 0) (b' := 1122081680393970) eg24 (jv_c 5 (a := 5) (b := 5) (by decide +kernel)) (jv_add (a' := 0) (b' := 224416336078794) eg23 (jv_mul (a' := 0) (b' := 224414188595147) eg20 (jv_c 31 (a := 31) (b := 31) (by decide +kernel)) (jv_add (a' := 0) (b' := 7239167374037) eg19 (jv_mul (a' := 0) (b' := 7237019890390) eg16 (jv_c 10 (a := 10) (b := 10) (by decide +kernel)) (jv_add (a' := 0) (b' := 723701989039) eg15 (jv_mul (a' := 0) (b' := 721554505392) eg12 (jv_c 6 (a := 6) (b := 6) (by decide +kernel)) (jv_add (a' := 0) (b' := 120259084232) eg11 (jv_mul (a' := 0) (b' := 118111600585) eg8 (jv_c 5 (a := 5) (b := 5) (by decide +kernel)) (jv_add (a' := 0) (b' := 23622320117) eg7 (jv_mul (a' := 0) (b' := 21474836470) eg4 (jv_c 10 (a := 10) (b := 10) (by decide +kernel)) (jv_i2l eg3 hf2) (by decide +kernel)) (jv_i2l eg6 hf5) (by decide +kernel)) (by decide +kernel)) (jv_i2l eg10 hf9) (by decide +kernel)) (by decide +kernel)) (jv_i2l eg14 hf13) (by decide +kernel)) (by decide +kernel)) (jv_i2l eg18 hf17) (by decide +kernel)) (by decide +kernel)) (jv_i2l eg22 hf21) (by decide +kernel)) (by decide +kernel)) (jv_i2l eg25 hgl) (by decide +kernel)) (jv_c 1 (a := 1) (b := 1) (by decide +kernel)) (by decide +kernel)) (jv_c 8191 (a := 8191) (b := 8191) (by decide +kernel)) (by decide +kernel)) (by decide +kernel)) (by decide +kernel)) dX12_worthNow_154 (fun H locs hG hS ru40 => ?_)
    refine lv_aload_n X.1 X.2.1 dX12_worthNow_155 rfl (lv_at hl 2 rfl) ?_
    refine gf_X12_37 X hK hG h0 wl_6_215 dX12_worthNow_156 (fun q41 hq41 kq41 => ?_)
    refine lv_iload_n X.1 X.2.1 dX12_worthNow_159 rfl (lv_at hl 0 rfl) ?_
    refine lv_aload_n X.1 X.2.1 dX12_worthNow_160 rfl (lv_at hl 2 rfl) ?_
    refine gf_X12_14 X hK hG h0 wl_6_192 dX12_worthNow_161 (fun f42 hf42 kf42 => ?_)
    refine as_57 X hK hG hS hq41 (iv_vpin (jv_l2i ef29 (jv_rem (a' := 0) (b' := 8190) eg28 (jv_add (a' := 1) (b' := 1122081680393974) eg27 (jv_add (a' := 0) (b' := 1122081680393973) eg26 (jv_mul (a' := 0) (b' := 1122081680393970) eg24 (jv_c 5 (a := 5) (b := 5) (by decide +kernel)) (jv_add (a' := 0) (b' := 224416336078794) eg23 (jv_mul (a' := 0) (b' := 224414188595147) eg20 (jv_c 31 (a := 31) (b := 31) (by decide +kernel)) (jv_add (a' := 0) (b' := 7239167374037) eg19 (jv_mul (a' := 0) (b' := 7237019890390) eg16 (jv_c 10 (a := 10) (b := 10) (by decide +kernel)) (jv_add (a' := 0) (b' := 723701989039) eg15 (jv_mul (a' := 0) (b' := 721554505392) eg12 (jv_c 6 (a := 6) (b := 6) (by decide +kernel)) (jv_add (a' := 0) (b' := 120259084232) eg11 (jv_mul (a' := 0) (b' := 118111600585) eg8 (jv_c 5 (a := 5) (b := 5) (by decide +kernel)) (jv_add (a' := 0) (b' := 23622320117) eg7 (jv_mul (a' := 0) (b' := 21474836470) eg4 (jv_c 10 (a := 10) (b := 10) (by decide +kernel)) (jv_i2l eg3 hf2) (by decide +kernel)) (jv_i2l eg6 hf5) (by decide +kernel)) (by decide +kernel)) (jv_i2l eg10 hf9) (by decide +kernel)) (by decide +kernel)) (jv_i2l eg14 hf13) (by decide +kernel)) (by decide +kernel)) (jv_i2l eg18 hf17) (by decide +kernel)) (by decide +kernel)) (jv_i2l eg22 hf21) (by decide +kernel)) (by decide +kernel)) (jv_i2l eg25 hgl) (by decide +kernel)) (jv_c 1 (a := 1) (b := 1) (by decide +kernel)) (by decide +kernel)) (jv_c 8191 (a := 8191) (b := 8191) (by decide +kernel)) (by decide +kernel)) (by decide +kernel)) (by decide +kernel)) ⟨_, rfl, (iv_top _)⟩ dX12_worthNow_164 (fun H locs hG hS ru43 => ?_)
    refine lv_aload_n X.1 X.2.1 dX12_worthNow_165 rfl (lv_at hl 2 rfl) ?_
    refine gg_X12_14 X hK hG h0 wl_6_192 (ru43 _ _ _ _ _ _ _ h0 rfl rfl (by decide) (fun z => z.elim) kf42) dX12_worthNow_166 ?_
    exact sg_iret2 X hr hlk hS trivial (fun t ht hW => sg_post hb hK hC hG hS ht hW) dX12_worthNow_169
  · refine lv_aload_n X.1 X.2.1 dX12_worthNow_116 rfl (lv_at hl 2 rfl) ?_
    refine gf_X12_37 X hK hG h0 wl_6_215 dX12_worthNow_117 (fun q44 hq44 kq44 => ?_)
    refine lv_iload_n X.1 X.2.1 dX12_worthNow_120 rfl (lv_at hl 0 rfl) ?_
    refine al_57 X hK hG hq44 (iv_vpin (jv_l2i ef29 (jv_rem (a' := 0) (b' := 8190) eg28 (jv_add (a' := 1) (b' := 1122081680393974) eg27 (jv_add (a' := 0) (b' := 1122081680393973) eg26 (jv_mul (a' := 0) (b' := 1122081680393970) eg24 (jv_c 5 (a := 5) (b := 5) (by decide +kernel)) (jv_add (a' := 0) (b' := 224416336078794) eg23 (jv_mul (a' := 0) (b' := 224414188595147) eg20 (jv_c 31 (a := 31) (b := 31) (by decide +kernel)) (jv_add (a' := 0) (b' := 7239167374037) eg19 (jv_mul (a' := 0) (b' := 7237019890390) eg16 (jv_c 10 (a := 10) (b := 10) (by decide +kernel)) (jv_add (a' := 0) (b' := 723701989039) eg15 (jv_mul (a' := 0) (b' := 721554505392) eg12 (jv_c 6 (a := 6) (b := 6) (by decide +kernel)) (jv_add (a' := 0) (b' := 120259084232) eg11 (jv_mul (a' := 0) (b' := 118111600585) eg8 (jv_c 5 (a := 5) (b := 5) (by decide +kernel)) (jv_add (a' := 0) (b' := 23622320117) eg7 (jv_mul (a' := 0) (b' := 21474836470) eg4 (jv_c 10 (a := 10) (b := 10) (by decide +kernel)) (jv_i2l eg3 hf2) (by decide +kernel)) (jv_i2l eg6 hf5) (by decide +kernel)) (by decide +kernel)) (jv_i2l eg10 hf9) (by decide +kernel)) (by decide +kernel)) (jv_i2l eg14 hf13) (by decide +kernel)) (by decide +kernel)) (jv_i2l eg18 hf17) (by decide +kernel)) (by decide +kernel)) (jv_i2l eg22 hf21) (by decide +kernel)) (by decide +kernel)) (jv_i2l eg25 hgl) (by decide +kernel)) (jv_c 1 (a := 1) (b := 1) (by decide +kernel)) (by decide +kernel)) (jv_c 8191 (a := 8191) (b := 8191) (by decide +kernel)) (by decide +kernel)) (by decide +kernel)) (by decide +kernel)) dX12_worthNow_121 (fun f45 hf45 => ?_)
    exact sg_iret2 X hr hlk hS trivial (fun t ht hW => sg_post hb hK hC hG hS ht hW) dX12_worthNow_122

theorem ca_X12_worthNow   (X : CallFix p m c cc nL s args sg_tbl own) (hK : va_K D vwCl tys s) (hG : sgG (KL P) D vwCl (fun q : Nat => base ≤ q) tys ad ks H) (hC : sgC base s) (hS : va_S (fun q : Nat => base ≤ q) s.heap H locs) (hb : base ≤ s.heap.size) (a0 : Nat) (h0 : isK ad ks 12 a0) (hl : Cond.methodLink own index yX12_worthNow ∈ sg_tbl) (hsize : ls.size = nL) (hst : st0 = [].reverse ++ .ref a0 :: rest) (hW : (rest.map fun v => v.category).sum ≤ 8) (hR : 33 ≤ R.frames ∧ 769 ≤ R.locals) (hf : cells ≤ R.cells ∧ slots ≤ R.slots) (hdg : decode cc pc = .ok (.invokevirtual index, 3)) (kk : ∀ (r : Int32) (t : State) (H1 : Heap) (locs1 : List Loc), t.heap = H1 → (fun r : Int32 => True) r → (sgB (KT P) D vwCl base tys ad ks t) → va_S (fun q : Nat => base ≤ q) s.heap H1 locs1 → W p l e R s m args below meth c H1 locs1 cells slots Q (F0 m (pc + 3) ls (.int r :: rest))) : W p l e R s m args below meth c H locs cells slots Q (F0 m pc ls st0) :=
  sg_callV2i X hK hG hC hS hb (m_X12_worthNow l a0 h0) h0 (k := 12) (ci := 12) rfl (C := RX12) (T := TX12) (N := 53) rfl wl_8_72 wl_1_13 wl_8_71 wl_0_75 (n := 0) (by decide +kernel) rfl rfl rfl hl hsize hst hW hR hf hdg kk

set_option maxHeartbeats 8000000 in
set_option maxRecDepth 100000 in
theorem m_X12_mayGrow_1 (l : Launch) {D : va_G} {base : Nat} {tys : List (ClassId × FieldType)} {ad ks : List Nat} {P : sgPm} (hp4 : P.2.2.2.2.1 = true) (a0 : Nat) (h0 : isK ad ks 12 a0) (x1 : Int32) (x2 : Int32) (x3 : Int32) (h3 : iv 0 2147483647 x3) (x4 : Int32) (h4 : iv 0 29 x4) : sgMi l (KT P) D vwCl base tys ad ks yX12_mayGrow cX12_mayGrow 6 (some .boolean) ({ frames := 33, cells := 0, slots := 0, locals := 769 }) [.ref a0, .int x1, .int x2, .int x3, .int x4] (fun r : Int32 => iv 0 1 r) := by
  refine sg_ofW (by decide +kernel) (Nat.le_of_ble_eq_true rfl) (fun p e s m below meth c X hr hlk hb hK hC hG ls hl => ?_)
  have hS : va_S (fun q : Nat => base ≤ q) s.heap s.heap [] := va_S.rf
  have hl : lv_has ls 6 [(0, .ref a0), (1, .int x1), (2, .int x2), (3, .int x3), (4, .int x4)] := hl
  refine lv_iload_n X.1 X.2.1 dX12_mayGrow_0 rfl (lv_at hl 1 rfl) ?_
  refine lv_iload_n X.1 X.2.1 dX12_mayGrow_1 rfl (lv_at hl 2 rfl) ?_
  refine lv_ior X.1 X.2.1 dX12_mayGrow_2 ?_
  refine lv_topi (fun f1 ef1 => ?_)
  refine lv_aload_n X.1 X.2.1 dX12_mayGrow_3 rfl (lv_at hl 0 rfl) ?_
  refine gf_X12_24 X hK hG h0 wl_6_202 dX12_mayGrow_4 (fun f2 hf2 kf2 => ?_)
  refine lv_ior X.1 X.2.1 dX12_mayGrow_7 ?_
  refine lv_topi (fun f3 ef3 => ?_)
  refine lv_iload X.1 X.2.1 dX12_mayGrow_8 (lv_at hl 4 rfl) ?_
  refine ca_X12_has X hK hG hC (fun _ h => h) hS hb f3 x4 wl_7_174 hl.1 (rest := []) rfl (Nat.le_of_ble_eq_true rfl) ⟨Nat.le_of_ble_eq_true rfl, Nat.le_of_ble_eq_true rfl⟩ ⟨Nat.le_of_ble_eq_true rfl, Nat.le_of_ble_eq_true rfl⟩ dX12_mayGrow_10 (fun f4 locs hf4 hS => ?_)
  refine lv_if_eq (tgt := 18) X.1 X.2.1 dX12_mayGrow_13 (by decide) (fun c5 => ?_) (fun c5 => ?_)
  · refine lv_aload_n X.1 X.2.1 dX12_mayGrow_18 rfl (lv_at hl 0 rfl) ?_
    refine lv_iload_n X.1 X.2.1 dX12_mayGrow_19 rfl (lv_at hl 1 rfl) ?_
    refine lv_iload X.1 X.2.1 dX12_mayGrow_20 (lv_at hl 4 rfl) ?_
    refine ca_X12_around_1 X hK hG hC (fun _ h => h) hS hb hp4 a0 h0 x1 x4 wl_8_59 hl.1 (rest := []) rfl (Nat.le_of_ble_eq_true rfl) ⟨Nat.le_of_ble_eq_true rfl, Nat.le_of_ble_eq_true rfl⟩ ⟨Nat.le_of_ble_eq_true rfl, Nat.le_of_ble_eq_true rfl⟩ dX12_mayGrow_22 (fun f6 locs hf6 hS => ?_)
    refine lv_istore (lv' := [(5, .int f6), (0, .ref a0), (1, .int x1), (2, .int x2), (3, .int x3), (4, .int x4)]) X.1 X.2.1 dX12_mayGrow_25 hl (by decide) rfl (fun ls hl => ?_)
    refine lv_aload_n X.1 X.2.1 dX12_mayGrow_27 rfl (lv_at hl 1 rfl) ?_
    refine gf_X12_34 X hK hG h0 wl_6_212 dX12_mayGrow_28 (fun f7 hf7 kf7 => ?_)
    refine lv_iconst (v := (-1)) X.1 X.2.1 dX12_mayGrow_31 (by decide +kernel) ?_
    refine lv_icmp_ne (tgt := 63) X.1 X.2.1 dX12_mayGrow_32 (by decide) (fun c8 => ?_) (fun c8 => ?_)
    · refine lv_aload_n X.1 X.2.1 dX12_mayGrow_63 rfl (lv_at hl 1 rfl) ?_
      refine gf_X12_4 X hK hG h0 wl_6_182 dX12_mayGrow_64 (fun q9 hq9 kq9 => ?_)
      refine lv_bipush (v := 116) X.1 X.2.1 dX12_mayGrow_67 (by decide +kernel) ?_
      refine lv_iload X.1 X.2.1 dX12_mayGrow_69 (lv_at hl 0 rfl) ?_
      refine as_48 X hK hG hS hq9 (iv_vpin (iv_c 116 (a := 116) (b := 116) (by decide +kernel)) (by decide +kernel)) ⟨_, rfl, (iv_of hf6 (a' := 0) (b' := 2147483647) (by decide +kernel))⟩ dX12_mayGrow_71 (fun H locs hG hS ru10 => ?_)
      refine lv_aload_n X.1 X.2.1 dX12_mayGrow_72 rfl (lv_at hl 1 rfl) ?_
      refine gg_X12_4 X hK hG h0 wl_6_182 (ru10 _ _ _ _ _ _ _ h0 rfl rfl (by decide) (fun z => z.elim) kq9) dX12_mayGrow_73 ?_
      refine lv_bipush (v := 114) X.1 X.2.1 dX12_mayGrow_76 (by decide +kernel) ?_
      refine lv_iload X.1 X.2.1 dX12_mayGrow_78 (lv_at hl 5 rfl) ?_
      refine lv_aload_n X.1 X.2.1 dX12_mayGrow_80 rfl (lv_at hl 1 rfl) ?_
      refine gf_X12_18 X hK hG h0 wl_6_196 dX12_mayGrow_81 (fun q11 hq11 kq11 => ?_)
      refine lv_iconst (v := 0) X.1 X.2.1 dX12_mayGrow_84 (by decide +kernel) ?_
      refine al_49 X hK hG hq11 (iv_vpin (iv_c 0 (a := 0) (b := 0) (by decide +kernel)) (by decide +kernel)) dX12_mayGrow_85 (fun f12 hf12 => ?_)
      have of12 := hf12
      have hf12 : iv 1 6 f12 := sg_r1 hp4 hf12 (iv_c 0 (a := 0) (b := 0) (by decide +kernel)) (by decide +kernel) rfl
      refine lv_idiv X.1 X.2.1 dX12_mayGrow_86 (iv_ne0 hf12 (by decide +kernel)) ?_
      refine lv_topi (fun f13 ef13 => ?_)
      refine as_48 X hK hG hS hq9 (iv_vpin (iv_c 114 (a := 114) (b := 114) (by decide +kernel)) (by decide +kernel)) ⟨_, rfl, (iv_of (iv_div (a' := 0) (b' := 29) ef13 h4 hf12 (by decide +kernel)) (a' := 0) (b' := 2147483647) (by decide +kernel))⟩ dX12_mayGrow_87 (fun H locs hG hS ru14 => ?_)
      refine lv_aload_n X.1 X.2.1 dX12_mayGrow_88 rfl (lv_at hl 1 rfl) ?_
      refine gg_X12_4 X hK hG h0 wl_6_182 (ru14 _ _ _ _ _ _ _ h0 rfl rfl (by decide) (fun z => z.elim) (ru10 _ _ _ _ _ _ _ h0 rfl rfl (by decide) (fun z => z.elim) kq9)) dX12_mayGrow_89 ?_
      refine lv_bipush (v := 99) X.1 X.2.1 dX12_mayGrow_92 (by decide +kernel) ?_
      refine lv_iload X.1 X.2.1 dX12_mayGrow_94 (lv_at hl 5 rfl) ?_
      refine lv_aload_n X.1 X.2.1 dX12_mayGrow_96 rfl (lv_at hl 1 rfl) ?_
      refine gg_X12_18 X hK hG h0 wl_6_196 (ru14 _ _ _ _ _ _ _ h0 rfl rfl (by decide) (fun z => z.elim) kq11) dX12_mayGrow_97 ?_
      refine lv_iconst (v := 0) X.1 X.2.1 dX12_mayGrow_100 (by decide +kernel) ?_
      refine al_49 X hK hG hq11 (iv_vpin (iv_c 0 (a := 0) (b := 0) (by decide +kernel)) (by decide +kernel)) dX12_mayGrow_101 (fun f15 hf15 => ?_)
      have of15 := hf15
      have hf15 : iv 1 6 f15 := sg_r1 hp4 hf15 (iv_c 0 (a := 0) (b := 0) (by decide +kernel)) (by decide +kernel) rfl
      refine lv_irem X.1 X.2.1 dX12_mayGrow_102 (iv_ne0 hf15 (by decide +kernel)) ?_
      refine lv_topi (fun f16 ef16 => ?_)
      refine as_48 X hK hG hS hq9 (iv_vpin (iv_c 99 (a := 99) (b := 99) (by decide +kernel)) (by decide +kernel)) ⟨_, rfl, (iv_of (iv_rem (a' := 0) (b' := 5) ef16 h4 hf15 (by decide +kernel)) (a' := 0) (b' := 2147483647) (by decide +kernel))⟩ dX12_mayGrow_103 (fun H locs hG hS ru17 => ?_)
      refine lv_aload_n X.1 X.2.1 dX12_mayGrow_104 rfl (lv_at hl 1 rfl) ?_
      refine gg_X12_4 X hK hG h0 wl_6_182 (ru17 _ _ _ _ _ _ _ h0 rfl rfl (by decide) (fun z => z.elim) (ru14 _ _ _ _ _ _ _ h0 rfl rfl (by decide) (fun z => z.elim) (ru10 _ _ _ _ _ _ _ h0 rfl rfl (by decide) (fun z => z.elim) kq9))) dX12_mayGrow_105 ?_
      refine lv_bipush (v := 98) X.1 X.2.1 dX12_mayGrow_108 (by decide +kernel) ?_
      refine lv_aload_n X.1 X.2.1 dX12_mayGrow_110 rfl (lv_at hl 1 rfl) ?_
      refine lv_aload_n X.1 X.2.1 dX12_mayGrow_111 rfl (lv_at hl 1 rfl) ?_
      refine gg_X12_24 X hK hG h0 wl_6_202 (ru17 _ _ _ _ _ _ _ h0 rfl rfl (by decide) (fun z => z.elim) (ru14 _ _ _ _ _ _ _ h0 rfl rfl (by decide) (fun z => z.elim) (ru10 _ _ _ _ _ _ _ h0 rfl rfl (by decide) (fun z => z.elim) kf2))) dX12_mayGrow_112 ?_
      refine lv_iload X.1 X.2.1 dX12_mayGrow_115 (lv_at hl 5 rfl) ?_
      refine ca_X12_around_1 X hK hG hC (fun _ h => h) hS hb hp4 a0 h0 f2 x4 wl_8_59 hl.1 (rest := [.int 98, .ref q9]) rfl (Nat.le_of_ble_eq_true rfl) ⟨Nat.le_of_ble_eq_true rfl, Nat.le_of_ble_eq_true rfl⟩ ⟨Nat.le_of_ble_eq_true rfl, Nat.le_of_ble_eq_true rfl⟩ dX12_mayGrow_117 (fun f18 locs hf18 hS => ?_)
      refine as_48 X hK hG hS hq9 (iv_vpin (iv_c 98 (a := 98) (b := 98) (by decide +kernel)) (by decide +kernel)) ⟨_, rfl, (iv_of hf18 (a' := 0) (b' := 2147483647) (by decide +kernel))⟩ dX12_mayGrow_120 (fun H locs hG hS ru19 => ?_)
      refine lv_aload_n X.1 X.2.1 dX12_mayGrow_121 rfl (lv_at hl 1 rfl) ?_
      refine gg_X12_4 X hK hG h0 wl_6_182 (ru19 _ _ _ _ _ _ _ h0 rfl rfl (by decide) (fun z => z.elim) (ru17 _ _ _ _ _ _ _ h0 rfl rfl (by decide) (fun z => z.elim) (ru14 _ _ _ _ _ _ _ h0 rfl rfl (by decide) (fun z => z.elim) (ru10 _ _ _ _ _ _ _ h0 rfl rfl (by decide) (fun z => z.elim) kq9)))) dX12_mayGrow_122 ?_
      refine lv_bipush (v := 100) X.1 X.2.1 dX12_mayGrow_125 (by decide +kernel) ?_
      refine lv_iload_n X.1 X.2.1 dX12_mayGrow_127 rfl (lv_at hl 4 rfl) ?_
      refine as_48 X hK hG hS hq9 (iv_vpin (iv_c 100 (a := 100) (b := 100) (by decide +kernel)) (by decide +kernel)) ⟨_, rfl, h3⟩ dX12_mayGrow_128 (fun H locs hG hS ru20 => ?_)
      refine lv_aload_n X.1 X.2.1 dX12_mayGrow_129 rfl (lv_at hl 1 rfl) ?_
      refine gg_X12_4 X hK hG h0 wl_6_182 (ru20 _ _ _ _ _ _ _ h0 rfl rfl (by decide) (fun z => z.elim) (ru19 _ _ _ _ _ _ _ h0 rfl rfl (by decide) (fun z => z.elim) (ru17 _ _ _ _ _ _ _ h0 rfl rfl (by decide) (fun z => z.elim) (ru14 _ _ _ _ _ _ _ h0 rfl rfl (by decide) (fun z => z.elim) (ru10 _ _ _ _ _ _ _ h0 rfl rfl (by decide) (fun z => z.elim) kq9))))) dX12_mayGrow_130 ?_
      refine lv_bipush (v := 111) X.1 X.2.1 dX12_mayGrow_133 (by decide +kernel) ?_
      refine lv_iload_n X.1 X.2.1 dX12_mayGrow_135 rfl (lv_at hl 2 rfl) ?_
      refine ca_J6_bitCount_0f7a4 X hK hG hC (fun _ h => h) hS hb x1 wl_8_68 hl.1 (rest := [.int 111, .ref q9]) rfl (Nat.le_of_ble_eq_true rfl) ⟨Nat.le_of_ble_eq_true rfl, Nat.le_of_ble_eq_true rfl⟩ ⟨Nat.le_of_ble_eq_true rfl, Nat.le_of_ble_eq_true rfl⟩ dX12_mayGrow_136 (fun f21 locs hf21 hS => ?_)
      refine as_48 X hK hG hS hq9 (iv_vpin (iv_c 111 (a := 111) (b := 111) (by decide +kernel)) (by decide +kernel)) ⟨_, rfl, (iv_of hf21 (a' := 0) (b' := 2147483647) (by decide +kernel))⟩ dX12_mayGrow_139 (fun H locs hG hS ru22 => ?_)
      refine lv_aload_n X.1 X.2.1 dX12_mayGrow_140 rfl (lv_at hl 1 rfl) ?_
      have hG := sgl_str hG h0 (ru22 _ _ _ _ _ _ _ h0 rfl rfl (by decide) (fun z => z.elim) (ru20 _ _ _ _ _ _ _ h0 rfl rfl (by decide) (fun z => z.elim) (ru19 _ _ _ _ _ _ _ h0 rfl rfl (by decide) (fun z => z.elim) (ru17 _ _ _ _ _ _ _ h0 rfl rfl (by decide) (fun z => z.elim) (ru14 _ _ _ _ _ _ _ h0 rfl rfl (by decide) (fun z => z.elim) (ru10 _ _ _ _ _ _ _ h0 rfl rfl (by decide) (fun z => z.elim) kf7)))))) (iv_ne_lo (a' := 0) c8 hf7 (by decide +kernel))
      refine ca_X12_worthNow X hK hG hC hS hb a0 h0 wl_8_69 hl.1 (rest := []) rfl (Nat.le_of_ble_eq_true rfl) ⟨Nat.le_of_ble_eq_true rfl, Nat.le_of_ble_eq_true rfl⟩ ⟨Nat.le_of_ble_eq_true rfl, Nat.le_of_ble_eq_true rfl⟩ dX12_mayGrow_141 (fun f23 tf23 H locs htf23 hf23 hWf23 hS => ?_)
      have hG := hWf23.2.2.2
      rw [htf23] at hG
      refine lv_if_le (tgt := 151) X.1 X.2.1 dX12_mayGrow_144 (by decide) (fun c24 => ?_) (fun c24 => ?_)
      · refine lv_iconst (v := 0) X.1 X.2.1 dX12_mayGrow_151 (by decide +kernel) ?_
        exact sg_zret X hr (sg_zn (iv_of (iv_c 0 (a := 0) (b := 0) (by decide +kernel)) (a' := 0) (b' := 1) (by decide +kernel))) hlk hb hK hC hG hS (iv_of (iv_c 0 (a := 0) (b := 0) (by decide +kernel)) (a' := 0) (b' := 1) (by decide +kernel)) dX12_mayGrow_152
      · refine lv_iconst (v := 1) X.1 X.2.1 dX12_mayGrow_147 (by decide +kernel) ?_
        refine lv_goto (tgt := 152) X.1 X.2.1 dX12_mayGrow_148 (by decide) ?_
        exact sg_zret X hr (sg_zn (iv_of (iv_c 1 (a := 1) (b := 1) (by decide +kernel)) (a' := 0) (b' := 1) (by decide +kernel))) hlk hb hK hC hG hS (iv_of (iv_c 1 (a := 1) (b := 1) (by decide +kernel)) (a' := 0) (b' := 1) (by decide +kernel)) dX12_mayGrow_152
    · refine lv_iload X.1 X.2.1 dX12_mayGrow_35 (lv_at hl 0 rfl) ?_
      refine lv_aload_n X.1 X.2.1 dX12_mayGrow_37 rfl (lv_at hl 1 rfl) ?_
      refine gf_X12_18 X hK hG h0 wl_6_196 dX12_mayGrow_38 (fun q25 hq25 kq25 => ?_)
      refine lv_iconst (v := 4) X.1 X.2.1 dX12_mayGrow_41 (by decide +kernel) ?_
      refine al_49 X hK hG hq25 (iv_vpin (iv_c 4 (a := 4) (b := 4) (by decide +kernel)) (by decide +kernel)) dX12_mayGrow_42 (fun f26 hf26 => ?_)
      have of26 := hf26
      have hf26 : iv 0 8 f26 := sg_r1 hp4 hf26 (iv_c 4 (a := 4) (b := 4) (by decide +kernel)) (by decide +kernel) rfl
      have B28_61 : ∀ (locs : List Loc) (ls : Array Slot), va_S (fun q : Nat => base ≤ q) s.heap s.heap locs → lv_has ls 6 [] → W p l e (headSpec (Cond.code yX12_mayGrow cX12_mayGrow 6 (some .boolean) :: sg_tbl) ({ frames := 33, cells := 0, slots := 0, locals := 769 })).room s m #[.ref a0, .int x1, .int x2, .int x3, .int x4] below meth c s.heap locs 0 0 (MQ below (va_Qi (fun r (_ : Unit) => (fun r : Int32 => iv 0 1 r) r) (fun _ => sgB (KT P) D vwCl base tys ad ks) (fun q : Nat => base ≤ q)) #[.ref a0, .int x1, .int x2, .int x3, .int x4] s 0 0 (fun q : Nat => base ≤ q)) (F0 m 61 ls []) := by
        intro locs ls hS hl
        refine lv_iconst (v := 0) X.1 X.2.1 dX12_mayGrow_61 (by decide +kernel) ?_
        exact sg_zret X hr (sg_zn (iv_of (iv_c 0 (a := 0) (b := 0) (by decide +kernel)) (a' := 0) (b' := 1) (by decide +kernel))) hlk hb hK hC hG hS (iv_of (iv_c 0 (a := 0) (b := 0) (by decide +kernel)) (a' := 0) (b' := 1) (by decide +kernel)) dX12_mayGrow_62
      refine lv_icmp_lt (tgt := 61) X.1 X.2.1 dX12_mayGrow_43 (by decide) (fun c27 => ?_) (fun c27 => ?_)
      · exact B28_61 _ _ hS (lv_sub hl [] rfl)
      · refine lv_iload X.1 X.2.1 dX12_mayGrow_46 (lv_at hl 0 rfl) ?_
        refine lv_aload_n X.1 X.2.1 dX12_mayGrow_48 rfl (lv_at hl 1 rfl) ?_
        refine gg_X12_18 X hK hG h0 wl_6_196 kq25 dX12_mayGrow_49 ?_
        refine lv_iconst (v := 5) X.1 X.2.1 dX12_mayGrow_52 (by decide +kernel) ?_
        refine al_49 X hK hG hq25 (iv_vpin (iv_c 5 (a := 5) (b := 5) (by decide +kernel)) (by decide +kernel)) dX12_mayGrow_53 (fun f29 hf29 => ?_)
        have of29 := hf29
        have hf29 : iv 0 8 f29 := sg_r1 hp4 hf29 (iv_c 5 (a := 5) (b := 5) (by decide +kernel)) (by decide +kernel) rfl
        refine lv_icmp_gt (tgt := 61) X.1 X.2.1 dX12_mayGrow_54 (by decide) (fun c30 => ?_) (fun c30 => ?_)
        · exact B28_61 _ _ hS (lv_sub hl [] rfl)
        · refine lv_iconst (v := 1) X.1 X.2.1 dX12_mayGrow_57 (by decide +kernel) ?_
          refine lv_goto (tgt := 62) X.1 X.2.1 dX12_mayGrow_58 (by decide) ?_
          exact sg_zret X hr (sg_zn (iv_of (iv_c 1 (a := 1) (b := 1) (by decide +kernel)) (a' := 0) (b' := 1) (by decide +kernel))) hlk hb hK hC hG hS (iv_of (iv_c 1 (a := 1) (b := 1) (by decide +kernel)) (a' := 0) (b' := 1) (by decide +kernel)) dX12_mayGrow_62
  · refine lv_iconst (v := 0) X.1 X.2.1 dX12_mayGrow_16 (by decide +kernel) ?_
    exact sg_zret X hr (sg_zn (iv_of (iv_c 0 (a := 0) (b := 0) (by decide +kernel)) (a' := 0) (b' := 1) (by decide +kernel))) hlk hb hK hC hG hS (iv_of (iv_c 0 (a := 0) (b := 0) (by decide +kernel)) (a' := 0) (b' := 1) (by decide +kernel)) dX12_mayGrow_17

theorem ca_X12_mayGrow_1   (X : CallFix p m c cc nL s args sg_tbl own) (hK : va_K D vwCl tys s) (hG : sgG (KT P) D vwCl (fun q : Nat => base ≤ q) tys ad ks H) (hC : sgC base s) (hS : va_S (fun q : Nat => base ≤ q) s.heap H locs) (hb : base ≤ s.heap.size) (hp4 : P.2.2.2.2.1 = true) (a0 : Nat) (h0 : isK ad ks 12 a0) (x1 : Int32) (x2 : Int32) (x3 : Int32) (h3 : iv 0 2147483647 x3) (x4 : Int32) (h4 : iv 0 29 x4) (hl : Cond.methodLink own index yX12_mayGrow ∈ sg_tbl) (hsize : ls.size = nL) (hst : st0 = [.int x1, .int x2, .int x3, .int x4].reverse ++ .ref a0 :: rest) (hW : (rest.map fun v => v.category).sum ≤ 8) (hR : 34 ≤ R.frames ∧ 794 ≤ R.locals) (hf : cells ≤ R.cells ∧ slots ≤ R.slots) (hdg : decode cc pc = .ok (.invokevirtual index, 3)) (kk : ∀ (r : Int32) (H1 : Heap) (locs1 : List Loc), (fun r : Int32 => iv 0 1 r) r → sgG (KT P) D vwCl (fun q : Nat => base ≤ q) tys ad ks H1 → va_S (fun q : Nat => base ≤ q) s.heap H1 locs1 → W p l e R s m args below meth c H1 locs1 cells slots Q (F0 m (pc + 3) ls (.int r :: rest))) : W p l e R s m args below meth c H locs cells slots Q (F0 m pc ls st0) :=
  sg_callVi X hK hG hC hS hb (m_X12_mayGrow_1 l hp4 a0 h0 x1 x2 x3 h3 x4 h4) h0 (k := 12) (ci := 12) rfl (C := RX12) (T := TX12) (N := 53) rfl wl_8_67 wl_1_13 wl_8_66 wl_0_74 (n := 4) (by decide +kernel) rfl rfl rfl hl hsize hst hW hR hf hdg kk

set_option maxHeartbeats 8000000 in
set_option maxRecDepth 100000 in
theorem m_X12_freeIn_1 (l : Launch) {D : va_G} {base : Nat} {tys : List (ClassId × FieldType)} {ad ks : List Nat} {P : sgPm} (hp4 : P.2.2.2.2.1 = true) (a0 : Nat) (h0 : isK ad ks 12 a0) (x1 : Int32) (x2 : Int32) (x3 : Int32) (h3 : iv 0 2147483647 x3) : sgMi l (KT P) D vwCl base tys ad ks yX12_freeIn cX12_freeIn 6 (some .int) ({ frames := 34, cells := 0, slots := 0, locals := 794 }) [.ref a0, .int x1, .int x2, .int x3] (fun r : Int32 => True) := by
  refine sg_ofW (by decide +kernel) (Nat.le_of_ble_eq_true rfl) (fun p e s m below meth c X hr hlk hb hK hC hG ls hl => ?_)
  have hS : va_S (fun q : Nat => base ≤ q) s.heap s.heap [] := va_S.rf
  have hl : lv_has ls 6 [(0, .ref a0), (1, .int x1), (2, .int x2), (3, .int x3)] := hl
  refine lv_iconst (v := 0) X.1 X.2.1 dX12_freeIn_0 (by decide +kernel) ?_
  refine lv_istore (lv' := [(4, .int 0), (0, .ref a0), (1, .int x1), (2, .int x2), (3, .int x3)]) X.1 X.2.1 dX12_freeIn_1 hl (by decide) rfl (fun ls hl => ?_)
  refine lv_iconst (v := 0) X.1 X.2.1 dX12_freeIn_3 (by decide +kernel) ?_
  refine lv_istore (lv' := [(5, .int 0), (4, .int 0), (0, .ref a0), (1, .int x1), (2, .int x2), (3, .int x3)]) X.1 X.2.1 dX12_freeIn_4 hl (by decide) rfl (fun ls hl => ?_)
  have B1_6 : ∀ (N : Nat) (H : Heap) (locs : List Loc) (ls : Array Slot) (z1_4 : Int32) (z1_5 : Int32), sgG (KT P) D vwCl (fun q : Nat => base ≤ q) tys ad ks H → va_S (fun q : Nat => base ≤ q) s.heap H locs → lv_has ls 6 [(0, .ref a0), (1, .int x1), (2, .int x2), (3, .int x3), (4, .int z1_4), (5, .int z1_5)] → iv 0 1073741823 z1_4 → iv 0 30 z1_5 → (31 - z1_5.toInt).toNat ≤ N → W p l e (headSpec (Cond.code yX12_freeIn cX12_freeIn 6 (some .int) :: sg_tbl) ({ frames := 34, cells := 0, slots := 0, locals := 794 })).room s m #[.ref a0, .int x1, .int x2, .int x3] below meth c H locs 0 0 (MQ below (va_Qi (fun r (_ : Unit) => (fun r : Int32 => True) r) (fun _ => sgB (KT P) D vwCl base tys ad ks) (fun q : Nat => base ≤ q)) #[.ref a0, .int x1, .int x2, .int x3] s 0 0 (fun q : Nat => base ≤ q)) (F0 m 6 ls []) := by
    intro N; induction N with
    | zero =>
      intro H locs ls z1_4 z1_5 hG hS hl hz1_4 hz1_5 hN
      exact absurd hN (by have := iv_up hz1_5; omega)
    | succ N ih1 =>
      intro H locs ls z1_4 z1_5 hG hS hl hz1_4 hz1_5 hN1
      refine lv_iload X.1 X.2.1 dX12_freeIn_6 (lv_at hl 5 rfl) ?_
      refine lv_aload_n X.1 X.2.1 dX12_freeIn_8 rfl (lv_at hl 0 rfl) ?_
      refine gf_X12_23s X hK hG h0 hp4 wl_6_201 dX12_freeIn_9 (fun f2 hf2 kf2 => ?_)
      refine lv_icmp_ge (tgt := 46) X.1 X.2.1 dX12_freeIn_12 (by decide) (fun c3 => ?_) (fun c3 => ?_)
      · refine lv_iload X.1 X.2.1 dX12_freeIn_46 (lv_at hl 4 rfl) ?_
        exact sg_iret X hr hlk hb hK hC hG hS trivial dX12_freeIn_48
      · refine lv_iload X.1 X.2.1 dX12_freeIn_15 (lv_at hl 4 rfl) ?_
        refine lv_aload_n X.1 X.2.1 dX12_freeIn_17 rfl (lv_at hl 0 rfl) ?_
        refine lv_iload_n X.1 X.2.1 dX12_freeIn_18 rfl (lv_at hl 1 rfl) ?_
        refine lv_iload_n X.1 X.2.1 dX12_freeIn_19 rfl (lv_at hl 2 rfl) ?_
        refine lv_iload_n X.1 X.2.1 dX12_freeIn_20 rfl (lv_at hl 3 rfl) ?_
        refine lv_iload X.1 X.2.1 dX12_freeIn_21 (lv_at hl 5 rfl) ?_
        refine ca_X12_mayGrow_1 X hK hG hC hS hb hp4 a0 h0 x1 x2 x3 h3 z1_5 (iv_lt (b' := 29) (iv_gt_of c3) hz1_5 hf2 (by decide +kernel)) wl_8_64 hl.1 (rest := [.int z1_4]) rfl (Nat.le_of_ble_eq_true rfl) ⟨Nat.le_of_ble_eq_true rfl, Nat.le_of_ble_eq_true rfl⟩ ⟨Nat.le_of_ble_eq_true rfl, Nat.le_of_ble_eq_true rfl⟩ dX12_freeIn_23 (fun f4 H locs hf4 hG hS => ?_)
        have B6_37 : ∀ (locs : List Loc) (ls : Array Slot) (w6_0 : Int32), va_S (fun q : Nat => base ≤ q) s.heap H locs → lv_has ls 6 [(0, .ref a0), (1, .int x1), (2, .int x2), (3, .int x3), (5, .int z1_5)] → iv 0 536870912 w6_0 → W p l e (headSpec (Cond.code yX12_freeIn cX12_freeIn 6 (some .int) :: sg_tbl) ({ frames := 34, cells := 0, slots := 0, locals := 794 })).room s m #[.ref a0, .int x1, .int x2, .int x3] below meth c H locs 0 0 (MQ below (va_Qi (fun r (_ : Unit) => (fun r : Int32 => True) r) (fun _ => sgB (KT P) D vwCl base tys ad ks) (fun q : Nat => base ≤ q)) #[.ref a0, .int x1, .int x2, .int x3] s 0 0 (fun q : Nat => base ≤ q)) (F0 m 37 ls [.int w6_0, .int z1_4]) := by
          intro locs ls w6_0 hS hl hw6_0
          refine lv_ior X.1 X.2.1 dX12_freeIn_37 ?_
          refine lv_topi (fun f7 ef7 => ?_)
          refine lv_istore (lv' := [(4, .int f7), (0, .ref a0), (1, .int x1), (2, .int x2), (3, .int x3), (5, .int z1_5)]) X.1 X.2.1 dX12_freeIn_38 hl (by decide) rfl (fun ls hl => ?_)
          obtain ⟨y8, ey8⟩ : ∃ y : Int32, y = z1_5 + Int32.ofInt 1 := ⟨_, rfl⟩
          refine lv_iinc (v := y8) (lv' := [(5, .int y8), (4, .int f7), (0, .ref a0), (1, .int x1), (2, .int x2), (3, .int x3)]) X.1 X.2.1 dX12_freeIn_40 hl (k := 5) rfl ey8.symm (by decide) rfl (fun ls hl => ?_)
          refine lv_goto (tgt := 6) X.1 X.2.1 dX12_freeIn_43 (by decide) ?_
          exact ih1 H _ _ f7 y8 hG hS (lv_sub hl [2, 3, 4, 5, 1, 0] rfl) (iv_of (iv_or 30 ef7 hz1_4 hw6_0 (by decide +kernel)) (a' := 0) (b' := 1073741823) (by decide +kernel)) (iv_of (iv_add (a' := 1) (b' := 30) ey8 (iv_lt (b' := 29) (iv_gt_of c3) hz1_5 hf2 (by decide +kernel)) (iv_c _ (a := 1) (b := 1) (by decide +kernel)) (by decide +kernel)) (a' := 0) (b' := 30) (by decide +kernel)) (iv_stepU ey8 (iv_lt (b' := 29) (iv_gt_of c3) hz1_5 hf2 (by decide +kernel)) (by decide +kernel) hN1)
        refine lv_if_eq (tgt := 36) X.1 X.2.1 dX12_freeIn_26 (by decide) (fun c5 => ?_) (fun c5 => ?_)
        · refine lv_iconst (v := 0) X.1 X.2.1 dX12_freeIn_36 (by decide +kernel) ?_
          exact B6_37 _ _ 0 hS (lv_sub hl [0, 1, 2, 3, 5] rfl) (iv_of (iv_c 0 (a := 0) (b := 0) (by decide +kernel)) (a' := 0) (b' := 536870912) (by decide +kernel))
        · refine lv_iconst (v := 1) X.1 X.2.1 dX12_freeIn_29 (by decide +kernel) ?_
          refine lv_iload X.1 X.2.1 dX12_freeIn_30 (lv_at hl 5 rfl) ?_
          refine lv_ishl X.1 X.2.1 dX12_freeIn_32 ?_
          refine lv_topi (fun f9 ef9 => ?_)
          refine lv_goto (tgt := 37) X.1 X.2.1 dX12_freeIn_33 (by decide) ?_
          exact B6_37 _ _ f9 hS (lv_sub hl [0, 1, 2, 3, 5] rfl) (iv_of (sg_shl1 ef9 (iv_lt (b' := 29) (iv_gt_of c3) hz1_5 hf2 (by decide +kernel)) (by decide +kernel)) (a' := 0) (b' := 536870912) (by decide +kernel))
  exact B1_6 _ s.heap _ _ 0 0 hG hS (lv_sub hl [2, 3, 4, 5, 1, 0] rfl) (iv_of (iv_c 0 (a := 0) (b := 0) (by decide +kernel)) (a' := 0) (b' := 1073741823) (by decide +kernel)) (iv_of (iv_c 0 (a := 0) (b := 0) (by decide +kernel)) (a' := 0) (b' := 30) (by decide +kernel)) (Nat.le_refl _)

theorem ca_X12_freeIn_1   (X : CallFix p m c cc nL s args sg_tbl own) (hK : va_K D vwCl tys s) (hG : sgG (KT P) D vwCl (fun q : Nat => base ≤ q) tys ad ks H) (hC : sgC base s) (hS : va_S (fun q : Nat => base ≤ q) s.heap H locs) (hb : base ≤ s.heap.size) (hp4 : P.2.2.2.2.1 = true) (a0 : Nat) (h0 : isK ad ks 12 a0) (x1 : Int32) (x2 : Int32) (x3 : Int32) (h3 : iv 0 2147483647 x3) (hl : Cond.methodLink own index yX12_freeIn ∈ sg_tbl) (hsize : ls.size = nL) (hst : st0 = [.int x1, .int x2, .int x3].reverse ++ .ref a0 :: rest) (hW : (rest.map fun v => v.category).sum ≤ 8) (hR : 35 ≤ R.frames ∧ 819 ≤ R.locals) (hf : cells ≤ R.cells ∧ slots ≤ R.slots) (hdg : decode cc pc = .ok (.invokevirtual index, 3)) (kk : ∀ (r : Int32) (H1 : Heap) (locs1 : List Loc), (fun r : Int32 => True) r → sgG (KT P) D vwCl (fun q : Nat => base ≤ q) tys ad ks H1 → va_S (fun q : Nat => base ≤ q) s.heap H1 locs1 → W p l e R s m args below meth c H1 locs1 cells slots Q (F0 m (pc + 3) ls (.int r :: rest))) : W p l e R s m args below meth c H locs cells slots Q (F0 m pc ls st0) :=
  sg_callVi X hK hG hC hS hb (m_X12_freeIn_1 l hp4 a0 h0 x1 x2 x3 h3) h0 (k := 12) (ci := 12) rfl (C := RX12) (T := TX12) (N := 53) rfl wl_8_165 wl_1_13 wl_8_164 wl_0_87 (n := 3) (by decide +kernel) rfl rfl rfl hl hsize hst hW hR hf hdg kk

set_option maxHeartbeats 8000000 in
set_option maxRecDepth 100000 in
theorem m_X12_threatsIn_1 (l : Launch) {D : va_G} {base : Nat} {tys : List (ClassId × FieldType)} {ad ks : List Nat} {P : sgPm} (hp4 : P.2.2.2.2.1 = true) (a0 : Nat) (h0 : isK ad ks 12 a0) (x1 : Int32) (x2 : Int32) (x3 : Int32) (h3 : iv 0 2147483647 x3) : sgMi l (KT P) D vwCl base tys ad ks yX12_threatsIn cX12_threatsIn 6 (some .int) ({ frames := 34, cells := 0, slots := 0, locals := 794 }) [.ref a0, .int x1, .int x2, .int x3] (fun r : Int32 => True) := by
  refine sg_ofW (by decide +kernel) (Nat.le_of_ble_eq_true rfl) (fun p e s m below meth c X hr hlk hb hK hC hG ls hl => ?_)
  have hS : va_S (fun q : Nat => base ≤ q) s.heap s.heap [] := va_S.rf
  have hl : lv_has ls 6 [(0, .ref a0), (1, .int x1), (2, .int x2), (3, .int x3)] := hl
  refine lv_iconst (v := 0) X.1 X.2.1 dX12_threatsIn_0 (by decide +kernel) ?_
  refine lv_istore (lv' := [(4, .int 0), (0, .ref a0), (1, .int x1), (2, .int x2), (3, .int x3)]) X.1 X.2.1 dX12_threatsIn_1 hl (by decide) rfl (fun ls hl => ?_)
  refine lv_iconst (v := 0) X.1 X.2.1 dX12_threatsIn_3 (by decide +kernel) ?_
  refine lv_istore (lv' := [(5, .int 0), (4, .int 0), (0, .ref a0), (1, .int x1), (2, .int x2), (3, .int x3)]) X.1 X.2.1 dX12_threatsIn_4 hl (by decide) rfl (fun ls hl => ?_)
  have B1_6 : ∀ (N : Nat) (H : Heap) (locs : List Loc) (ls : Array Slot) (z1_4 : Int32) (z1_5 : Int32), sgG (KT P) D vwCl (fun q : Nat => base ≤ q) tys ad ks H → va_S (fun q : Nat => base ≤ q) s.heap H locs → lv_has ls 6 [(0, .ref a0), (1, .int x1), (2, .int x2), (3, .int x3), (4, .int z1_4), (5, .int z1_5)] → iv 0 1073741823 z1_4 → iv 0 30 z1_5 → (31 - z1_5.toInt).toNat ≤ N → W p l e (headSpec (Cond.code yX12_threatsIn cX12_threatsIn 6 (some .int) :: sg_tbl) ({ frames := 34, cells := 0, slots := 0, locals := 794 })).room s m #[.ref a0, .int x1, .int x2, .int x3] below meth c H locs 0 0 (MQ below (va_Qi (fun r (_ : Unit) => (fun r : Int32 => True) r) (fun _ => sgB (KT P) D vwCl base tys ad ks) (fun q : Nat => base ≤ q)) #[.ref a0, .int x1, .int x2, .int x3] s 0 0 (fun q : Nat => base ≤ q)) (F0 m 6 ls []) := by
    intro N; induction N with
    | zero =>
      intro H locs ls z1_4 z1_5 hG hS hl hz1_4 hz1_5 hN
      exact absurd hN (by have := iv_up hz1_5; omega)
    | succ N ih1 =>
      intro H locs ls z1_4 z1_5 hG hS hl hz1_4 hz1_5 hN1
      refine lv_iload X.1 X.2.1 dX12_threatsIn_6 (lv_at hl 5 rfl) ?_
      refine lv_aload_n X.1 X.2.1 dX12_threatsIn_8 rfl (lv_at hl 0 rfl) ?_
      refine gf_X12_23s X hK hG h0 hp4 wl_6_201 dX12_threatsIn_9 (fun f2 hf2 kf2 => ?_)
      refine lv_icmp_ge (tgt := 71) X.1 X.2.1 dX12_threatsIn_12 (by decide) (fun c3 => ?_) (fun c3 => ?_)
      · refine lv_iload X.1 X.2.1 dX12_threatsIn_71 (lv_at hl 4 rfl) ?_
        exact sg_iret X hr hlk hb hK hC hG hS trivial dX12_threatsIn_73
      · refine lv_iload X.1 X.2.1 dX12_threatsIn_15 (lv_at hl 4 rfl) ?_
        refine lv_iload_n X.1 X.2.1 dX12_threatsIn_17 rfl (lv_at hl 1 rfl) ?_
        refine lv_iload X.1 X.2.1 dX12_threatsIn_18 (lv_at hl 5 rfl) ?_
        refine ca_X12_has X hK hG hC (fun _ h => h) hS hb x1 z1_5 wl_7_174 hl.1 (rest := [.int z1_4]) rfl (Nat.le_of_ble_eq_true rfl) ⟨Nat.le_of_ble_eq_true rfl, Nat.le_of_ble_eq_true rfl⟩ ⟨Nat.le_of_ble_eq_true rfl, Nat.le_of_ble_eq_true rfl⟩ dX12_threatsIn_20 (fun f4 locs hf4 hS => ?_)
        have B6_62 : ∀ (H : Heap) (locs : List Loc) (ls : Array Slot) (w6_0 : Int32), sgG (KT P) D vwCl (fun q : Nat => base ≤ q) tys ad ks H → va_S (fun q : Nat => base ≤ q) s.heap H locs → lv_has ls 6 [(0, .ref a0), (1, .int x1), (2, .int x2), (3, .int x3), (5, .int z1_5)] → iv 0 536870912 w6_0 → W p l e (headSpec (Cond.code yX12_threatsIn cX12_threatsIn 6 (some .int) :: sg_tbl) ({ frames := 34, cells := 0, slots := 0, locals := 794 })).room s m #[.ref a0, .int x1, .int x2, .int x3] below meth c H locs 0 0 (MQ below (va_Qi (fun r (_ : Unit) => (fun r : Int32 => True) r) (fun _ => sgB (KT P) D vwCl base tys ad ks) (fun q : Nat => base ≤ q)) #[.ref a0, .int x1, .int x2, .int x3] s 0 0 (fun q : Nat => base ≤ q)) (F0 m 62 ls [.int w6_0, .int z1_4]) := by
          intro H locs ls w6_0 hG hS hl hw6_0
          refine lv_ior X.1 X.2.1 dX12_threatsIn_62 ?_
          refine lv_topi (fun f7 ef7 => ?_)
          refine lv_istore (lv' := [(4, .int f7), (0, .ref a0), (1, .int x1), (2, .int x2), (3, .int x3), (5, .int z1_5)]) X.1 X.2.1 dX12_threatsIn_63 hl (by decide) rfl (fun ls hl => ?_)
          obtain ⟨y8, ey8⟩ : ∃ y : Int32, y = z1_5 + Int32.ofInt 1 := ⟨_, rfl⟩
          refine lv_iinc (v := y8) (lv' := [(5, .int y8), (4, .int f7), (0, .ref a0), (1, .int x1), (2, .int x2), (3, .int x3)]) X.1 X.2.1 dX12_threatsIn_65 hl (k := 5) rfl ey8.symm (by decide) rfl (fun ls hl => ?_)
          refine lv_goto (tgt := 6) X.1 X.2.1 dX12_threatsIn_68 (by decide) ?_
          exact ih1 H _ _ f7 y8 hG hS (lv_sub hl [2, 3, 4, 5, 1, 0] rfl) (iv_of (iv_or 30 ef7 hz1_4 hw6_0 (by decide +kernel)) (a' := 0) (b' := 1073741823) (by decide +kernel)) (iv_of (iv_add (a' := 1) (b' := 30) ey8 (iv_lt (b' := 29) (iv_gt_of c3) hz1_5 hf2 (by decide +kernel)) (iv_c _ (a := 1) (b := 1) (by decide +kernel)) (by decide +kernel)) (a' := 0) (b' := 30) (by decide +kernel)) (iv_stepU ey8 (iv_lt (b' := 29) (iv_gt_of c3) hz1_5 hf2 (by decide +kernel)) (by decide +kernel) hN1)
        have B9_61 : ∀ (H : Heap) (locs : List Loc) (ls : Array Slot), sgG (KT P) D vwCl (fun q : Nat => base ≤ q) tys ad ks H → va_S (fun q : Nat => base ≤ q) s.heap H locs → lv_has ls 6 [(0, .ref a0), (1, .int x1), (2, .int x2), (3, .int x3), (5, .int z1_5)] → W p l e (headSpec (Cond.code yX12_threatsIn cX12_threatsIn 6 (some .int) :: sg_tbl) ({ frames := 34, cells := 0, slots := 0, locals := 794 })).room s m #[.ref a0, .int x1, .int x2, .int x3] below meth c H locs 0 0 (MQ below (va_Qi (fun r (_ : Unit) => (fun r : Int32 => True) r) (fun _ => sgB (KT P) D vwCl base tys ad ks) (fun q : Nat => base ≤ q)) #[.ref a0, .int x1, .int x2, .int x3] s 0 0 (fun q : Nat => base ≤ q)) (F0 m 61 ls [.int z1_4]) := by
          intro H locs ls hG hS hl
          refine lv_iconst (v := 0) X.1 X.2.1 dX12_threatsIn_61 (by decide +kernel) ?_
          exact B6_62 H _ _ 0 hG hS (lv_sub hl [0, 1, 2, 3, 4] rfl) (iv_of (iv_c 0 (a := 0) (b := 0) (by decide +kernel)) (a' := 0) (b' := 536870912) (by decide +kernel))
        refine lv_if_ne (tgt := 61) X.1 X.2.1 dX12_threatsIn_23 (by decide) (fun c5 => ?_) (fun c5 => ?_)
        · exact B9_61 H _ _ hG hS (lv_sub hl [0, 1, 2, 3, 5] rfl)
        · refine lv_iload_n X.1 X.2.1 dX12_threatsIn_26 rfl (lv_at hl 1 rfl) ?_
          refine lv_iconst (v := 1) X.1 X.2.1 dX12_threatsIn_27 (by decide +kernel) ?_
          refine lv_iload X.1 X.2.1 dX12_threatsIn_28 (lv_at hl 5 rfl) ?_
          refine lv_ishl X.1 X.2.1 dX12_threatsIn_30 ?_
          refine lv_topi (fun f10 ef10 => ?_)
          refine lv_ior X.1 X.2.1 dX12_threatsIn_31 ?_
          refine lv_topi (fun f11 ef11 => ?_)
          refine lv_aload_n X.1 X.2.1 dX12_threatsIn_32 rfl (lv_at hl 0 rfl) ?_
          refine gf_X12_18 X hK hG h0 wl_6_196 dX12_threatsIn_33 (fun q12 hq12 kq12 => ?_)
          refine ca_X12_hasLine_1 X hK hG hC (fun _ h => h) hS hb hp4 f11 q12 hq12 wl_7_196 hl.1 (rest := [.int z1_4]) rfl (Nat.le_of_ble_eq_true rfl) ⟨Nat.le_of_ble_eq_true rfl, Nat.le_of_ble_eq_true rfl⟩ ⟨Nat.le_of_ble_eq_true rfl, Nat.le_of_ble_eq_true rfl⟩ dX12_threatsIn_36 (fun f13 locs hf13 hS => ?_)
          refine lv_if_eq (tgt := 61) X.1 X.2.1 dX12_threatsIn_39 (by decide) (fun c14 => ?_) (fun c14 => ?_)
          · exact B9_61 H _ _ hG hS (lv_sub hl [0, 1, 2, 3, 5] rfl)
          · refine lv_aload_n X.1 X.2.1 dX12_threatsIn_42 rfl (lv_at hl 0 rfl) ?_
            refine lv_iload_n X.1 X.2.1 dX12_threatsIn_43 rfl (lv_at hl 1 rfl) ?_
            refine lv_iload_n X.1 X.2.1 dX12_threatsIn_44 rfl (lv_at hl 2 rfl) ?_
            refine lv_iload_n X.1 X.2.1 dX12_threatsIn_45 rfl (lv_at hl 3 rfl) ?_
            refine lv_iload X.1 X.2.1 dX12_threatsIn_46 (lv_at hl 5 rfl) ?_
            refine ca_X12_mayGrow_1 X hK hG hC hS hb hp4 a0 h0 x1 x2 x3 h3 z1_5 (iv_lt (b' := 29) (iv_gt_of c3) hz1_5 hf2 (by decide +kernel)) wl_8_64 hl.1 (rest := [.int z1_4]) rfl (Nat.le_of_ble_eq_true rfl) ⟨Nat.le_of_ble_eq_true rfl, Nat.le_of_ble_eq_true rfl⟩ ⟨Nat.le_of_ble_eq_true rfl, Nat.le_of_ble_eq_true rfl⟩ dX12_threatsIn_48 (fun f15 H locs hf15 hG hS => ?_)
            refine lv_if_eq (tgt := 61) X.1 X.2.1 dX12_threatsIn_51 (by decide) (fun c16 => ?_) (fun c16 => ?_)
            · exact B9_61 H _ _ hG hS (lv_sub hl [0, 1, 2, 3, 5] rfl)
            · refine lv_iconst (v := 1) X.1 X.2.1 dX12_threatsIn_54 (by decide +kernel) ?_
              refine lv_iload X.1 X.2.1 dX12_threatsIn_55 (lv_at hl 5 rfl) ?_
              refine lv_ishl X.1 X.2.1 dX12_threatsIn_57 ?_
              refine lv_topi (fun f17 ef17 => ?_)
              refine lv_goto (tgt := 62) X.1 X.2.1 dX12_threatsIn_58 (by decide) ?_
              exact B6_62 H _ _ f17 hG hS (lv_sub hl [0, 1, 2, 3, 5] rfl) (iv_of (sg_shl1 ef17 (iv_lt (b' := 29) (iv_gt_of c3) hz1_5 hf2 (by decide +kernel)) (by decide +kernel)) (a' := 0) (b' := 536870912) (by decide +kernel))
  exact B1_6 _ s.heap _ _ 0 0 hG hS (lv_sub hl [2, 3, 4, 5, 1, 0] rfl) (iv_of (iv_c 0 (a := 0) (b := 0) (by decide +kernel)) (a' := 0) (b' := 1073741823) (by decide +kernel)) (iv_of (iv_c 0 (a := 0) (b := 0) (by decide +kernel)) (a' := 0) (b' := 30) (by decide +kernel)) (Nat.le_refl _)

theorem ca_X12_threatsIn_1   (X : CallFix p m c cc nL s args sg_tbl own) (hK : va_K D vwCl tys s) (hG : sgG (KT P) D vwCl (fun q : Nat => base ≤ q) tys ad ks H) (hC : sgC base s) (hS : va_S (fun q : Nat => base ≤ q) s.heap H locs) (hb : base ≤ s.heap.size) (hp4 : P.2.2.2.2.1 = true) (a0 : Nat) (h0 : isK ad ks 12 a0) (x1 : Int32) (x2 : Int32) (x3 : Int32) (h3 : iv 0 2147483647 x3) (hl : Cond.methodLink own index yX12_threatsIn ∈ sg_tbl) (hsize : ls.size = nL) (hst : st0 = [.int x1, .int x2, .int x3].reverse ++ .ref a0 :: rest) (hW : (rest.map fun v => v.category).sum ≤ 8) (hR : 35 ≤ R.frames ∧ 819 ≤ R.locals) (hf : cells ≤ R.cells ∧ slots ≤ R.slots) (hdg : decode cc pc = .ok (.invokevirtual index, 3)) (kk : ∀ (r : Int32) (H1 : Heap) (locs1 : List Loc), (fun r : Int32 => True) r → sgG (KT P) D vwCl (fun q : Nat => base ≤ q) tys ad ks H1 → va_S (fun q : Nat => base ≤ q) s.heap H1 locs1 → W p l e R s m args below meth c H1 locs1 cells slots Q (F0 m (pc + 3) ls (.int r :: rest))) : W p l e R s m args below meth c H locs cells slots Q (F0 m pc ls st0) :=
  sg_callVi X hK hG hC hS hb (m_X12_threatsIn_1 l hp4 a0 h0 x1 x2 x3 h3) h0 (k := 12) (ci := 12) rfl (C := RX12) (T := TX12) (N := 53) rfl wl_8_109 wl_1_13 wl_8_108 wl_0_80 (n := 3) (by decide +kernel) rfl rfl rfl hl hsize hst hW hR hf hdg kk
end
