abbrev cX12_cell : ByteArray := prog_14_method_52_code
def yX12_cell : MethodName := ⟨RX12, "cell", "(II)I"⟩
abbrev cX12_digs : ByteArray := prog_14_method_68_code
def yX12_digs : MethodName := ⟨RX12, "digs", "([II)V"⟩
abbrev cX12_grows : ByteArray := prog_14_method_59_code
def yX12_grows : MethodName := ⟨RX12, "grows", "([II)V"⟩
abbrev cX12_mows : ByteArray := prog_14_method_63_code
def yX12_mows : MethodName := ⟨RX12, "mows", "([IIII)V"⟩
abbrev cX12_sits : ByteArray := prog_14_method_65_code
def yX12_sits : MethodName := ⟨RX12, "sits", "([I)I"⟩
theorem dX12_canGrow_8 : decode cX12_canGrow 8 = .ok (.aload_n 1, 1) := by decide +kernel
theorem dX12_canGrow_9 : decode cX12_canGrow 9 = .ok (.iconst 2, 1) := by decide +kernel
theorem dX12_canGrow_10 : decode cX12_canGrow 10 = .ok (.iaload, 1) := by decide +kernel
theorem dX12_canGrow_11 : decode cX12_canGrow 11 = .ok (.ifCond .ne 32, 3) := by decide +kernel
theorem dX12_canGrow_14 : decode cX12_canGrow 14 = .ok (.aload_n 0, 1) := by decide +kernel
theorem dX12_canGrow_15 : decode cX12_canGrow 15 = .ok (.iload_n 2, 1) := by decide +kernel
theorem dX12_canGrow_16 : decode cX12_canGrow 16 = .ok (.invokevirtual 355, 3) := by decide +kernel
theorem dX12_canGrow_19 : decode cX12_canGrow 19 = .ok (.ifCond .eq 24, 3) := by decide +kernel
theorem dX12_canGrow_22 : decode cX12_canGrow 22 = .ok (.aload_n 0, 1) := by decide +kernel
theorem dX12_canGrow_23 : decode cX12_canGrow 23 = .ok (.aload_n 1, 1) := by decide +kernel
theorem dX12_canGrow_24 : decode cX12_canGrow 24 = .ok (.iconst 0, 1) := by decide +kernel
theorem dX12_canGrow_25 : decode cX12_canGrow 25 = .ok (.iaload, 1) := by decide +kernel
theorem dX12_canGrow_26 : decode cX12_canGrow 26 = .ok (.aload_n 1, 1) := by decide +kernel
theorem dX12_canGrow_27 : decode cX12_canGrow 27 = .ok (.iconst 1, 1) := by decide +kernel
theorem dX12_canGrow_28 : decode cX12_canGrow 28 = .ok (.iaload, 1) := by decide +kernel
theorem dX12_canGrow_29 : decode cX12_canGrow 29 = .ok (.aload_n 1, 1) := by decide +kernel
theorem dX12_canGrow_30 : decode cX12_canGrow 30 = .ok (.iconst 4, 1) := by decide +kernel
theorem dX12_canGrow_31 : decode cX12_canGrow 31 = .ok (.iaload, 1) := by decide +kernel
theorem dX12_canGrow_32 : decode cX12_canGrow 32 = .ok (.iload_n 2, 1) := by decide +kernel
theorem dX12_canGrow_33 : decode cX12_canGrow 33 = .ok (.invokevirtual 351, 3) := by decide +kernel
theorem dX12_canGrow_36 : decode cX12_canGrow 36 = .ok (.ifCond .eq 7, 3) := by decide +kernel
theorem dX12_canGrow_39 : decode cX12_canGrow 39 = .ok (.iconst 1, 1) := by decide +kernel
theorem dX12_canGrow_40 : decode cX12_canGrow 40 = .ok (.goto 4, 3) := by decide +kernel
theorem dX12_cell_0 : decode cX12_cell 0 = .ok (.aload_n 0, 1) := by decide +kernel
theorem dX12_cell_1 : decode cX12_cell 1 = .ok (.aload_n 0, 1) := by decide +kernel
theorem dX12_cell_2 : decode cX12_cell 2 = .ok (.iload_n 1, 1) := by decide +kernel
theorem dX12_cell_3 : decode cX12_cell 3 = .ok (.invokevirtual 355, 3) := by decide +kernel
theorem dX12_cell_6 : decode cX12_cell 6 = .ok (.ifCond .eq 19, 3) := by decide +kernel
theorem dX12_cell_9 : decode cX12_cell 9 = .ok (.iload_n 2, 1) := by decide +kernel
theorem dX12_cell_10 : decode cX12_cell 10 = .ok (.i2l, 1) := by decide +kernel
theorem dX12_cell_11 : decode cX12_cell 11 = .ok (.lconst 0, 1) := by decide +kernel
theorem dX12_cell_12 : decode cX12_cell 12 = .ok (.ldc2_w 283, 3) := by decide +kernel
theorem dX12_cell_15 : decode cX12_cell 15 = .ok (.invokestatic 215, 3) := by decide +kernel
theorem dX12_cell_18 : decode cX12_cell 18 = .ok (.ifCond .eq 7, 3) := by decide +kernel
theorem dX12_cell_21 : decode cX12_cell 21 = .ok (.iconst 0, 1) := by decide +kernel
theorem dX12_cell_22 : decode cX12_cell 22 = .ok (.goto 4, 3) := by decide +kernel
theorem dX12_cell_25 : decode cX12_cell 25 = .ok (.iconst 1, 1) := by decide +kernel
theorem dX12_cell_26 : decode cX12_cell 26 = .ok (.putfield 94, 3) := by decide +kernel
theorem dX12_cell_29 : decode cX12_cell 29 = .ok (.aload_n 0, 1) := by decide +kernel
theorem dX12_cell_30 : decode cX12_cell 30 = .ok (.getfield 94, 3) := by decide +kernel
theorem dX12_cell_33 : decode cX12_cell 33 = .ok (.ifCond .le 5, 3) := by decide +kernel
theorem dX12_cell_36 : decode cX12_cell 36 = .ok (.iconst 0, 1) := by decide +kernel
theorem dX12_cell_37 : decode cX12_cell 37 = .ok (.ireturn, 1) := by decide +kernel
theorem dX12_cell_38 : decode cX12_cell 38 = .ok (.iload_n 2, 1) := by decide +kernel
theorem dX12_cell_39 : decode cX12_cell 39 = .ok (.iconst 1, 1) := by decide +kernel
theorem dX12_cell_40 : decode cX12_cell 40 = .ok (.if_icmp .ne 15, 3) := by decide +kernel
theorem dX12_cell_43 : decode cX12_cell 43 = .ok (.aload_n 0, 1) := by decide +kernel
theorem dX12_cell_44 : decode cX12_cell 44 = .ok (.aload_n 0, 1) := by decide +kernel
theorem dX12_cell_45 : decode cX12_cell 45 = .ok (.getfield 52, 3) := by decide +kernel
theorem dX12_cell_48 : decode cX12_cell 48 = .ok (.iconst 0, 1) := by decide +kernel
theorem dX12_cell_49 : decode cX12_cell 49 = .ok (.iaload, 1) := by decide +kernel
theorem dX12_cell_50 : decode cX12_cell 50 = .ok (.iload_n 1, 1) := by decide +kernel
theorem dX12_cell_51 : decode cX12_cell 51 = .ok (.invokevirtual 330, 3) := by decide +kernel
theorem dX12_cell_54 : decode cX12_cell 54 = .ok (.ireturn, 1) := by decide +kernel
theorem dX12_cell_55 : decode cX12_cell 55 = .ok (.iload_n 2, 1) := by decide +kernel
theorem dX12_cell_56 : decode cX12_cell 56 = .ok (.iconst 2, 1) := by decide +kernel
theorem dX12_cell_57 : decode cX12_cell 57 = .ok (.if_icmp .ne 35, 3) := by decide +kernel
theorem dX12_cell_60 : decode cX12_cell 60 = .ok (.aload_n 0, 1) := by decide +kernel
theorem dX12_cell_61 : decode cX12_cell 61 = .ok (.aload_n 0, 1) := by decide +kernel
theorem dX12_cell_62 : decode cX12_cell 62 = .ok (.getfield 52, 3) := by decide +kernel
theorem dX12_cell_65 : decode cX12_cell 65 = .ok (.iconst 0, 1) := by decide +kernel
theorem dX12_cell_66 : decode cX12_cell 66 = .ok (.iaload, 1) := by decide +kernel
theorem dX12_cell_67 : decode cX12_cell 67 = .ok (.aload_n 0, 1) := by decide +kernel
theorem dX12_cell_68 : decode cX12_cell 68 = .ok (.getfield 52, 3) := by decide +kernel
theorem dX12_cell_71 : decode cX12_cell 71 = .ok (.iconst 1, 1) := by decide +kernel
theorem dX12_cell_72 : decode cX12_cell 72 = .ok (.iaload, 1) := by decide +kernel
theorem dX12_cell_73 : decode cX12_cell 73 = .ok (.aload_n 0, 1) := by decide +kernel
theorem dX12_cell_74 : decode cX12_cell 74 = .ok (.getfield 52, 3) := by decide +kernel
theorem dX12_cell_77 : decode cX12_cell 77 = .ok (.iconst 4, 1) := by decide +kernel
theorem dX12_cell_78 : decode cX12_cell 78 = .ok (.iaload, 1) := by decide +kernel
theorem dX12_cell_79 : decode cX12_cell 79 = .ok (.iload_n 1, 1) := by decide +kernel
theorem dX12_cell_80 : decode cX12_cell 80 = .ok (.invokevirtual 351, 3) := by decide +kernel
theorem dX12_cell_83 : decode cX12_cell 83 = .ok (.ifCond .eq 7, 3) := by decide +kernel
theorem dX12_cell_86 : decode cX12_cell 86 = .ok (.iconst 1, 1) := by decide +kernel
theorem dX12_cell_87 : decode cX12_cell 87 = .ok (.goto 4, 3) := by decide +kernel
theorem dX12_cell_90 : decode cX12_cell 90 = .ok (.iconst 0, 1) := by decide +kernel
theorem dX12_cell_91 : decode cX12_cell 91 = .ok (.ireturn, 1) := by decide +kernel
theorem dX12_cell_92 : decode cX12_cell 92 = .ok (.aload_n 0, 1) := by decide +kernel
theorem dX12_cell_93 : decode cX12_cell 93 = .ok (.getfield 52, 3) := by decide +kernel
theorem dX12_cell_96 : decode cX12_cell 96 = .ok (.iconst 0, 1) := by decide +kernel
theorem dX12_cell_97 : decode cX12_cell 97 = .ok (.iaload, 1) := by decide +kernel
theorem dX12_cell_98 : decode cX12_cell 98 = .ok (.iload_n 1, 1) := by decide +kernel
theorem dX12_cell_99 : decode cX12_cell 99 = .ok (.invokestatic 227, 3) := by decide +kernel
theorem dX12_cell_102 : decode cX12_cell 102 = .ok (.ifCond .eq 7, 3) := by decide +kernel
theorem dX12_cell_105 : decode cX12_cell 105 = .ok (.iconst 1, 1) := by decide +kernel
theorem dX12_cell_106 : decode cX12_cell 106 = .ok (.goto 36, 3) := by decide +kernel
theorem dX12_cell_109 : decode cX12_cell 109 = .ok (.aload_n 0, 1) := by decide +kernel
theorem dX12_cell_110 : decode cX12_cell 110 = .ok (.getfield 305, 3) := by decide +kernel
theorem dX12_cell_113 : decode cX12_cell 113 = .ok (.iload_n 1, 1) := by decide +kernel
theorem dX12_cell_114 : decode cX12_cell 114 = .ok (.invokestatic 227, 3) := by decide +kernel
theorem dX12_cell_117 : decode cX12_cell 117 = .ok (.ifCond .eq 7, 3) := by decide +kernel
theorem dX12_cell_120 : decode cX12_cell 120 = .ok (.iconst 2, 1) := by decide +kernel
theorem dX12_cell_121 : decode cX12_cell 121 = .ok (.goto 21, 3) := by decide +kernel
theorem dX12_cell_124 : decode cX12_cell 124 = .ok (.aload_n 0, 1) := by decide +kernel
theorem dX12_cell_125 : decode cX12_cell 125 = .ok (.getfield 52, 3) := by decide +kernel
theorem dX12_cell_128 : decode cX12_cell 128 = .ok (.iconst 1, 1) := by decide +kernel
theorem dX12_cell_129 : decode cX12_cell 129 = .ok (.iaload, 1) := by decide +kernel
theorem dX12_cell_130 : decode cX12_cell 130 = .ok (.iload_n 1, 1) := by decide +kernel
theorem dX12_cell_131 : decode cX12_cell 131 = .ok (.invokestatic 227, 3) := by decide +kernel
theorem dX12_cell_134 : decode cX12_cell 134 = .ok (.ifCond .eq 7, 3) := by decide +kernel
theorem dX12_cell_137 : decode cX12_cell 137 = .ok (.iconst 3, 1) := by decide +kernel
theorem dX12_cell_138 : decode cX12_cell 138 = .ok (.goto 4, 3) := by decide +kernel
theorem dX12_cell_141 : decode cX12_cell 141 = .ok (.iconst 0, 1) := by decide +kernel
theorem dX12_cell_142 : decode cX12_cell 142 = .ok (.ireturn, 1) := by decide +kernel
theorem dX12_digs_0 : decode cX12_digs 0 = .ok (.aload_n 0, 1) := by decide +kernel
theorem dX12_digs_1 : decode cX12_digs 1 = .ok (.iconst 1, 1) := by decide +kernel
theorem dX12_digs_2 : decode cX12_digs 2 = .ok (.dup2, 1) := by decide +kernel
theorem dX12_digs_3 : decode cX12_digs 3 = .ok (.iaload, 1) := by decide +kernel
theorem dX12_digs_4 : decode cX12_digs 4 = .ok (.iconst 1, 1) := by decide +kernel
theorem dX12_digs_5 : decode cX12_digs 5 = .ok (.iload_n 1, 1) := by decide +kernel
theorem dX12_digs_6 : decode cX12_digs 6 = .ok (.ishl, 1) := by decide +kernel
theorem dX12_digs_7 : decode cX12_digs 7 = .ok (.ior, 1) := by decide +kernel
theorem dX12_digs_8 : decode cX12_digs 8 = .ok (.iastore, 1) := by decide +kernel
theorem dX12_digs_9 : decode cX12_digs 9 = .ok (.aload_n 0, 1) := by decide +kernel
theorem dX12_digs_10 : decode cX12_digs 10 = .ok (.iconst 0, 1) := by decide +kernel
theorem dX12_digs_11 : decode cX12_digs 11 = .ok (.dup2, 1) := by decide +kernel
theorem dX12_digs_12 : decode cX12_digs 12 = .ok (.iaload, 1) := by decide +kernel
theorem dX12_digs_13 : decode cX12_digs 13 = .ok (.iconst 1, 1) := by decide +kernel
theorem dX12_digs_14 : decode cX12_digs 14 = .ok (.iload_n 1, 1) := by decide +kernel
theorem dX12_digs_15 : decode cX12_digs 15 = .ok (.ishl, 1) := by decide +kernel
theorem dX12_digs_16 : decode cX12_digs 16 = .ok (.iconst (-1), 1) := by decide +kernel
theorem dX12_digs_17 : decode cX12_digs 17 = .ok (.ixor, 1) := by decide +kernel
theorem dX12_digs_18 : decode cX12_digs 18 = .ok (.iand, 1) := by decide +kernel
theorem dX12_digs_19 : decode cX12_digs 19 = .ok (.iastore, 1) := by decide +kernel
theorem dX12_digs_20 : decode cX12_digs 20 = .ok (.aload_n 0, 1) := by decide +kernel
theorem dX12_digs_21 : decode cX12_digs 21 = .ok (.iconst 2, 1) := by decide +kernel
theorem dX12_digs_22 : decode cX12_digs 22 = .ok (.iload_n 1, 1) := by decide +kernel
theorem dX12_digs_23 : decode cX12_digs 23 = .ok (.iconst 0, 1) := by decide +kernel
theorem dX12_digs_24 : decode cX12_digs 24 = .ok (.iconst 0, 1) := by decide +kernel
theorem dX12_digs_25 : decode cX12_digs 25 = .ok (.invokestatic 371, 3) := by decide +kernel
theorem dX12_digs_28 : decode cX12_digs 28 = .ok (.return_, 1) := by decide +kernel
theorem dX12_grows_0 : decode cX12_grows 0 = .ok (.aload_n 0, 1) := by decide +kernel
theorem dX12_grows_1 : decode cX12_grows 1 = .ok (.aload_n 1, 1) := by decide +kernel
theorem dX12_grows_2 : decode cX12_grows 2 = .ok (.iconst 0, 1) := by decide +kernel
theorem dX12_grows_3 : decode cX12_grows 3 = .ok (.iaload, 1) := by decide +kernel
theorem dX12_grows_4 : decode cX12_grows 4 = .ok (.aload_n 1, 1) := by decide +kernel
theorem dX12_grows_5 : decode cX12_grows 5 = .ok (.iconst 1, 1) := by decide +kernel
theorem dX12_grows_6 : decode cX12_grows 6 = .ok (.iaload, 1) := by decide +kernel
theorem dX12_grows_7 : decode cX12_grows 7 = .ok (.aload_n 1, 1) := by decide +kernel
theorem dX12_grows_8 : decode cX12_grows 8 = .ok (.iconst 4, 1) := by decide +kernel
theorem dX12_grows_9 : decode cX12_grows 9 = .ok (.iaload, 1) := by decide +kernel
theorem dX12_grows_10 : decode cX12_grows 10 = .ok (.invokevirtual 367, 3) := by decide +kernel
theorem dX12_grows_13 : decode cX12_grows 13 = .ok (.ifCond .eq 7, 3) := by decide +kernel
theorem dX12_grows_16 : decode cX12_grows 16 = .ok (.iconst 1, 1) := by decide +kernel
theorem dX12_grows_17 : decode cX12_grows 17 = .ok (.goto 4, 3) := by decide +kernel
theorem dX12_grows_20 : decode cX12_grows 20 = .ok (.iconst 0, 1) := by decide +kernel
theorem dX12_grows_21 : decode cX12_grows 21 = .ok (.istore_n 3, 1) := by decide +kernel
theorem dX12_grows_22 : decode cX12_grows 22 = .ok (.aload_n 1, 1) := by decide +kernel
theorem dX12_grows_23 : decode cX12_grows 23 = .ok (.iconst 0, 1) := by decide +kernel
theorem dX12_grows_24 : decode cX12_grows 24 = .ok (.dup2, 1) := by decide +kernel
theorem dX12_grows_25 : decode cX12_grows 25 = .ok (.iaload, 1) := by decide +kernel
theorem dX12_grows_26 : decode cX12_grows 26 = .ok (.iconst 1, 1) := by decide +kernel
theorem dX12_grows_27 : decode cX12_grows 27 = .ok (.iload_n 2, 1) := by decide +kernel
theorem dX12_grows_28 : decode cX12_grows 28 = .ok (.ishl, 1) := by decide +kernel
theorem dX12_grows_29 : decode cX12_grows 29 = .ok (.ior, 1) := by decide +kernel
theorem dX12_grows_30 : decode cX12_grows 30 = .ok (.iastore, 1) := by decide +kernel
theorem dX12_grows_31 : decode cX12_grows 31 = .ok (.aload_n 1, 1) := by decide +kernel
theorem dX12_grows_32 : decode cX12_grows 32 = .ok (.iconst 2, 1) := by decide +kernel
theorem dX12_grows_33 : decode cX12_grows 33 = .ok (.iconst 1, 1) := by decide +kernel
theorem dX12_grows_34 : decode cX12_grows 34 = .ok (.iastore, 1) := by decide +kernel
theorem dX12_grows_35 : decode cX12_grows 35 = .ok (.aload_n 1, 1) := by decide +kernel
theorem dX12_grows_36 : decode cX12_grows 36 = .ok (.iconst 3, 1) := by decide +kernel
theorem dX12_grows_37 : decode cX12_grows 37 = .ok (.aload_n 1, 1) := by decide +kernel
theorem dX12_grows_38 : decode cX12_grows 38 = .ok (.iconst 0, 1) := by decide +kernel
theorem dX12_grows_39 : decode cX12_grows 39 = .ok (.iaload, 1) := by decide +kernel
theorem dX12_grows_40 : decode cX12_grows 40 = .ok (.aload_n 0, 1) := by decide +kernel
theorem dX12_grows_41 : decode cX12_grows 41 = .ok (.getfield 37, 3) := by decide +kernel
theorem dX12_grows_44 : decode cX12_grows 44 = .ok (.invokestatic 269, 3) := by decide +kernel
theorem dX12_grows_47 : decode cX12_grows 47 = .ok (.ifCond .eq 7, 3) := by decide +kernel
theorem dX12_grows_50 : decode cX12_grows 50 = .ok (.iconst 1, 1) := by decide +kernel
theorem dX12_grows_51 : decode cX12_grows 51 = .ok (.goto 4, 3) := by decide +kernel
theorem dX12_grows_54 : decode cX12_grows 54 = .ok (.iconst 0, 1) := by decide +kernel
theorem dX12_grows_55 : decode cX12_grows 55 = .ok (.iastore, 1) := by decide +kernel
theorem dX12_grows_56 : decode cX12_grows 56 = .ok (.aload_n 1, 1) := by decide +kernel
theorem dX12_grows_57 : decode cX12_grows 57 = .ok (.bipush 7, 2) := by decide +kernel
theorem dX12_grows_59 : decode cX12_grows 59 = .ok (.dup2, 1) := by decide +kernel
theorem dX12_grows_60 : decode cX12_grows 60 = .ok (.iaload, 1) := by decide +kernel
theorem dX12_grows_61 : decode cX12_grows 61 = .ok (.iload_n 3, 1) := by decide +kernel
theorem dX12_grows_62 : decode cX12_grows 62 = .ok (.ifCond .eq 13, 3) := by decide +kernel
theorem dX12_grows_65 : decode cX12_grows 65 = .ok (.aload_n 1, 1) := by decide +kernel
theorem dX12_grows_66 : decode cX12_grows 66 = .ok (.iconst 3, 1) := by decide +kernel
theorem dX12_grows_67 : decode cX12_grows 67 = .ok (.iaload, 1) := by decide +kernel
theorem dX12_grows_68 : decode cX12_grows 68 = .ok (.ifCond .ne 7, 3) := by decide +kernel
theorem dX12_grows_71 : decode cX12_grows 71 = .ok (.iconst 1, 1) := by decide +kernel
theorem dX12_grows_72 : decode cX12_grows 72 = .ok (.goto 4, 3) := by decide +kernel
theorem dX12_grows_75 : decode cX12_grows 75 = .ok (.iconst 0, 1) := by decide +kernel
theorem dX12_grows_76 : decode cX12_grows 76 = .ok (.iadd, 1) := by decide +kernel
theorem dX12_grows_77 : decode cX12_grows 77 = .ok (.iastore, 1) := by decide +kernel
theorem dX12_grows_78 : decode cX12_grows 78 = .ok (.aload_n 1, 1) := by decide +kernel
theorem dX12_grows_79 : decode cX12_grows 79 = .ok (.iconst 0, 1) := by decide +kernel
theorem dX12_grows_80 : decode cX12_grows 80 = .ok (.iload_n 2, 1) := by decide +kernel
theorem dX12_grows_81 : decode cX12_grows 81 = .ok (.iconst 0, 1) := by decide +kernel
theorem dX12_grows_82 : decode cX12_grows 82 = .ok (.iconst 0, 1) := by decide +kernel
theorem dX12_grows_83 : decode cX12_grows 83 = .ok (.invokestatic 371, 3) := by decide +kernel
theorem dX12_grows_86 : decode cX12_grows 86 = .ok (.return_, 1) := by decide +kernel
theorem dX12_mows_0 : decode cX12_mows 0 = .ok (.aload_n 1, 1) := by decide +kernel
theorem dX12_mows_1 : decode cX12_mows 1 = .ok (.iconst 0, 1) := by decide +kernel
theorem dX12_mows_2 : decode cX12_mows 2 = .ok (.dup2, 1) := by decide +kernel
theorem dX12_mows_3 : decode cX12_mows 3 = .ok (.iaload, 1) := by decide +kernel
theorem dX12_mows_4 : decode cX12_mows 4 = .ok (.aload_n 0, 1) := by decide +kernel
theorem dX12_mows_5 : decode cX12_mows 5 = .ok (.aload_n 1, 1) := by decide +kernel
theorem dX12_mows_6 : decode cX12_mows 6 = .ok (.iconst 0, 1) := by decide +kernel
theorem dX12_mows_7 : decode cX12_mows 7 = .ok (.iaload, 1) := by decide +kernel
theorem dX12_mows_8 : decode cX12_mows 8 = .ok (.iload_n 2, 1) := by decide +kernel
theorem dX12_mows_9 : decode cX12_mows 9 = .ok (.iload_n 3, 1) := by decide +kernel
theorem dX12_mows_10 : decode cX12_mows 10 = .ok (.iload 4, 2) := by decide +kernel
theorem dX12_mows_12 : decode cX12_mows 12 = .ok (.invokevirtual 386, 3) := by decide +kernel
theorem dX12_mows_15 : decode cX12_mows 15 = .ok (.iconst (-1), 1) := by decide +kernel
theorem dX12_mows_16 : decode cX12_mows 16 = .ok (.ixor, 1) := by decide +kernel
theorem dX12_mows_17 : decode cX12_mows 17 = .ok (.iand, 1) := by decide +kernel
theorem dX12_mows_18 : decode cX12_mows 18 = .ok (.iastore, 1) := by decide +kernel
theorem dX12_mows_19 : decode cX12_mows 19 = .ok (.aload_n 1, 1) := by decide +kernel
theorem dX12_mows_20 : decode cX12_mows 20 = .ok (.iconst 2, 1) := by decide +kernel
theorem dX12_mows_21 : decode cX12_mows 21 = .ok (.iconst 0, 1) := by decide +kernel
theorem dX12_mows_22 : decode cX12_mows 22 = .ok (.iastore, 1) := by decide +kernel
theorem dX12_mows_23 : decode cX12_mows 23 = .ok (.aload_n 1, 1) := by decide +kernel
theorem dX12_mows_24 : decode cX12_mows 24 = .ok (.iconst 4, 1) := by decide +kernel
theorem dX12_mows_25 : decode cX12_mows 25 = .ok (.dup2, 1) := by decide +kernel
theorem dX12_mows_26 : decode cX12_mows 26 = .ok (.iaload, 1) := by decide +kernel
theorem dX12_mows_27 : decode cX12_mows 27 = .ok (.iconst 1, 1) := by decide +kernel
theorem dX12_mows_28 : decode cX12_mows 28 = .ok (.iadd, 1) := by decide +kernel
theorem dX12_mows_29 : decode cX12_mows 29 = .ok (.iastore, 1) := by decide +kernel
theorem dX12_mows_30 : decode cX12_mows 30 = .ok (.aload_n 1, 1) := by decide +kernel
theorem dX12_mows_31 : decode cX12_mows 31 = .ok (.iconst 1, 1) := by decide +kernel
theorem dX12_mows_32 : decode cX12_mows 32 = .ok (.iload_n 2, 1) := by decide +kernel
theorem dX12_mows_33 : decode cX12_mows 33 = .ok (.iload 4, 2) := by decide +kernel
theorem dX12_mows_35 : decode cX12_mows 35 = .ok (.iconst 1, 1) := by decide +kernel
theorem dX12_mows_36 : decode cX12_mows 36 = .ok (.if_icmp .ne 7, 3) := by decide +kernel
theorem dX12_mows_39 : decode cX12_mows 39 = .ok (.iconst 0, 1) := by decide +kernel
theorem dX12_mows_40 : decode cX12_mows 40 = .ok (.goto 4, 3) := by decide +kernel
theorem dX12_mows_43 : decode cX12_mows 43 = .ok (.iload_n 3, 1) := by decide +kernel
theorem dX12_mows_44 : decode cX12_mows 44 = .ok (.iload 4, 2) := by decide +kernel
theorem dX12_mows_46 : decode cX12_mows 46 = .ok (.invokestatic 371, 3) := by decide +kernel
theorem dX12_mows_49 : decode cX12_mows 49 = .ok (.return_, 1) := by decide +kernel
theorem dX12_room_16 : decode cX12_room 16 = .ok (.aload_n 0, 1) := by decide +kernel
theorem dX12_room_17 : decode cX12_room 17 = .ok (.aload_n 0, 1) := by decide +kernel
theorem dX12_room_18 : decode cX12_room 18 = .ok (.getfield 52, 3) := by decide +kernel
theorem dX12_room_21 : decode cX12_room 21 = .ok (.iconst 0, 1) := by decide +kernel
theorem dX12_room_22 : decode cX12_room 22 = .ok (.iaload, 1) := by decide +kernel
theorem dX12_room_23 : decode cX12_room 23 = .ok (.aload_n 0, 1) := by decide +kernel
theorem dX12_room_24 : decode cX12_room 24 = .ok (.getfield 52, 3) := by decide +kernel
theorem dX12_room_27 : decode cX12_room 27 = .ok (.iconst 1, 1) := by decide +kernel
theorem dX12_room_28 : decode cX12_room 28 = .ok (.iaload, 1) := by decide +kernel
theorem dX12_room_29 : decode cX12_room 29 = .ok (.aload_n 0, 1) := by decide +kernel
theorem dX12_room_30 : decode cX12_room 30 = .ok (.getfield 52, 3) := by decide +kernel
theorem dX12_room_33 : decode cX12_room 33 = .ok (.iconst 4, 1) := by decide +kernel
theorem dX12_room_34 : decode cX12_room 34 = .ok (.iaload, 1) := by decide +kernel
theorem dX12_room_35 : decode cX12_room 35 = .ok (.invokevirtual 419, 3) := by decide +kernel
theorem dX12_room_38 : decode cX12_room 38 = .ok (.invokestatic 333, 3) := by decide +kernel
theorem dX12_sits_0 : decode cX12_sits 0 = .ok (.aload_n 0, 1) := by decide +kernel
theorem dX12_sits_1 : decode cX12_sits 1 = .ok (.iconst 2, 1) := by decide +kernel
theorem dX12_sits_2 : decode cX12_sits 2 = .ok (.iaload, 1) := by decide +kernel
theorem dX12_sits_3 : decode cX12_sits 3 = .ok (.istore_n 1, 1) := by decide +kernel
theorem dX12_sits_4 : decode cX12_sits 4 = .ok (.aload_n 0, 1) := by decide +kernel
theorem dX12_sits_5 : decode cX12_sits 5 = .ok (.iconst 5, 1) := by decide +kernel
theorem dX12_sits_6 : decode cX12_sits 6 = .ok (.iload_n 1, 1) := by decide +kernel
theorem dX12_sits_7 : decode cX12_sits 7 = .ok (.iadd, 1) := by decide +kernel
theorem dX12_sits_8 : decode cX12_sits 8 = .ok (.dup2, 1) := by decide +kernel
theorem dX12_sits_9 : decode cX12_sits 9 = .ok (.iaload, 1) := by decide +kernel
theorem dX12_sits_10 : decode cX12_sits 10 = .ok (.iconst 1, 1) := by decide +kernel
theorem dX12_sits_11 : decode cX12_sits 11 = .ok (.iadd, 1) := by decide +kernel
theorem dX12_sits_12 : decode cX12_sits 12 = .ok (.iastore, 1) := by decide +kernel
theorem dX12_sits_13 : decode cX12_sits 13 = .ok (.aload_n 0, 1) := by decide +kernel
theorem dX12_sits_14 : decode cX12_sits 14 = .ok (.iconst 4, 1) := by decide +kernel
theorem dX12_sits_15 : decode cX12_sits 15 = .ok (.dup2, 1) := by decide +kernel
theorem dX12_sits_16 : decode cX12_sits 16 = .ok (.iaload, 1) := by decide +kernel
theorem dX12_sits_17 : decode cX12_sits 17 = .ok (.iload_n 1, 1) := by decide +kernel
theorem dX12_sits_18 : decode cX12_sits 18 = .ok (.iadd, 1) := by decide +kernel
theorem dX12_sits_19 : decode cX12_sits 19 = .ok (.iastore, 1) := by decide +kernel
theorem dX12_sits_20 : decode cX12_sits 20 = .ok (.aload_n 0, 1) := by decide +kernel
theorem dX12_sits_21 : decode cX12_sits 21 = .ok (.iconst 2, 1) := by decide +kernel
theorem dX12_sits_22 : decode cX12_sits 22 = .ok (.iconst 1, 1) := by decide +kernel
theorem dX12_sits_23 : decode cX12_sits 23 = .ok (.iload_n 1, 1) := by decide +kernel
theorem dX12_sits_24 : decode cX12_sits 24 = .ok (.isub, 1) := by decide +kernel
theorem dX12_sits_25 : decode cX12_sits 25 = .ok (.iastore, 1) := by decide +kernel
theorem dX12_sits_26 : decode cX12_sits 26 = .ok (.aload_n 0, 1) := by decide +kernel
theorem dX12_sits_27 : decode cX12_sits 27 = .ok (.iconst 3, 1) := by decide +kernel
theorem dX12_sits_28 : decode cX12_sits 28 = .ok (.iconst (-1), 1) := by decide +kernel
theorem dX12_sits_29 : decode cX12_sits 29 = .ok (.iconst 0, 1) := by decide +kernel
theorem dX12_sits_30 : decode cX12_sits 30 = .ok (.iconst 0, 1) := by decide +kernel
theorem dX12_sits_31 : decode cX12_sits 31 = .ok (.invokestatic 371, 3) := by decide +kernel
theorem dX12_sits_34 : decode cX12_sits 34 = .ok (.aload_n 0, 1) := by decide +kernel
theorem dX12_sits_35 : decode cX12_sits 35 = .ok (.iconst 5, 1) := by decide +kernel
theorem dX12_sits_36 : decode cX12_sits 36 = .ok (.iload_n 1, 1) := by decide +kernel
theorem dX12_sits_37 : decode cX12_sits 37 = .ok (.iadd, 1) := by decide +kernel
theorem dX12_sits_38 : decode cX12_sits 38 = .ok (.iaload, 1) := by decide +kernel
theorem dX12_sits_39 : decode cX12_sits 39 = .ok (.ireturn, 1) := by decide +kernel
theorem dX12_threats_16 : decode cX12_threats 16 = .ok (.aload_n 0, 1) := by decide +kernel
theorem dX12_threats_17 : decode cX12_threats 17 = .ok (.aload_n 0, 1) := by decide +kernel
theorem dX12_threats_18 : decode cX12_threats 18 = .ok (.getfield 52, 3) := by decide +kernel
theorem dX12_threats_21 : decode cX12_threats 21 = .ok (.iconst 0, 1) := by decide +kernel
theorem dX12_threats_22 : decode cX12_threats 22 = .ok (.iaload, 1) := by decide +kernel
theorem dX12_threats_23 : decode cX12_threats 23 = .ok (.aload_n 0, 1) := by decide +kernel
theorem dX12_threats_24 : decode cX12_threats 24 = .ok (.getfield 52, 3) := by decide +kernel
theorem dX12_threats_27 : decode cX12_threats 27 = .ok (.iconst 1, 1) := by decide +kernel
theorem dX12_threats_28 : decode cX12_threats 28 = .ok (.iaload, 1) := by decide +kernel
theorem dX12_threats_29 : decode cX12_threats 29 = .ok (.aload_n 0, 1) := by decide +kernel
theorem dX12_threats_30 : decode cX12_threats 30 = .ok (.getfield 52, 3) := by decide +kernel
theorem dX12_threats_33 : decode cX12_threats 33 = .ok (.iconst 4, 1) := by decide +kernel
theorem dX12_threats_34 : decode cX12_threats 34 = .ok (.iaload, 1) := by decide +kernel
theorem dX12_threats_35 : decode cX12_threats 35 = .ok (.invokevirtual 367, 3) := by decide +kernel
theorem wl_7_118 : (.constantLong RX12 283 (2) : Cond) ∈ sg_tbl := tb_7 _ (List.mem_of_getElem? (i := 118) (by decide +kernel)) (by decide +kernel)
theorem wl_8_106 : (.methodLink RX12 367 yX12_threatsIn : Cond) ∈ sg_tbl := tb_8 _ (List.mem_of_getElem? (i := 106) (by decide +kernel)) (by decide +kernel)
theorem wl_8_162 : (.methodLink RX12 419 yX12_freeIn : Cond) ∈ sg_tbl := tb_8 _ (List.mem_of_getElem? (i := 162) (by decide +kernel)) (by decide +kernel)
theorem wl_8_110 : (.methodLink RX12 371 yX12_writes : Cond) ∈ sg_tbl := tb_8 _ (List.mem_of_getElem? (i := 110) (by decide +kernel)) (by decide +kernel)
theorem wl_8_54 : (.code yX12_cell cX12_cell 3 (some .int) : Cond) ∈ sg_tbl := tb_8 _ (List.mem_of_getElem? (i := 54) (by decide +kernel)) (by decide +kernel)
theorem wl_8_52 : (.instanceMethod yX12_cell : Cond) ∈ sg_tbl := tb_8 _ (List.mem_of_getElem? (i := 52) (by decide +kernel)) (by decide +kernel)
theorem wl_8_53 : (.selects RX12 yX12_cell yX12_cell : Cond) ∈ sg_tbl := tb_8 _ (List.mem_of_getElem? (i := 53) (by decide +kernel)) (by decide +kernel)
theorem wl_8_105 : (.code yX12_grows cX12_grows 4 none : Cond) ∈ sg_tbl := tb_8 _ (List.mem_of_getElem? (i := 105) (by decide +kernel)) (by decide +kernel)
theorem wl_8_104 : (.instanceMethod yX12_grows : Cond) ∈ sg_tbl := tb_8 _ (List.mem_of_getElem? (i := 104) (by decide +kernel)) (by decide +kernel)
theorem wl_0_79 : (.selects RX12 yX12_grows yX12_grows : Cond) ∈ sg_tbl := tb_0 _ (List.mem_of_getElem? (i := 79) (by decide +kernel)) (by decide +kernel)
theorem wl_8_128 : (.code yX12_mows cX12_mows 5 none : Cond) ∈ sg_tbl := tb_8 _ (List.mem_of_getElem? (i := 128) (by decide +kernel)) (by decide +kernel)
theorem wl_8_127 : (.instanceMethod yX12_mows : Cond) ∈ sg_tbl := tb_8 _ (List.mem_of_getElem? (i := 127) (by decide +kernel)) (by decide +kernel)
theorem wl_0_83 : (.selects RX12 yX12_mows yX12_mows : Cond) ∈ sg_tbl := tb_0 _ (List.mem_of_getElem? (i := 83) (by decide +kernel)) (by decide +kernel)
theorem wl_8_135 : (.code yX12_sits cX12_sits 2 (some .int) : Cond) ∈ sg_tbl := tb_8 _ (List.mem_of_getElem? (i := 135) (by decide +kernel)) (by decide +kernel)
theorem wl_8_134 : (.static yX12_sits : Cond) ∈ sg_tbl := tb_8 _ (List.mem_of_getElem? (i := 134) (by decide +kernel)) (by decide +kernel)
theorem wl_8_146 : (.code yX12_digs cX12_digs 2 none : Cond) ∈ sg_tbl := tb_8 _ (List.mem_of_getElem? (i := 146) (by decide +kernel)) (by decide +kernel)
theorem wl_8_145 : (.static yX12_digs : Cond) ∈ sg_tbl := tb_8 _ (List.mem_of_getElem? (i := 145) (by decide +kernel)) (by decide +kernel)
section
variable {p : Program} {l : Launch} {e : Env} {R : Room} {s : State} {m : MethodId} {args : Array Value} {below : List Frame} {meth : Method} {c : Code} {H : Heap} {locs : List Loc} {cells slots : Nat} {Q : State → Prop} {cc : ByteArray} {nL pc : Nat} {ls : Array Slot} {rest : List Value} {own : String} {D : va_G} {A : Nat → Prop} {tys : List (ClassId × FieldType)} {ad ks : List Nat} {P : sgPm} {H0 : Heap} {index : Nat} {base : Nat} {st0 : List Value} {a : Nat}
theorem gg_X12_0   (X : CallFix p m c cc nL s args sg_tbl own) (hK : va_K D vwCl tys s) (hG : sgG (KT P) D vwCl A tys ad ks H) (ha : isK ad ks 12 a) (hl : Cond.fieldLink own index "LawnAheadModel" "thrown" "I" ∈ sg_tbl) {v : Value} (hf : fld D H 12 a 0 v) (hdg : decode cc pc = .ok (.getfield index, 3)) (kk : W p l e R s m args below meth c H locs cells slots Q (F0 m (pc + 3) ls (v :: rest))) : W p l e R s m args below meth c H locs cells slots Q (F0 m pc ls (.ref a :: rest)) :=
  sg_getf X hK hG ha (k := 12) (ci := 12) rfl (C := RX12) (T := TX12) (N := 53) rfl inL_X12 0 (by decide) (show 0 < 53 by decide) hl (fun _ h => h) hf hdg kk
set_option maxHeartbeats 8000000 in
set_option maxRecDepth 100000 in
theorem m_X12_cell_1 (l : Launch) {D : va_G} {base : Nat} {tys : List (ClassId × FieldType)} {ad ks : List Nat} {P : sgPm} (hp4 : P.2.2.2.2.1 = true) (a0 : Nat) (h0 : isK ad ks 12 a0) (x1 : Int32) (x2 : Int32) : sgMi l (KT P) D vwCl base tys ad ks yX12_cell cX12_cell 3 (some .int) ({ frames := 34, cells := 0, slots := 0, locals := 794 }) [.ref a0, .int x1, .int x2] (fun r : Int32 => True) := by
  refine sg_ofW (by decide +kernel) (Nat.le_of_ble_eq_true rfl) (fun p e s m below meth c X hr hlk hb hK hC hG ls hl => ?_)
  have hS : va_S (fun q : Nat => base ≤ q) s.heap s.heap [] := va_S.rf
  have hl : lv_has ls 3 [(0, .ref a0), (1, .int x1), (2, .int x2)] := hl
  refine lv_aload_n X.1 X.2.1 dX12_cell_0 rfl (lv_at hl 0 rfl) ?_
  refine lv_aload_n X.1 X.2.1 dX12_cell_1 rfl (lv_at hl 0 rfl) ?_
  refine lv_iload_n X.1 X.2.1 dX12_cell_2 rfl (lv_at hl 1 rfl) ?_
  refine ca_X12_isCell_1 X hK hG hC (fun _ h => h) hS hb hp4 a0 h0 x1 wl_8_55 hl.1 (rest := [.ref a0]) rfl (Nat.le_of_ble_eq_true rfl) ⟨Nat.le_of_ble_eq_true rfl, Nat.le_of_ble_eq_true rfl⟩ ⟨Nat.le_of_ble_eq_true rfl, Nat.le_of_ble_eq_true rfl⟩ dX12_cell_3 (fun f1 locs hf1 hS => ?_)
  refine lv_if_eq (tgt := 25) X.1 X.2.1 dX12_cell_6 (by decide) (fun c2 => ?_) (fun c2 => ?_)
  · refine lv_iconst (v := 1) X.1 X.2.1 dX12_cell_25 (by decide +kernel) ?_
    refine pf_X12_0 X hK hG hS h0 wl_6_178 ⟨_, rfl, (iv_top _)⟩ dX12_cell_26 (fun H locs hG hS ku3 ru3 => ?_)
    refine lv_aload_n X.1 X.2.1 dX12_cell_29 rfl (lv_at hl 0 rfl) ?_
    refine gg_X12_0 X hK hG h0 wl_6_178 ku3 dX12_cell_30 ?_
    refine lv_if_le (tgt := 38) X.1 X.2.1 dX12_cell_33 (by decide) (fun c4 => ?_) (fun c4 => ?_)
    · exact ((iv_no (iv_le (b' := 0) c4 (iv_c 1 (a := 1) (b := 1) (by decide +kernel)) (iv_c 0 (a := 0) (b := 0) (by decide +kernel)) (by decide +kernel)) (by decide +kernel))).elim
    · refine lv_iconst (v := 0) X.1 X.2.1 dX12_cell_36 (by decide +kernel) ?_
      exact sg_iret X hr hlk hb hK hC hG hS trivial dX12_cell_37
  · refine lv_iload_n X.1 X.2.1 dX12_cell_9 rfl (lv_at hl 2 rfl) ?_
    obtain ⟨g5, eg5⟩ : ∃ y : Int64, y = (x2 : Int32).toInt64 := ⟨_, rfl⟩
    refine lv_i2l (v := g5) X.1 X.2.1 dX12_cell_10 eg5.symm ?_
    refine lv_lconst (v := 0) X.1 X.2.1 dX12_cell_11 (by decide +kernel) ?_
    refine lv_ldc2 X.1 X.2.1 X.2.2.2.1 (X.2.2.2.2 _ wl_7_118) dX12_cell_12 ?_
    refine ca_X12_isIn X hK hG hC (fun _ h => h) hS hb g5 0 2 wl_7_119 hl.1 (rest := [.ref a0]) rfl (Nat.le_of_ble_eq_true rfl) ⟨Nat.le_of_ble_eq_true rfl, Nat.le_of_ble_eq_true rfl⟩ ⟨Nat.le_of_ble_eq_true rfl, Nat.le_of_ble_eq_true rfl⟩ dX12_cell_15 (fun f6 locs hf6 hS => ?_)
    refine lv_if_eq (tgt := 25) X.1 X.2.1 dX12_cell_18 (by decide) (fun c7 => ?_) (fun c7 => ?_)
    · refine lv_iconst (v := 1) X.1 X.2.1 dX12_cell_25 (by decide +kernel) ?_
      refine pf_X12_0 X hK hG hS h0 wl_6_178 ⟨_, rfl, (iv_top _)⟩ dX12_cell_26 (fun H locs hG hS ku8 ru8 => ?_)
      refine lv_aload_n X.1 X.2.1 dX12_cell_29 rfl (lv_at hl 0 rfl) ?_
      refine gg_X12_0 X hK hG h0 wl_6_178 ku8 dX12_cell_30 ?_
      refine lv_if_le (tgt := 38) X.1 X.2.1 dX12_cell_33 (by decide) (fun c9 => ?_) (fun c9 => ?_)
      · exact ((iv_no (iv_le (b' := 0) c9 (iv_c 1 (a := 1) (b := 1) (by decide +kernel)) (iv_c 0 (a := 0) (b := 0) (by decide +kernel)) (by decide +kernel)) (by decide +kernel))).elim
      · refine lv_iconst (v := 0) X.1 X.2.1 dX12_cell_36 (by decide +kernel) ?_
        exact sg_iret X hr hlk hb hK hC hG hS trivial dX12_cell_37
    · refine lv_iconst (v := 0) X.1 X.2.1 dX12_cell_21 (by decide +kernel) ?_
      refine lv_goto (tgt := 26) X.1 X.2.1 dX12_cell_22 (by decide) ?_
      refine pf_X12_0 X hK hG hS h0 wl_6_178 ⟨_, rfl, (iv_top _)⟩ dX12_cell_26 (fun H locs hG hS ku10 ru10 => ?_)
      refine lv_aload_n X.1 X.2.1 dX12_cell_29 rfl (lv_at hl 0 rfl) ?_
      refine gg_X12_0 X hK hG h0 wl_6_178 ku10 dX12_cell_30 ?_
      refine lv_if_le (tgt := 38) X.1 X.2.1 dX12_cell_33 (by decide) (fun c11 => ?_) (fun c11 => ?_)
      · refine lv_iload_n X.1 X.2.1 dX12_cell_38 rfl (lv_at hl 2 rfl) ?_
        refine lv_iconst (v := 1) X.1 X.2.1 dX12_cell_39 (by decide +kernel) ?_
        refine lv_icmp_ne (tgt := 55) X.1 X.2.1 dX12_cell_40 (by decide) (fun c12 => ?_) (fun c12 => ?_)
        · refine lv_iload_n X.1 X.2.1 dX12_cell_55 rfl (lv_at hl 2 rfl) ?_
          refine lv_iconst (v := 2) X.1 X.2.1 dX12_cell_56 (by decide +kernel) ?_
          refine lv_icmp_ne (tgt := 92) X.1 X.2.1 dX12_cell_57 (by decide) (fun c13 => ?_) (fun c13 => ?_)
          · refine lv_aload_n X.1 X.2.1 dX12_cell_92 rfl (lv_at hl 0 rfl) ?_
            refine gf_X12_32 X hK hG h0 wl_6_210 dX12_cell_93 (fun q14 hq14 kq14 => ?_)
            refine lv_iconst (v := 0) X.1 X.2.1 dX12_cell_96 (by decide +kernel) ?_
            refine al_54 X hK hG hq14 (iv_vpin (iv_c 0 (a := 0) (b := 0) (by decide +kernel)) (by decide +kernel)) dX12_cell_97 (fun f15 hf15 => ?_)
            have hf15 := sg_nw_now hf15
            have of15 := hf15
            have hf15 : iv (-2147483648) 2147483647 f15 := sg_sp_now hf15 (iv_c 0 (a := 0) (b := 0) (by decide +kernel)) (by decide +kernel) rfl
            refine lv_iload_n X.1 X.2.1 dX12_cell_98 rfl (lv_at hl 1 rfl) ?_
            refine ca_X12_has X hK hG hC (fun _ h => h) hS hb f15 x1 wl_7_174 hl.1 (rest := []) rfl (Nat.le_of_ble_eq_true rfl) ⟨Nat.le_of_ble_eq_true rfl, Nat.le_of_ble_eq_true rfl⟩ ⟨Nat.le_of_ble_eq_true rfl, Nat.le_of_ble_eq_true rfl⟩ dX12_cell_99 (fun f16 locs hf16 hS => ?_)
            refine lv_if_eq (tgt := 109) X.1 X.2.1 dX12_cell_102 (by decide) (fun c17 => ?_) (fun c17 => ?_)
            · refine lv_aload_n X.1 X.2.1 dX12_cell_109 rfl (lv_at hl 0 rfl) ?_
              refine gf_X12_24 X hK hG h0 wl_6_202 dX12_cell_110 (fun f18 hf18 kf18 => ?_)
              refine lv_iload_n X.1 X.2.1 dX12_cell_113 rfl (lv_at hl 1 rfl) ?_
              refine ca_X12_has X hK hG hC (fun _ h => h) hS hb f18 x1 wl_7_174 hl.1 (rest := []) rfl (Nat.le_of_ble_eq_true rfl) ⟨Nat.le_of_ble_eq_true rfl, Nat.le_of_ble_eq_true rfl⟩ ⟨Nat.le_of_ble_eq_true rfl, Nat.le_of_ble_eq_true rfl⟩ dX12_cell_114 (fun f19 locs hf19 hS => ?_)
              refine lv_if_eq (tgt := 124) X.1 X.2.1 dX12_cell_117 (by decide) (fun c20 => ?_) (fun c20 => ?_)
              · refine lv_aload_n X.1 X.2.1 dX12_cell_124 rfl (lv_at hl 0 rfl) ?_
                refine gg_X12_32 X hK hG h0 wl_6_210 kq14 dX12_cell_125 ?_
                refine lv_iconst (v := 1) X.1 X.2.1 dX12_cell_128 (by decide +kernel) ?_
                refine al_54 X hK hG hq14 (iv_vpin (iv_c 1 (a := 1) (b := 1) (by decide +kernel)) (by decide +kernel)) dX12_cell_129 (fun f21 hf21 => ?_)
                have hf21 := sg_nw_now hf21
                have of21 := hf21
                have hf21 : iv (-2147483648) 2147483647 f21 := sg_sp_now hf21 (iv_c 1 (a := 1) (b := 1) (by decide +kernel)) (by decide +kernel) rfl
                refine lv_iload_n X.1 X.2.1 dX12_cell_130 rfl (lv_at hl 1 rfl) ?_
                refine ca_X12_has X hK hG hC (fun _ h => h) hS hb f21 x1 wl_7_174 hl.1 (rest := []) rfl (Nat.le_of_ble_eq_true rfl) ⟨Nat.le_of_ble_eq_true rfl, Nat.le_of_ble_eq_true rfl⟩ ⟨Nat.le_of_ble_eq_true rfl, Nat.le_of_ble_eq_true rfl⟩ dX12_cell_131 (fun f22 locs hf22 hS => ?_)
                refine lv_if_eq (tgt := 141) X.1 X.2.1 dX12_cell_134 (by decide) (fun c23 => ?_) (fun c23 => ?_)
                · refine lv_iconst (v := 0) X.1 X.2.1 dX12_cell_141 (by decide +kernel) ?_
                  exact sg_iret X hr hlk hb hK hC hG hS trivial dX12_cell_142
                · refine lv_iconst (v := 3) X.1 X.2.1 dX12_cell_137 (by decide +kernel) ?_
                  refine lv_goto (tgt := 142) X.1 X.2.1 dX12_cell_138 (by decide) ?_
                  exact sg_iret X hr hlk hb hK hC hG hS trivial dX12_cell_142
              · refine lv_iconst (v := 2) X.1 X.2.1 dX12_cell_120 (by decide +kernel) ?_
                refine lv_goto (tgt := 142) X.1 X.2.1 dX12_cell_121 (by decide) ?_
                exact sg_iret X hr hlk hb hK hC hG hS trivial dX12_cell_142
            · refine lv_iconst (v := 1) X.1 X.2.1 dX12_cell_105 (by decide +kernel) ?_
              refine lv_goto (tgt := 142) X.1 X.2.1 dX12_cell_106 (by decide) ?_
              exact sg_iret X hr hlk hb hK hC hG hS trivial dX12_cell_142
          · refine lv_aload_n X.1 X.2.1 dX12_cell_60 rfl (lv_at hl 0 rfl) ?_
            refine lv_aload_n X.1 X.2.1 dX12_cell_61 rfl (lv_at hl 0 rfl) ?_
            refine gf_X12_32 X hK hG h0 wl_6_210 dX12_cell_62 (fun q24 hq24 kq24 => ?_)
            refine lv_iconst (v := 0) X.1 X.2.1 dX12_cell_65 (by decide +kernel) ?_
            refine al_54 X hK hG hq24 (iv_vpin (iv_c 0 (a := 0) (b := 0) (by decide +kernel)) (by decide +kernel)) dX12_cell_66 (fun f25 hf25 => ?_)
            have hf25 := sg_nw_now hf25
            have of25 := hf25
            have hf25 : iv (-2147483648) 2147483647 f25 := sg_sp_now hf25 (iv_c 0 (a := 0) (b := 0) (by decide +kernel)) (by decide +kernel) rfl
            refine lv_aload_n X.1 X.2.1 dX12_cell_67 rfl (lv_at hl 0 rfl) ?_
            refine gg_X12_32 X hK hG h0 wl_6_210 kq24 dX12_cell_68 ?_
            refine lv_iconst (v := 1) X.1 X.2.1 dX12_cell_71 (by decide +kernel) ?_
            refine al_54 X hK hG hq24 (iv_vpin (iv_c 1 (a := 1) (b := 1) (by decide +kernel)) (by decide +kernel)) dX12_cell_72 (fun f26 hf26 => ?_)
            have hf26 := sg_nw_now hf26
            have of26 := hf26
            have hf26 : iv (-2147483648) 2147483647 f26 := sg_sp_now hf26 (iv_c 1 (a := 1) (b := 1) (by decide +kernel)) (by decide +kernel) rfl
            refine lv_aload_n X.1 X.2.1 dX12_cell_73 rfl (lv_at hl 0 rfl) ?_
            refine gg_X12_32 X hK hG h0 wl_6_210 kq24 dX12_cell_74 ?_
            refine lv_iconst (v := 4) X.1 X.2.1 dX12_cell_77 (by decide +kernel) ?_
            refine al_54 X hK hG hq24 (iv_vpin (iv_c 4 (a := 4) (b := 4) (by decide +kernel)) (by decide +kernel)) dX12_cell_78 (fun f27 hf27 => ?_)
            have hf27 := sg_nw_now hf27
            have of27 := hf27
            have hf27 : iv 0 1000000000 f27 := sg_day hf27 (iv_c 4 (a := 4) (b := 4) (by decide +kernel))
            refine lv_iload_n X.1 X.2.1 dX12_cell_79 rfl (lv_at hl 1 rfl) ?_
            refine ca_X12_mayGrow_1 X hK hG hC hS hb hp4 a0 h0 f25 f26 f27 (iv_of hf27 (a' := 0) (b' := 2147483647) (by decide +kernel)) x1 (hf1.2 c2) wl_8_64 hl.1 (rest := []) rfl (Nat.le_of_ble_eq_true rfl) ⟨Nat.le_of_ble_eq_true rfl, Nat.le_of_ble_eq_true rfl⟩ ⟨Nat.le_of_ble_eq_true rfl, Nat.le_of_ble_eq_true rfl⟩ dX12_cell_80 (fun f28 H locs hf28 hG hS => ?_)
            refine lv_if_eq (tgt := 90) X.1 X.2.1 dX12_cell_83 (by decide) (fun c29 => ?_) (fun c29 => ?_)
            · refine lv_iconst (v := 0) X.1 X.2.1 dX12_cell_90 (by decide +kernel) ?_
              exact sg_iret X hr hlk hb hK hC hG hS trivial dX12_cell_91
            · refine lv_iconst (v := 1) X.1 X.2.1 dX12_cell_86 (by decide +kernel) ?_
              refine lv_goto (tgt := 91) X.1 X.2.1 dX12_cell_87 (by decide) ?_
              exact sg_iret X hr hlk hb hK hC hG hS trivial dX12_cell_91
        · refine lv_aload_n X.1 X.2.1 dX12_cell_43 rfl (lv_at hl 0 rfl) ?_
          refine lv_aload_n X.1 X.2.1 dX12_cell_44 rfl (lv_at hl 0 rfl) ?_
          refine gf_X12_32 X hK hG h0 wl_6_210 dX12_cell_45 (fun q30 hq30 kq30 => ?_)
          refine lv_iconst (v := 0) X.1 X.2.1 dX12_cell_48 (by decide +kernel) ?_
          refine al_54 X hK hG hq30 (iv_vpin (iv_c 0 (a := 0) (b := 0) (by decide +kernel)) (by decide +kernel)) dX12_cell_49 (fun f31 hf31 => ?_)
          have hf31 := sg_nw_now hf31
          have of31 := hf31
          have hf31 : iv (-2147483648) 2147483647 f31 := sg_sp_now hf31 (iv_c 0 (a := 0) (b := 0) (by decide +kernel)) (by decide +kernel) rfl
          refine lv_iload_n X.1 X.2.1 dX12_cell_50 rfl (lv_at hl 1 rfl) ?_
          refine ca_X12_around_1 X hK hG hC (fun _ h => h) hS hb hp4 a0 h0 f31 x1 wl_8_59 hl.1 (rest := []) rfl (Nat.le_of_ble_eq_true rfl) ⟨Nat.le_of_ble_eq_true rfl, Nat.le_of_ble_eq_true rfl⟩ ⟨Nat.le_of_ble_eq_true rfl, Nat.le_of_ble_eq_true rfl⟩ dX12_cell_51 (fun f32 locs hf32 hS => ?_)
          exact sg_iret X hr hlk hb hK hC hG hS trivial dX12_cell_54
      · exact ((iv_no (iv_lt (b' := (-1)) (iv_gt_of c11) (iv_c 0 (a := 0) (b := 0) (by decide +kernel)) (iv_c 0 (a := 0) (b := 0) (by decide +kernel)) (by decide +kernel)) (by decide +kernel))).elim

theorem ca_X12_cell_1   (X : CallFix p m c cc nL s args sg_tbl own) (hK : va_K D vwCl tys s) (hG : sgG (KT P) D vwCl (fun q : Nat => base ≤ q) tys ad ks H) (hC : sgC base s) (hS : va_S (fun q : Nat => base ≤ q) s.heap H locs) (hb : base ≤ s.heap.size) (hp4 : P.2.2.2.2.1 = true) (a0 : Nat) (h0 : isK ad ks 12 a0) (x1 : Int32) (x2 : Int32) (hl : Cond.methodLink own index yX12_cell ∈ sg_tbl) (hsize : ls.size = nL) (hst : st0 = [.int x1, .int x2].reverse ++ .ref a0 :: rest) (hW : (rest.map fun v => v.category).sum ≤ 8) (hR : 35 ≤ R.frames ∧ 816 ≤ R.locals) (hf : cells ≤ R.cells ∧ slots ≤ R.slots) (hdg : decode cc pc = .ok (.invokevirtual index, 3)) (kk : ∀ (r : Int32) (H1 : Heap) (locs1 : List Loc), (fun r : Int32 => True) r → sgG (KT P) D vwCl (fun q : Nat => base ≤ q) tys ad ks H1 → va_S (fun q : Nat => base ≤ q) s.heap H1 locs1 → W p l e R s m args below meth c H1 locs1 cells slots Q (F0 m (pc + 3) ls (.int r :: rest))) : W p l e R s m args below meth c H locs cells slots Q (F0 m pc ls st0) :=
  sg_callVi X hK hG hC hS hb (m_X12_cell_1 l hp4 a0 h0 x1 x2) h0 (k := 12) (ci := 12) rfl (C := RX12) (T := TX12) (N := 53) rfl wl_8_54 wl_1_13 wl_8_52 wl_8_53 (n := 2) (by decide +kernel) rfl rfl rfl hl hsize hst hW hR hf hdg kk

set_option maxHeartbeats 8000000 in
set_option maxRecDepth 100000 in
theorem m_X12_threats_1 (l : Launch) {D : va_G} {base : Nat} {tys : List (ClassId × FieldType)} {ad ks : List Nat} {P : sgPm} (hp4 : P.2.2.2.2.1 = true) (a0 : Nat) (h0 : isK ad ks 12 a0) : sgMi l (KT P) D vwCl base tys ad ks yX12_threats cX12_threats 1 (some .int) ({ frames := 35, cells := 0, slots := 0, locals := 819 }) [.ref a0] (fun r : Int32 => True) := by
  refine sg_ofW (by decide +kernel) (Nat.le_of_ble_eq_true rfl) (fun p e s m below meth c X hr hlk hb hK hC hG ls hl => ?_)
  have hS : va_S (fun q : Nat => base ≤ q) s.heap s.heap [] := va_S.rf
  have hl : lv_has ls 1 [(0, .ref a0)] := hl
  refine lv_aload_n X.1 X.2.1 dX12_threats_0 rfl (lv_at hl 0 rfl) ?_
  refine lv_iconst (v := 0) X.1 X.2.1 dX12_threats_1 (by decide +kernel) ?_
  refine pf_X12_0 X hK hG hS h0 wl_6_178 ⟨_, rfl, (iv_top _)⟩ dX12_threats_2 (fun H locs hG hS ku1 ru1 => ?_)
  refine lv_aload_n X.1 X.2.1 dX12_threats_5 rfl (lv_at hl 0 rfl) ?_
  refine gf_X12_23s X hK hG h0 hp4 wl_6_201 dX12_threats_6 (fun f2 hf2 kf2 => ?_)
  refine lv_if_ne (tgt := 16) X.1 X.2.1 dX12_threats_9 (by decide) (fun c3 => ?_) (fun c3 => ?_)
  · refine lv_aload_n X.1 X.2.1 dX12_threats_16 rfl (lv_at hl 0 rfl) ?_
    refine lv_aload_n X.1 X.2.1 dX12_threats_17 rfl (lv_at hl 0 rfl) ?_
    refine gf_X12_32 X hK hG h0 wl_6_210 dX12_threats_18 (fun q4 hq4 kq4 => ?_)
    refine lv_iconst (v := 0) X.1 X.2.1 dX12_threats_21 (by decide +kernel) ?_
    refine al_54 X hK hG hq4 (iv_vpin (iv_c 0 (a := 0) (b := 0) (by decide +kernel)) (by decide +kernel)) dX12_threats_22 (fun f5 hf5 => ?_)
    have hf5 := sg_nw_now hf5
    have of5 := hf5
    have hf5 : iv (-2147483648) 2147483647 f5 := sg_sp_now hf5 (iv_c 0 (a := 0) (b := 0) (by decide +kernel)) (by decide +kernel) rfl
    refine lv_aload_n X.1 X.2.1 dX12_threats_23 rfl (lv_at hl 0 rfl) ?_
    refine gg_X12_32 X hK hG h0 wl_6_210 kq4 dX12_threats_24 ?_
    refine lv_iconst (v := 1) X.1 X.2.1 dX12_threats_27 (by decide +kernel) ?_
    refine al_54 X hK hG hq4 (iv_vpin (iv_c 1 (a := 1) (b := 1) (by decide +kernel)) (by decide +kernel)) dX12_threats_28 (fun f6 hf6 => ?_)
    have hf6 := sg_nw_now hf6
    have of6 := hf6
    have hf6 : iv (-2147483648) 2147483647 f6 := sg_sp_now hf6 (iv_c 1 (a := 1) (b := 1) (by decide +kernel)) (by decide +kernel) rfl
    refine lv_aload_n X.1 X.2.1 dX12_threats_29 rfl (lv_at hl 0 rfl) ?_
    refine gg_X12_32 X hK hG h0 wl_6_210 kq4 dX12_threats_30 ?_
    refine lv_iconst (v := 4) X.1 X.2.1 dX12_threats_33 (by decide +kernel) ?_
    refine al_54 X hK hG hq4 (iv_vpin (iv_c 4 (a := 4) (b := 4) (by decide +kernel)) (by decide +kernel)) dX12_threats_34 (fun f7 hf7 => ?_)
    have hf7 := sg_nw_now hf7
    have of7 := hf7
    have hf7 : iv 0 1000000000 f7 := sg_day hf7 (iv_c 4 (a := 4) (b := 4) (by decide +kernel))
    refine ca_X12_threatsIn_1 X hK hG hC hS hb hp4 a0 h0 f5 f6 f7 (iv_of hf7 (a' := 0) (b' := 2147483647) (by decide +kernel)) wl_8_106 hl.1 (rest := []) rfl (Nat.le_of_ble_eq_true rfl) ⟨Nat.le_of_ble_eq_true rfl, Nat.le_of_ble_eq_true rfl⟩ ⟨Nat.le_of_ble_eq_true rfl, Nat.le_of_ble_eq_true rfl⟩ dX12_threats_35 (fun f8 H locs hf8 hG hS => ?_)
    exact sg_iret X hr hlk hb hK hC hG hS trivial dX12_threats_38
  · exact ((iv_no (a := 1) (b := 0) (iv_eqm c3 hf2 (iv_c 0 (a := 0) (b := 0) (by decide +kernel)) (by decide +kernel)) (by decide +kernel))).elim

theorem ca_X12_threats_1   (X : CallFix p m c cc nL s args sg_tbl own) (hK : va_K D vwCl tys s) (hG : sgG (KT P) D vwCl (fun q : Nat => base ≤ q) tys ad ks H) (hC : sgC base s) (hS : va_S (fun q : Nat => base ≤ q) s.heap H locs) (hb : base ≤ s.heap.size) (hp4 : P.2.2.2.2.1 = true) (a0 : Nat) (h0 : isK ad ks 12 a0) (hl : Cond.methodLink own index yX12_threats ∈ sg_tbl) (hsize : ls.size = nL) (hst : st0 = [].reverse ++ .ref a0 :: rest) (hW : (rest.map fun v => v.category).sum ≤ 8) (hR : 36 ≤ R.frames ∧ 839 ≤ R.locals) (hf : cells ≤ R.cells ∧ slots ≤ R.slots) (hdg : decode cc pc = .ok (.invokevirtual index, 3)) (kk : ∀ (r : Int32) (H1 : Heap) (locs1 : List Loc), (fun r : Int32 => True) r → sgG (KT P) D vwCl (fun q : Nat => base ≤ q) tys ad ks H1 → va_S (fun q : Nat => base ≤ q) s.heap H1 locs1 → W p l e R s m args below meth c H1 locs1 cells slots Q (F0 m (pc + 3) ls (.int r :: rest))) : W p l e R s m args below meth c H locs cells slots Q (F0 m pc ls st0) :=
  sg_callVi X hK hG hC hS hb (m_X12_threats_1 l hp4 a0 h0) h0 (k := 12) (ci := 12) rfl (C := RX12) (T := TX12) (N := 53) rfl wl_8_238 wl_1_13 wl_8_236 wl_8_237 (n := 0) (by decide +kernel) rfl rfl rfl hl hsize hst hW hR hf hdg kk

set_option maxHeartbeats 8000000 in
set_option maxRecDepth 100000 in
theorem m_X12_room_1 (l : Launch) {D : va_G} {base : Nat} {tys : List (ClassId × FieldType)} {ad ks : List Nat} {P : sgPm} (hp4 : P.2.2.2.2.1 = true) (a0 : Nat) (h0 : isK ad ks 12 a0) : sgMi l (KT P) D vwCl base tys ad ks yX12_room cX12_room 1 (some .int) ({ frames := 35, cells := 0, slots := 0, locals := 819 }) [.ref a0] (fun r : Int32 => True) := by
  refine sg_ofW (by decide +kernel) (Nat.le_of_ble_eq_true rfl) (fun p e s m below meth c X hr hlk hb hK hC hG ls hl => ?_)
  have hS : va_S (fun q : Nat => base ≤ q) s.heap s.heap [] := va_S.rf
  have hl : lv_has ls 1 [(0, .ref a0)] := hl
  refine lv_aload_n X.1 X.2.1 dX12_room_0 rfl (lv_at hl 0 rfl) ?_
  refine lv_iconst (v := 0) X.1 X.2.1 dX12_room_1 (by decide +kernel) ?_
  refine pf_X12_0 X hK hG hS h0 wl_6_178 ⟨_, rfl, (iv_top _)⟩ dX12_room_2 (fun H locs hG hS ku1 ru1 => ?_)
  refine lv_aload_n X.1 X.2.1 dX12_room_5 rfl (lv_at hl 0 rfl) ?_
  refine gf_X12_23s X hK hG h0 hp4 wl_6_201 dX12_room_6 (fun f2 hf2 kf2 => ?_)
  refine lv_if_ne (tgt := 16) X.1 X.2.1 dX12_room_9 (by decide) (fun c3 => ?_) (fun c3 => ?_)
  · refine lv_aload_n X.1 X.2.1 dX12_room_16 rfl (lv_at hl 0 rfl) ?_
    refine lv_aload_n X.1 X.2.1 dX12_room_17 rfl (lv_at hl 0 rfl) ?_
    refine gf_X12_32 X hK hG h0 wl_6_210 dX12_room_18 (fun q4 hq4 kq4 => ?_)
    refine lv_iconst (v := 0) X.1 X.2.1 dX12_room_21 (by decide +kernel) ?_
    refine al_54 X hK hG hq4 (iv_vpin (iv_c 0 (a := 0) (b := 0) (by decide +kernel)) (by decide +kernel)) dX12_room_22 (fun f5 hf5 => ?_)
    have hf5 := sg_nw_now hf5
    have of5 := hf5
    have hf5 : iv (-2147483648) 2147483647 f5 := sg_sp_now hf5 (iv_c 0 (a := 0) (b := 0) (by decide +kernel)) (by decide +kernel) rfl
    refine lv_aload_n X.1 X.2.1 dX12_room_23 rfl (lv_at hl 0 rfl) ?_
    refine gg_X12_32 X hK hG h0 wl_6_210 kq4 dX12_room_24 ?_
    refine lv_iconst (v := 1) X.1 X.2.1 dX12_room_27 (by decide +kernel) ?_
    refine al_54 X hK hG hq4 (iv_vpin (iv_c 1 (a := 1) (b := 1) (by decide +kernel)) (by decide +kernel)) dX12_room_28 (fun f6 hf6 => ?_)
    have hf6 := sg_nw_now hf6
    have of6 := hf6
    have hf6 : iv (-2147483648) 2147483647 f6 := sg_sp_now hf6 (iv_c 1 (a := 1) (b := 1) (by decide +kernel)) (by decide +kernel) rfl
    refine lv_aload_n X.1 X.2.1 dX12_room_29 rfl (lv_at hl 0 rfl) ?_
    refine gg_X12_32 X hK hG h0 wl_6_210 kq4 dX12_room_30 ?_
    refine lv_iconst (v := 4) X.1 X.2.1 dX12_room_33 (by decide +kernel) ?_
    refine al_54 X hK hG hq4 (iv_vpin (iv_c 4 (a := 4) (b := 4) (by decide +kernel)) (by decide +kernel)) dX12_room_34 (fun f7 hf7 => ?_)
    have hf7 := sg_nw_now hf7
    have of7 := hf7
    have hf7 : iv 0 1000000000 f7 := sg_day hf7 (iv_c 4 (a := 4) (b := 4) (by decide +kernel))
    refine ca_X12_freeIn_1 X hK hG hC hS hb hp4 a0 h0 f5 f6 f7 (iv_of hf7 (a' := 0) (b' := 2147483647) (by decide +kernel)) wl_8_162 hl.1 (rest := []) rfl (Nat.le_of_ble_eq_true rfl) ⟨Nat.le_of_ble_eq_true rfl, Nat.le_of_ble_eq_true rfl⟩ ⟨Nat.le_of_ble_eq_true rfl, Nat.le_of_ble_eq_true rfl⟩ dX12_room_35 (fun f8 H locs hf8 hG hS => ?_)
    refine ca_J6_bitCount_0f7a4 X hK hG hC (fun _ h => h) hS hb f8 wl_8_68 hl.1 (rest := []) rfl (Nat.le_of_ble_eq_true rfl) ⟨Nat.le_of_ble_eq_true rfl, Nat.le_of_ble_eq_true rfl⟩ ⟨Nat.le_of_ble_eq_true rfl, Nat.le_of_ble_eq_true rfl⟩ dX12_room_38 (fun f9 locs hf9 hS => ?_)
    exact sg_iret X hr hlk hb hK hC hG hS trivial dX12_room_41
  · exact ((iv_no (a := 1) (b := 0) (iv_eqm c3 hf2 (iv_c 0 (a := 0) (b := 0) (by decide +kernel)) (by decide +kernel)) (by decide +kernel))).elim

theorem ca_X12_room_1   (X : CallFix p m c cc nL s args sg_tbl own) (hK : va_K D vwCl tys s) (hG : sgG (KT P) D vwCl (fun q : Nat => base ≤ q) tys ad ks H) (hC : sgC base s) (hS : va_S (fun q : Nat => base ≤ q) s.heap H locs) (hb : base ≤ s.heap.size) (hp4 : P.2.2.2.2.1 = true) (a0 : Nat) (h0 : isK ad ks 12 a0) (hl : Cond.methodLink own index yX12_room ∈ sg_tbl) (hsize : ls.size = nL) (hst : st0 = [].reverse ++ .ref a0 :: rest) (hW : (rest.map fun v => v.category).sum ≤ 8) (hR : 36 ≤ R.frames ∧ 839 ≤ R.locals) (hf : cells ≤ R.cells ∧ slots ≤ R.slots) (hdg : decode cc pc = .ok (.invokevirtual index, 3)) (kk : ∀ (r : Int32) (H1 : Heap) (locs1 : List Loc), (fun r : Int32 => True) r → sgG (KT P) D vwCl (fun q : Nat => base ≤ q) tys ad ks H1 → va_S (fun q : Nat => base ≤ q) s.heap H1 locs1 → W p l e R s m args below meth c H1 locs1 cells slots Q (F0 m (pc + 3) ls (.int r :: rest))) : W p l e R s m args below meth c H locs cells slots Q (F0 m pc ls st0) :=
  sg_callVi X hK hG hC hS hb (m_X12_room_1 l hp4 a0 h0) h0 (k := 12) (ci := 12) rfl (C := RX12) (T := TX12) (N := 53) rfl wl_9_145 wl_1_13 wl_9_143 wl_9_144 (n := 0) (by decide +kernel) rfl rfl rfl hl hsize hst hW hR hf hdg kk

set_option maxHeartbeats 8000000 in
set_option maxRecDepth 100000 in
theorem m_X12_canGrow_1 (l : Launch) {D : va_G} {base : Nat} {tys : List (ClassId × FieldType)} {ad ks : List Nat} {P : sgPm} (hp4 : P.2.2.2.2.1 = true) (a0 : Nat) (h0 : isK ad ks 12 a0) (a1 : Nat) (h1 : isK ad ks 54 a1) (x2 : Int32) : sgMi l (KT P) D vwCl base tys ad ks yX12_canGrow cX12_canGrow 3 (some .boolean) ({ frames := 34, cells := 0, slots := 0, locals := 794 }) [.ref a0, .ref a1, .int x2] (fun r : Int32 => iv 0 1 r) := by
  refine sg_ofW (by decide +kernel) (Nat.le_of_ble_eq_true rfl) (fun p e s m below meth c X hr hlk hb hK hC hG ls hl => ?_)
  have hS : va_S (fun q : Nat => base ≤ q) s.heap s.heap [] := va_S.rf
  have hl : lv_has ls 3 [(0, .ref a0), (1, .ref a1), (2, .int x2)] := hl
  refine lv_aload_n X.1 X.2.1 dX12_canGrow_0 rfl (lv_at hl 0 rfl) ?_
  refine lv_aload_n X.1 X.2.1 dX12_canGrow_1 rfl (lv_at hl 1 rfl) ?_
  refine ca_X12_isOpen_1 X hK hG hC (fun _ h => h) hS hb hp4 a0 h0 a1 h1 wl_8_94 hl.1 (rest := []) rfl (Nat.le_of_ble_eq_true rfl) ⟨Nat.le_of_ble_eq_true rfl, Nat.le_of_ble_eq_true rfl⟩ ⟨Nat.le_of_ble_eq_true rfl, Nat.le_of_ble_eq_true rfl⟩ dX12_canGrow_2 (fun f1 locs hf1 hS => ?_)
  have B3_43 : ∀ (H : Heap) (locs : List Loc) (ls : Array Slot), sgG (KT P) D vwCl (fun q : Nat => base ≤ q) tys ad ks H → va_S (fun q : Nat => base ≤ q) s.heap H locs → lv_has ls 3 [] → W p l e (headSpec (Cond.code yX12_canGrow cX12_canGrow 3 (some .boolean) :: sg_tbl) ({ frames := 34, cells := 0, slots := 0, locals := 794 })).room s m #[.ref a0, .ref a1, .int x2] below meth c H locs 0 0 (MQ below (va_Qi (fun r (_ : Unit) => (fun r : Int32 => iv 0 1 r) r) (fun _ => sgB (KT P) D vwCl base tys ad ks) (fun q : Nat => base ≤ q)) #[.ref a0, .ref a1, .int x2] s 0 0 (fun q : Nat => base ≤ q)) (F0 m 43 ls []) := by
    intro H locs ls hG hS hl
    refine lv_iconst (v := 0) X.1 X.2.1 dX12_canGrow_43 (by decide +kernel) ?_
    exact sg_zret X hr (sg_zn (iv_of (iv_c 0 (a := 0) (b := 0) (by decide +kernel)) (a' := 0) (b' := 1) (by decide +kernel))) hlk hb hK hC hG hS (iv_of (iv_c 0 (a := 0) (b := 0) (by decide +kernel)) (a' := 0) (b' := 1) (by decide +kernel)) dX12_canGrow_44
  refine lv_if_eq (tgt := 43) X.1 X.2.1 dX12_canGrow_5 (by decide) (fun c2 => ?_) (fun c2 => ?_)
  · exact B3_43 s.heap _ _ hG hS (lv_sub hl [] rfl)
  · refine lv_aload_n X.1 X.2.1 dX12_canGrow_8 rfl (lv_at hl 1 rfl) ?_
    refine lv_iconst (v := 2) X.1 X.2.1 dX12_canGrow_9 (by decide +kernel) ?_
    refine al_54 X hK hG h1 (iv_vpin (iv_c 2 (a := 2) (b := 2) (by decide +kernel)) (by decide +kernel)) dX12_canGrow_10 (fun f4 hf4 => ?_)
    have hf4 := sg_nw_now hf4
    have of4 := hf4
    have hf4 : iv 0 1 f4 := sg_sp_now hf4 (iv_c 2 (a := 2) (b := 2) (by decide +kernel)) (by decide +kernel) rfl
    refine lv_if_ne (tgt := 43) X.1 X.2.1 dX12_canGrow_11 (by decide) (fun c5 => ?_) (fun c5 => ?_)
    · exact B3_43 s.heap _ _ hG hS (lv_sub hl [] rfl)
    · refine lv_aload_n X.1 X.2.1 dX12_canGrow_14 rfl (lv_at hl 0 rfl) ?_
      refine lv_iload_n X.1 X.2.1 dX12_canGrow_15 rfl (lv_at hl 2 rfl) ?_
      refine ca_X12_isCell_1 X hK hG hC (fun _ h => h) hS hb hp4 a0 h0 x2 wl_8_55 hl.1 (rest := []) rfl (Nat.le_of_ble_eq_true rfl) ⟨Nat.le_of_ble_eq_true rfl, Nat.le_of_ble_eq_true rfl⟩ ⟨Nat.le_of_ble_eq_true rfl, Nat.le_of_ble_eq_true rfl⟩ dX12_canGrow_16 (fun f6 locs hf6 hS => ?_)
      refine lv_if_eq (tgt := 43) X.1 X.2.1 dX12_canGrow_19 (by decide) (fun c7 => ?_) (fun c7 => ?_)
      · exact B3_43 s.heap _ _ hG hS (lv_sub hl [] rfl)
      · refine lv_aload_n X.1 X.2.1 dX12_canGrow_22 rfl (lv_at hl 0 rfl) ?_
        refine lv_aload_n X.1 X.2.1 dX12_canGrow_23 rfl (lv_at hl 1 rfl) ?_
        refine lv_iconst (v := 0) X.1 X.2.1 dX12_canGrow_24 (by decide +kernel) ?_
        refine al_54 X hK hG h1 (iv_vpin (iv_c 0 (a := 0) (b := 0) (by decide +kernel)) (by decide +kernel)) dX12_canGrow_25 (fun f8 hf8 => ?_)
        have hf8 := sg_nw_now hf8
        have of8 := hf8
        have hf8 : iv (-2147483648) 2147483647 f8 := sg_sp_now hf8 (iv_c 0 (a := 0) (b := 0) (by decide +kernel)) (by decide +kernel) rfl
        refine lv_aload_n X.1 X.2.1 dX12_canGrow_26 rfl (lv_at hl 1 rfl) ?_
        refine lv_iconst (v := 1) X.1 X.2.1 dX12_canGrow_27 (by decide +kernel) ?_
        refine al_54 X hK hG h1 (iv_vpin (iv_c 1 (a := 1) (b := 1) (by decide +kernel)) (by decide +kernel)) dX12_canGrow_28 (fun f9 hf9 => ?_)
        have hf9 := sg_nw_now hf9
        have of9 := hf9
        have hf9 : iv (-2147483648) 2147483647 f9 := sg_sp_now hf9 (iv_c 1 (a := 1) (b := 1) (by decide +kernel)) (by decide +kernel) rfl
        refine lv_aload_n X.1 X.2.1 dX12_canGrow_29 rfl (lv_at hl 1 rfl) ?_
        refine lv_iconst (v := 4) X.1 X.2.1 dX12_canGrow_30 (by decide +kernel) ?_
        refine al_54 X hK hG h1 (iv_vpin (iv_c 4 (a := 4) (b := 4) (by decide +kernel)) (by decide +kernel)) dX12_canGrow_31 (fun f10 hf10 => ?_)
        have hf10 := sg_nw_now hf10
        have of10 := hf10
        have hf10 : iv 0 1000000000 f10 := sg_day hf10 (iv_c 4 (a := 4) (b := 4) (by decide +kernel))
        refine lv_iload_n X.1 X.2.1 dX12_canGrow_32 rfl (lv_at hl 2 rfl) ?_
        refine ca_X12_mayGrow_1 X hK hG hC hS hb hp4 a0 h0 f8 f9 f10 (iv_of hf10 (a' := 0) (b' := 2147483647) (by decide +kernel)) x2 (hf6.2 c7) wl_8_64 hl.1 (rest := []) rfl (Nat.le_of_ble_eq_true rfl) ⟨Nat.le_of_ble_eq_true rfl, Nat.le_of_ble_eq_true rfl⟩ ⟨Nat.le_of_ble_eq_true rfl, Nat.le_of_ble_eq_true rfl⟩ dX12_canGrow_33 (fun f11 H locs hf11 hG hS => ?_)
        refine lv_if_eq (tgt := 43) X.1 X.2.1 dX12_canGrow_36 (by decide) (fun c12 => ?_) (fun c12 => ?_)
        · exact B3_43 H _ _ hG hS (lv_sub hl [] rfl)
        · refine lv_iconst (v := 1) X.1 X.2.1 dX12_canGrow_39 (by decide +kernel) ?_
          refine lv_goto (tgt := 44) X.1 X.2.1 dX12_canGrow_40 (by decide) ?_
          exact sg_zret X hr (sg_zn (iv_of (iv_c 1 (a := 1) (b := 1) (by decide +kernel)) (a' := 0) (b' := 1) (by decide +kernel))) hlk hb hK hC hG hS (iv_of (iv_c 1 (a := 1) (b := 1) (by decide +kernel)) (a' := 0) (b' := 1) (by decide +kernel)) dX12_canGrow_44

theorem ca_X12_canGrow_1   (X : CallFix p m c cc nL s args sg_tbl own) (hK : va_K D vwCl tys s) (hG : sgG (KT P) D vwCl (fun q : Nat => base ≤ q) tys ad ks H) (hC : sgC base s) (hS : va_S (fun q : Nat => base ≤ q) s.heap H locs) (hb : base ≤ s.heap.size) (hp4 : P.2.2.2.2.1 = true) (a0 : Nat) (h0 : isK ad ks 12 a0) (a1 : Nat) (h1 : isK ad ks 54 a1) (x2 : Int32) (hl : Cond.methodLink own index yX12_canGrow ∈ sg_tbl) (hsize : ls.size = nL) (hst : st0 = [.ref a1, .int x2].reverse ++ .ref a0 :: rest) (hW : (rest.map fun v => v.category).sum ≤ 8) (hR : 35 ≤ R.frames ∧ 816 ≤ R.locals) (hf : cells ≤ R.cells ∧ slots ≤ R.slots) (hdg : decode cc pc = .ok (.invokevirtual index, 3)) (kk : ∀ (r : Int32) (H1 : Heap) (locs1 : List Loc), (fun r : Int32 => iv 0 1 r) r → sgG (KT P) D vwCl (fun q : Nat => base ≤ q) tys ad ks H1 → va_S (fun q : Nat => base ≤ q) s.heap H1 locs1 → W p l e R s m args below meth c H1 locs1 cells slots Q (F0 m (pc + 3) ls (.int r :: rest))) : W p l e R s m args below meth c H locs cells slots Q (F0 m pc ls st0) :=
  sg_callVi X hK hG hC hS hb (m_X12_canGrow_1 l hp4 a0 h0 a1 h1 x2) h0 (k := 12) (ci := 12) rfl (C := RX12) (T := TX12) (N := 53) rfl wl_8_93 wl_1_13 wl_8_92 wl_0_76 (n := 2) (by decide +kernel) rfl rfl rfl hl hsize hst hW hR hf hdg kk

set_option maxHeartbeats 8000000 in
set_option maxRecDepth 100000 in
theorem m_X12_grows_1 (l : Launch) {D : va_G} {base : Nat} {tys : List (ClassId × FieldType)} {ad ks : List Nat} {P : sgPm} (hp4 : P.2.2.2.2.1 = true) (hp10 : sgPin P = none) (a0 : Nat) (h0 : isK ad ks 12 a0) (a1 : Nat) (h1 : isK ad ks 54 a1) (x2 : Int32) : sgMv l (KT P) D vwCl base tys ad ks yX12_grows cX12_grows 4 none ({ frames := 35, cells := 0, slots := 0, locals := 819 }) [.ref a0, .ref a1, .int x2] := by
  refine sg_ofW (by decide +kernel) (Nat.le_of_ble_eq_true rfl) (fun p e s m below meth c X hr hlk hb hK hC hG ls hl => ?_)
  have hS : va_S (fun q : Nat => base ≤ q) s.heap s.heap [] := va_S.rf
  have hl : lv_has ls 4 [(0, .ref a0), (1, .ref a1), (2, .int x2)] := hl
  refine lv_aload_n X.1 X.2.1 dX12_grows_0 rfl (lv_at hl 0 rfl) ?_
  refine lv_aload_n X.1 X.2.1 dX12_grows_1 rfl (lv_at hl 1 rfl) ?_
  refine lv_iconst (v := 0) X.1 X.2.1 dX12_grows_2 (by decide +kernel) ?_
  refine al_54 X hK hG h1 (iv_vpin (iv_c 0 (a := 0) (b := 0) (by decide +kernel)) (by decide +kernel)) dX12_grows_3 (fun f1 hf1 => ?_)
  have hf1 := sg_nw_now hf1
  have of1 := hf1
  have hf1 : iv (-2147483648) 2147483647 f1 := sg_sp_now hf1 (iv_c 0 (a := 0) (b := 0) (by decide +kernel)) (by decide +kernel) rfl
  refine lv_aload_n X.1 X.2.1 dX12_grows_4 rfl (lv_at hl 1 rfl) ?_
  refine lv_iconst (v := 1) X.1 X.2.1 dX12_grows_5 (by decide +kernel) ?_
  refine al_54 X hK hG h1 (iv_vpin (iv_c 1 (a := 1) (b := 1) (by decide +kernel)) (by decide +kernel)) dX12_grows_6 (fun f2 hf2 => ?_)
  have hf2 := sg_nw_now hf2
  have of2 := hf2
  have hf2 : iv (-2147483648) 2147483647 f2 := sg_sp_now hf2 (iv_c 1 (a := 1) (b := 1) (by decide +kernel)) (by decide +kernel) rfl
  refine lv_aload_n X.1 X.2.1 dX12_grows_7 rfl (lv_at hl 1 rfl) ?_
  refine lv_iconst (v := 4) X.1 X.2.1 dX12_grows_8 (by decide +kernel) ?_
  refine al_54 X hK hG h1 (iv_vpin (iv_c 4 (a := 4) (b := 4) (by decide +kernel)) (by decide +kernel)) dX12_grows_9 (fun f3 hf3 => ?_)
  have hf3 := sg_nw_now hf3
  have of3 := hf3
  have hf3 : iv 0 1000000000 f3 := sg_day hf3 (iv_c 4 (a := 4) (b := 4) (by decide +kernel))
  refine ca_X12_threatsIn_1 X hK hG hC hS hb hp4 a0 h0 f1 f2 f3 (iv_of hf3 (a' := 0) (b' := 2147483647) (by decide +kernel)) wl_8_106 hl.1 (rest := []) rfl (Nat.le_of_ble_eq_true rfl) ⟨Nat.le_of_ble_eq_true rfl, Nat.le_of_ble_eq_true rfl⟩ ⟨Nat.le_of_ble_eq_true rfl, Nat.le_of_ble_eq_true rfl⟩ dX12_grows_10 (fun f4 H locs hf4 hG hS => ?_)
  have B6_21 : ∀ (locs : List Loc) (ls : Array Slot) (w6_0 : Int32), va_S (fun q : Nat => base ≤ q) s.heap H locs → lv_has ls 4 [(0, .ref a0), (1, .ref a1), (2, .int x2)] → iv 0 1 w6_0 → W p l e (headSpec (Cond.code yX12_grows cX12_grows 4 none :: sg_tbl) ({ frames := 35, cells := 0, slots := 0, locals := 819 })).room s m #[.ref a0, .ref a1, .int x2] below meth c H locs 0 0 (MQ below (va_Qv (fun (_ : Unit) => True) (fun _ => sgB (KT P) D vwCl base tys ad ks) (fun q : Nat => base ≤ q)) #[.ref a0, .ref a1, .int x2] s 0 0 (fun q : Nat => base ≤ q)) (F0 m 21 ls [.int w6_0]) := by
    intro locs ls w6_0 hS hl hw6_0
    refine lv_istore_n (lv' := [(3, .int w6_0), (0, .ref a0), (1, .ref a1), (2, .int x2)]) X.1 X.2.1 dX12_grows_21 rfl hl (by decide) rfl (fun ls hl => ?_)
    refine lv_aload_n X.1 X.2.1 dX12_grows_22 rfl (lv_at hl 2 rfl) ?_
    refine lv_iconst (v := 0) X.1 X.2.1 dX12_grows_23 (by decide +kernel) ?_
    refine lv_dup2_11 X.1 X.2.1 dX12_grows_24 rfl rfl ?_
    refine al_54 X hK hG h1 (iv_vpin (iv_c 0 (a := 0) (b := 0) (by decide +kernel)) (by decide +kernel)) dX12_grows_25 (fun f7 hf7 => ?_)
    have hf7 := sg_nw_now hf7
    have of7 := hf7
    have hf7 : iv (-2147483648) 2147483647 f7 := sg_sp_now hf7 (iv_c 0 (a := 0) (b := 0) (by decide +kernel)) (by decide +kernel) rfl
    refine lv_iconst (v := 1) X.1 X.2.1 dX12_grows_26 (by decide +kernel) ?_
    refine lv_iload_n X.1 X.2.1 dX12_grows_27 rfl (lv_at hl 3 rfl) ?_
    refine lv_ishl X.1 X.2.1 dX12_grows_28 ?_
    refine lv_topi (fun f8 ef8 => ?_)
    refine lv_ior X.1 X.2.1 dX12_grows_29 ?_
    refine lv_topi (fun f9 ef9 => ?_)
    refine as_54 X hK hG hS h1 (iv_vpin (iv_c 0 (a := 0) (b := 0) (by decide +kernel)) (by decide +kernel)) (sg_nw_none hp10 (sg_at_now (a := (-2147483648)) (b := 2147483647) (iv_c 0 (a := 0) (b := 0) (by decide +kernel)) (by decide +kernel) rfl (iv_top f9))) dX12_grows_30 (fun H locs hG hS ru10 => ?_)
    refine lv_aload_n X.1 X.2.1 dX12_grows_31 rfl (lv_at hl 2 rfl) ?_
    refine lv_iconst (v := 2) X.1 X.2.1 dX12_grows_32 (by decide +kernel) ?_
    refine lv_iconst (v := 1) X.1 X.2.1 dX12_grows_33 (by decide +kernel) ?_
    refine as_54 X hK hG hS h1 (iv_vpin (iv_c 2 (a := 2) (b := 2) (by decide +kernel)) (by decide +kernel)) (sg_nw_ne (sg_nei0 (iv_c 2 (a := 2) (b := 2) (by decide +kernel)) (by decide +kernel)) (sg_at_now (a := 0) (b := 1) (iv_c 2 (a := 2) (b := 2) (by decide +kernel)) (by decide +kernel) rfl (iv_of (iv_c 1 (a := 1) (b := 1) (by decide +kernel)) (a' := 0) (b' := 1) (by decide +kernel)))) dX12_grows_34 (fun H locs hG hS ru11 => ?_)
    refine lv_aload_n X.1 X.2.1 dX12_grows_35 rfl (lv_at hl 2 rfl) ?_
    refine lv_iconst (v := 3) X.1 X.2.1 dX12_grows_36 (by decide +kernel) ?_
    refine lv_aload_n X.1 X.2.1 dX12_grows_37 rfl (lv_at hl 2 rfl) ?_
    refine lv_iconst (v := 0) X.1 X.2.1 dX12_grows_38 (by decide +kernel) ?_
    refine al_54 X hK hG h1 (iv_vpin (iv_c 0 (a := 0) (b := 0) (by decide +kernel)) (by decide +kernel)) dX12_grows_39 (fun f12 hf12 => ?_)
    have hf12 := sg_nw_now hf12
    have of12 := hf12
    have hf12 : iv (-2147483648) 2147483647 f12 := sg_sp_now hf12 (iv_c 0 (a := 0) (b := 0) (by decide +kernel)) (by decide +kernel) rfl
    refine lv_aload_n X.1 X.2.1 dX12_grows_40 rfl (lv_at hl 1 rfl) ?_
    refine gf_X12_18 X hK hG h0 wl_6_196 dX12_grows_41 (fun q13 hq13 kq13 => ?_)
    refine ca_X12_hasLine_1 X hK hG hC (fun _ h => h) hS hb hp4 f12 q13 hq13 wl_7_196 hl.1 (rest := [.int 3, .ref a1]) rfl (Nat.le_of_ble_eq_true rfl) ⟨Nat.le_of_ble_eq_true rfl, Nat.le_of_ble_eq_true rfl⟩ ⟨Nat.le_of_ble_eq_true rfl, Nat.le_of_ble_eq_true rfl⟩ dX12_grows_44 (fun f14 locs hf14 hS => ?_)
    have B16_55 : ∀ (locs : List Loc) (ls : Array Slot) (w16_0 : Int32), va_S (fun q : Nat => base ≤ q) s.heap H locs → lv_has ls 4 [(1, .ref a1), (2, .int x2), (3, .int w6_0)] → iv 0 1 w16_0 → W p l e (headSpec (Cond.code yX12_grows cX12_grows 4 none :: sg_tbl) ({ frames := 35, cells := 0, slots := 0, locals := 819 })).room s m #[.ref a0, .ref a1, .int x2] below meth c H locs 0 0 (MQ below (va_Qv (fun (_ : Unit) => True) (fun _ => sgB (KT P) D vwCl base tys ad ks) (fun q : Nat => base ≤ q)) #[.ref a0, .ref a1, .int x2] s 0 0 (fun q : Nat => base ≤ q)) (F0 m 55 ls [.int w16_0, .int 3, .ref a1]) := by
      intro locs ls w16_0 hS hl hw16_0
      refine as_54 X hK hG hS h1 (iv_vpin (iv_c 3 (a := 3) (b := 3) (by decide +kernel)) (by decide +kernel)) (sg_nw_ne (sg_nei0 (iv_c 3 (a := 3) (b := 3) (by decide +kernel)) (by decide +kernel)) (sg_at_now (a := (-2147483648)) (b := 2147483647) (iv_c 3 (a := 3) (b := 3) (by decide +kernel)) (by decide +kernel) rfl (iv_of hw16_0 (a' := (-2147483648)) (b' := 2147483647) (by decide +kernel)))) dX12_grows_55 (fun H locs hG hS ru17 => ?_)
      refine lv_aload_n X.1 X.2.1 dX12_grows_56 rfl (lv_at hl 0 rfl) ?_
      refine lv_bipush (v := 7) X.1 X.2.1 dX12_grows_57 (by decide +kernel) ?_
      refine lv_dup2_11 X.1 X.2.1 dX12_grows_59 rfl rfl ?_
      refine al_54 X hK hG h1 (iv_vpin (iv_c 7 (a := 7) (b := 7) (by decide +kernel)) (by decide +kernel)) dX12_grows_60 (fun f18 hf18 => ?_)
      have hf18 := sg_nw_now hf18
      have of18 := hf18
      have hf18 : iv (-2147483648) 2147483647 f18 := sg_sp_now hf18 (iv_c 7 (a := 7) (b := 7) (by decide +kernel)) (by decide +kernel) rfl
      refine lv_iload_n X.1 X.2.1 dX12_grows_61 rfl (lv_at hl 2 rfl) ?_
      have B20_76 : ∀ (locs : List Loc) (ls : Array Slot) (w20_0 : Int32), va_S (fun q : Nat => base ≤ q) s.heap H locs → lv_has ls 4 [(1, .ref a1), (2, .int x2)] → iv 0 1 w20_0 → W p l e (headSpec (Cond.code yX12_grows cX12_grows 4 none :: sg_tbl) ({ frames := 35, cells := 0, slots := 0, locals := 819 })).room s m #[.ref a0, .ref a1, .int x2] below meth c H locs 0 0 (MQ below (va_Qv (fun (_ : Unit) => True) (fun _ => sgB (KT P) D vwCl base tys ad ks) (fun q : Nat => base ≤ q)) #[.ref a0, .ref a1, .int x2] s 0 0 (fun q : Nat => base ≤ q)) (F0 m 76 ls [.int w20_0, .int f18, .int 7, .ref a1]) := by
        intro locs ls w20_0 hS hl hw20_0
        refine lv_iadd X.1 X.2.1 dX12_grows_76 ?_
        refine lv_topi (fun f21 ef21 => ?_)
        refine as_54 X hK hG hS h1 (iv_vpin (iv_c 7 (a := 7) (b := 7) (by decide +kernel)) (by decide +kernel)) (sg_nw_ne (sg_nei0 (iv_c 7 (a := 7) (b := 7) (by decide +kernel)) (by decide +kernel)) (sg_at_now (a := (-2147483648)) (b := 2147483647) (iv_c 7 (a := 7) (b := 7) (by decide +kernel)) (by decide +kernel) rfl (iv_top f21))) dX12_grows_77 (fun H locs hG hS ru22 => ?_)
        refine lv_aload_n X.1 X.2.1 dX12_grows_78 rfl (lv_at hl 0 rfl) ?_
        refine lv_iconst (v := 0) X.1 X.2.1 dX12_grows_79 (by decide +kernel) ?_
        refine lv_iload_n X.1 X.2.1 dX12_grows_80 rfl (lv_at hl 1 rfl) ?_
        refine lv_iconst (v := 0) X.1 X.2.1 dX12_grows_81 (by decide +kernel) ?_
        refine lv_iconst (v := 0) X.1 X.2.1 dX12_grows_82 (by decide +kernel) ?_
        refine ca_X12_writes_n X hK hG hC hS hb a1 h1 0 x2 0 0 wl_8_110 hl.1 (rest := []) rfl (Nat.le_of_ble_eq_true rfl) ⟨Nat.le_of_ble_eq_true rfl, Nat.le_of_ble_eq_true rfl⟩ ⟨Nat.le_of_ble_eq_true rfl, Nat.le_of_ble_eq_true rfl⟩ dX12_grows_83 (fun H locs hG hS => ?_)
        exact sg_vret X hr hlk hb hK hC hG hS dX12_grows_86
      have B24_75 : ∀ (locs : List Loc) (ls : Array Slot), va_S (fun q : Nat => base ≤ q) s.heap H locs → lv_has ls 4 [(1, .ref a1), (2, .int x2)] → W p l e (headSpec (Cond.code yX12_grows cX12_grows 4 none :: sg_tbl) ({ frames := 35, cells := 0, slots := 0, locals := 819 })).room s m #[.ref a0, .ref a1, .int x2] below meth c H locs 0 0 (MQ below (va_Qv (fun (_ : Unit) => True) (fun _ => sgB (KT P) D vwCl base tys ad ks) (fun q : Nat => base ≤ q)) #[.ref a0, .ref a1, .int x2] s 0 0 (fun q : Nat => base ≤ q)) (F0 m 75 ls [.int f18, .int 7, .ref a1]) := by
        intro locs ls hS hl
        refine lv_iconst (v := 0) X.1 X.2.1 dX12_grows_75 (by decide +kernel) ?_
        exact B20_76 _ _ 0 hS (lv_sub hl [0, 1] rfl) (iv_of (iv_c 0 (a := 0) (b := 0) (by decide +kernel)) (a' := 0) (b' := 1) (by decide +kernel))
      refine lv_if_eq (tgt := 75) X.1 X.2.1 dX12_grows_62 (by decide) (fun c19 => ?_) (fun c19 => ?_)
      · exact B24_75 _ _ hS (lv_sub hl [0, 1] rfl)
      · refine lv_aload_n X.1 X.2.1 dX12_grows_65 rfl (lv_at hl 0 rfl) ?_
        refine lv_iconst (v := 3) X.1 X.2.1 dX12_grows_66 (by decide +kernel) ?_
        refine al_54 X hK hG h1 (iv_vpin (iv_c 3 (a := 3) (b := 3) (by decide +kernel)) (by decide +kernel)) dX12_grows_67 (fun f25 hf25 => ?_)
        have hf25 := sg_nw_now hf25
        have of25 := hf25
        have hf25 : iv (-2147483648) 2147483647 f25 := sg_sp_now hf25 (iv_c 3 (a := 3) (b := 3) (by decide +kernel)) (by decide +kernel) rfl
        refine lv_if_ne (tgt := 75) X.1 X.2.1 dX12_grows_68 (by decide) (fun c26 => ?_) (fun c26 => ?_)
        · exact B24_75 _ _ hS (lv_sub hl [0, 1] rfl)
        · refine lv_iconst (v := 1) X.1 X.2.1 dX12_grows_71 (by decide +kernel) ?_
          refine lv_goto (tgt := 76) X.1 X.2.1 dX12_grows_72 (by decide) ?_
          exact B20_76 _ _ 1 hS (lv_sub hl [0, 1] rfl) (iv_of (iv_c 1 (a := 1) (b := 1) (by decide +kernel)) (a' := 0) (b' := 1) (by decide +kernel))
    refine lv_if_eq (tgt := 54) X.1 X.2.1 dX12_grows_47 (by decide) (fun c15 => ?_) (fun c15 => ?_)
    · refine lv_iconst (v := 0) X.1 X.2.1 dX12_grows_54 (by decide +kernel) ?_
      exact B16_55 _ _ 0 hS (lv_sub hl [2, 3, 0] rfl) (iv_of (iv_c 0 (a := 0) (b := 0) (by decide +kernel)) (a' := 0) (b' := 1) (by decide +kernel))
    · refine lv_iconst (v := 1) X.1 X.2.1 dX12_grows_50 (by decide +kernel) ?_
      refine lv_goto (tgt := 55) X.1 X.2.1 dX12_grows_51 (by decide) ?_
      exact B16_55 _ _ 1 hS (lv_sub hl [2, 3, 0] rfl) (iv_of (iv_c 1 (a := 1) (b := 1) (by decide +kernel)) (a' := 0) (b' := 1) (by decide +kernel))
  refine lv_if_eq (tgt := 20) X.1 X.2.1 dX12_grows_13 (by decide) (fun c5 => ?_) (fun c5 => ?_)
  · refine lv_iconst (v := 0) X.1 X.2.1 dX12_grows_20 (by decide +kernel) ?_
    exact B6_21 _ _ 0 hS (lv_sub hl [0, 1, 2] rfl) (iv_of (iv_c 0 (a := 0) (b := 0) (by decide +kernel)) (a' := 0) (b' := 1) (by decide +kernel))
  · refine lv_iconst (v := 1) X.1 X.2.1 dX12_grows_16 (by decide +kernel) ?_
    refine lv_goto (tgt := 21) X.1 X.2.1 dX12_grows_17 (by decide) ?_
    exact B6_21 _ _ 1 hS (lv_sub hl [0, 1, 2] rfl) (iv_of (iv_c 1 (a := 1) (b := 1) (by decide +kernel)) (a' := 0) (b' := 1) (by decide +kernel))

theorem ca_X12_grows_1   (X : CallFix p m c cc nL s args sg_tbl own) (hK : va_K D vwCl tys s) (hG : sgG (KT P) D vwCl (fun q : Nat => base ≤ q) tys ad ks H) (hC : sgC base s) (hS : va_S (fun q : Nat => base ≤ q) s.heap H locs) (hb : base ≤ s.heap.size) (hp4 : P.2.2.2.2.1 = true) (hp10 : sgPin P = none) (a0 : Nat) (h0 : isK ad ks 12 a0) (a1 : Nat) (h1 : isK ad ks 54 a1) (x2 : Int32) (hl : Cond.methodLink own index yX12_grows ∈ sg_tbl) (hsize : ls.size = nL) (hst : st0 = [.ref a1, .int x2].reverse ++ .ref a0 :: rest) (hW : (rest.map fun v => v.category).sum ≤ 8) (hR : 36 ≤ R.frames ∧ 842 ≤ R.locals) (hf : cells ≤ R.cells ∧ slots ≤ R.slots) (hdg : decode cc pc = .ok (.invokevirtual index, 3)) (kk : ∀ (H1 : Heap) (locs1 : List Loc), sgG (KT P) D vwCl (fun q : Nat => base ≤ q) tys ad ks H1 → va_S (fun q : Nat => base ≤ q) s.heap H1 locs1 → W p l e R s m args below meth c H1 locs1 cells slots Q (F0 m (pc + 3) ls rest)) : W p l e R s m args below meth c H locs cells slots Q (F0 m pc ls st0) :=
  sg_callVv X hK hG hC hS hb (m_X12_grows_1 l hp4 hp10 a0 h0 a1 h1 x2) h0 (k := 12) (ci := 12) rfl (C := RX12) (T := TX12) (N := 53) rfl wl_8_105 wl_1_13 wl_8_104 wl_0_79 (n := 2) (by decide +kernel) rfl rfl rfl hl hsize hst hW hR hf hdg kk

set_option maxHeartbeats 8000000 in
set_option maxRecDepth 100000 in
theorem m_X12_mows_1 (l : Launch) {D : va_G} {base : Nat} {tys : List (ClassId × FieldType)} {ad ks : List Nat} {P : sgPm} (hp4 : P.2.2.2.2.1 = true) (hp10 : sgPin P = none) (a0 : Nat) (h0 : isK ad ks 12 a0) (a1 : Nat) (h1 : isK ad ks 54 a1) (x2 : Int32) (x3 : Int32) (x4 : Int32) (hN : sgN P + 1 ≤ 1000000000) : Met l yX12_mows (Cond.code yX12_mows cX12_mows 5 none :: sg_tbl) ({ frames := 3, cells := 0, slots := 0, locals := 75 }) (va_Pc [.ref a0, .ref a1, .int x2, .int x3, .int x4] (sgB (KT P) D vwCl base tys ad ks)) (va_Qv (fun (_ : Unit) => True) (fun _ => sgB (KT (sgAt P (sgN P + 1))) D vwCl base tys ad ks) (fun q : Nat => base ≤ q)) 0 0 (fun q : Nat => base ≤ q) := by
  refine sg_ofW (by decide +kernel) (Nat.le_of_ble_eq_true rfl) (fun p e s m below meth c X hr hlk hb hK hC hG ls hl => ?_)
  have hS : va_S (fun q : Nat => base ≤ q) s.heap s.heap [] := va_S.rf
  have hl : lv_has ls 5 [(0, .ref a0), (1, .ref a1), (2, .int x2), (3, .int x3), (4, .int x4)] := hl
  refine lv_aload_n X.1 X.2.1 dX12_mows_0 rfl (lv_at hl 1 rfl) ?_
  refine lv_iconst (v := 0) X.1 X.2.1 dX12_mows_1 (by decide +kernel) ?_
  refine lv_dup2_11 X.1 X.2.1 dX12_mows_2 rfl rfl ?_
  refine al_54 X hK hG h1 (iv_vpin (iv_c 0 (a := 0) (b := 0) (by decide +kernel)) (by decide +kernel)) dX12_mows_3 (fun f1 hf1 => ?_)
  have hf1 := sg_nw_now hf1
  have of1 := hf1
  have hf1 : iv (-2147483648) 2147483647 f1 := sg_sp_now hf1 (iv_c 0 (a := 0) (b := 0) (by decide +kernel)) (by decide +kernel) rfl
  refine lv_aload_n X.1 X.2.1 dX12_mows_4 rfl (lv_at hl 0 rfl) ?_
  refine lv_aload_n X.1 X.2.1 dX12_mows_5 rfl (lv_at hl 1 rfl) ?_
  refine lv_iconst (v := 0) X.1 X.2.1 dX12_mows_6 (by decide +kernel) ?_
  refine al_54 X hK hG h1 (iv_vpin (iv_c 0 (a := 0) (b := 0) (by decide +kernel)) (by decide +kernel)) dX12_mows_7 (fun f2 hf2 => ?_)
  have hf2 := sg_nw_now hf2
  have of2 := hf2
  have hf2 : iv (-2147483648) 2147483647 f2 := sg_sp_now hf2 (iv_c 0 (a := 0) (b := 0) (by decide +kernel)) (by decide +kernel) rfl
  refine lv_iload_n X.1 X.2.1 dX12_mows_8 rfl (lv_at hl 2 rfl) ?_
  refine lv_iload_n X.1 X.2.1 dX12_mows_9 rfl (lv_at hl 3 rfl) ?_
  refine lv_iload X.1 X.2.1 dX12_mows_10 (lv_at hl 4 rfl) ?_
  refine ca_X12_cutBits_1 X hK hG hC (fun _ h => h) hS hb hp4 a0 h0 f2 x2 x3 x4 wl_8_121 hl.1 (rest := [.int f1, .int 0, .ref a1]) rfl (Nat.le_of_ble_eq_true rfl) ⟨Nat.le_of_ble_eq_true rfl, Nat.le_of_ble_eq_true rfl⟩ ⟨Nat.le_of_ble_eq_true rfl, Nat.le_of_ble_eq_true rfl⟩ dX12_mows_12 (fun f3 locs hf3 hS => ?_)
  refine lv_iconst (v := (-1)) X.1 X.2.1 dX12_mows_15 (by decide +kernel) ?_
  refine lv_ixor X.1 X.2.1 dX12_mows_16 ?_
  refine lv_topi (fun f4 ef4 => ?_)
  refine lv_iand X.1 X.2.1 dX12_mows_17 ?_
  refine lv_topi (fun f5 ef5 => ?_)
  refine as_54 X hK hG hS h1 (iv_vpin (iv_c 0 (a := 0) (b := 0) (by decide +kernel)) (by decide +kernel)) (sg_nw_none hp10 (sg_at_now (a := (-2147483648)) (b := 2147483647) (iv_c 0 (a := 0) (b := 0) (by decide +kernel)) (by decide +kernel) rfl (iv_top f5))) dX12_mows_18 (fun H locs hG hS ru6 => ?_)
  refine lv_aload_n X.1 X.2.1 dX12_mows_19 rfl (lv_at hl 1 rfl) ?_
  refine lv_iconst (v := 2) X.1 X.2.1 dX12_mows_20 (by decide +kernel) ?_
  refine lv_iconst (v := 0) X.1 X.2.1 dX12_mows_21 (by decide +kernel) ?_
  refine as_54 X hK hG hS h1 (iv_vpin (iv_c 2 (a := 2) (b := 2) (by decide +kernel)) (by decide +kernel)) (sg_nw_ne (sg_nei0 (iv_c 2 (a := 2) (b := 2) (by decide +kernel)) (by decide +kernel)) (sg_at_now (a := 0) (b := 1) (iv_c 2 (a := 2) (b := 2) (by decide +kernel)) (by decide +kernel) rfl (iv_of (iv_c 0 (a := 0) (b := 0) (by decide +kernel)) (a' := 0) (b' := 1) (by decide +kernel)))) dX12_mows_22 (fun H locs hG hS ru7 => ?_)
  refine lv_aload_n X.1 X.2.1 dX12_mows_23 rfl (lv_at hl 1 rfl) ?_
  refine lv_iconst (v := 4) X.1 X.2.1 dX12_mows_24 (by decide +kernel) ?_
  refine lv_dup2_11 X.1 X.2.1 dX12_mows_25 rfl rfl ?_
  refine al_54 X hK hG h1 (iv_vpin (iv_c 4 (a := 4) (b := 4) (by decide +kernel)) (by decide +kernel)) dX12_mows_26 (fun f8 hf8 => ?_)
  have hf8 := sg_nw_now hf8
  have of8 := hf8
  have hf8 : iv 0 1000000000 f8 := sg_day hf8 (iv_c 4 (a := 4) (b := 4) (by decide +kernel))
  refine lv_iconst (v := 1) X.1 X.2.1 dX12_mows_27 (by decide +kernel) ?_
  refine lv_iadd X.1 X.2.1 dX12_mows_28 ?_
  refine lv_topi (fun f9 ef9 => ?_)
  have hG : sgG (KT (sgAt P ((sgN P) + 1))) D vwCl _ tys ad ks _ := sg_moreN (P := P) (show (sgN P) ≤ ((sgN P) + 1) from by omega) hG
  refine as_54 X hK hG hS h1 (iv_vpin (iv_c 4 (a := 4) (b := 4) (by decide +kernel)) (by decide +kernel)) (sg_nw_ne (sg_nei0 (iv_c 4 (a := 4) (b := 4) (by decide +kernel)) (by decide +kernel)) (sg_dayup (N := (sgN P)) (n' := ((sgN P) + 1)) of8 (iv_c 4 (a := 4) (b := 4) (by decide +kernel)) (iv_c 4 (a := 4) (b := 4) (by decide +kernel)) (iv_of (iv_c 1 (a := 1) (b := 1) (by decide +kernel)) (a' := 0) (b' := 1) (by decide +kernel)) ef9 (by omega) (by omega))) dX12_mows_29 (fun H locs hG hS ru10 => ?_)
  refine lv_aload_n X.1 X.2.1 dX12_mows_30 rfl (lv_at hl 1 rfl) ?_
  refine lv_iconst (v := 1) X.1 X.2.1 dX12_mows_31 (by decide +kernel) ?_
  refine lv_iload_n X.1 X.2.1 dX12_mows_32 rfl (lv_at hl 2 rfl) ?_
  refine lv_iload X.1 X.2.1 dX12_mows_33 (lv_at hl 4 rfl) ?_
  refine lv_iconst (v := 1) X.1 X.2.1 dX12_mows_35 (by decide +kernel) ?_
  have B12_44 : ∀ (locs : List Loc) (ls : Array Slot) (w12_0 : Int32), va_S (fun q : Nat => base ≤ q) s.heap H locs → lv_has ls 5 [(4, .int x4)] → W p l e (headSpec (Cond.code yX12_mows cX12_mows 5 none :: sg_tbl) ({ frames := 3, cells := 0, slots := 0, locals := 75 })).room s m #[.ref a0, .ref a1, .int x2, .int x3, .int x4] below meth c H locs 0 0 (MQ below (va_Qv (fun (_ : Unit) => True) (fun _ => sgB (KT (sgAt P (sgN P + 1))) D vwCl base tys ad ks) (fun q : Nat => base ≤ q)) #[.ref a0, .ref a1, .int x2, .int x3, .int x4] s 0 0 (fun q : Nat => base ≤ q)) (F0 m 44 ls [.int w12_0, .int x2, .int 1, .ref a1]) := by
    intro locs ls w12_0 hS hl
    refine lv_iload X.1 X.2.1 dX12_mows_44 (lv_at hl 0 rfl) ?_
    refine ca_X12_writes_n X hK hG hC hS hb a1 h1 1 x2 w12_0 x4 wl_8_110 hl.1 (rest := []) rfl (Nat.le_of_ble_eq_true rfl) ⟨Nat.le_of_ble_eq_true rfl, Nat.le_of_ble_eq_true rfl⟩ ⟨Nat.le_of_ble_eq_true rfl, Nat.le_of_ble_eq_true rfl⟩ dX12_mows_46 (fun H locs hG hS => ?_)
    have hG : sgG (KT (sgAt P (sgN P + 1))) D vwCl _ tys ad ks _ := sg_moreN (P := (sgAt P ((sgN P) + 1))) (show ((sgN P) + 1) ≤ (sgN P + 1) from by omega) hG
    exact sg_vret2 X hr hlk hS (fun t ht hW => sg_post hb hK hC hG hS ht hW) dX12_mows_49
  refine lv_icmp_ne (tgt := 43) X.1 X.2.1 dX12_mows_36 (by decide) (fun c11 => ?_) (fun c11 => ?_)
  · refine lv_iload_n X.1 X.2.1 dX12_mows_43 rfl (lv_at hl 3 rfl) ?_
    exact B12_44 _ _ x3 hS (lv_sub hl [4] rfl)
  · refine lv_iconst (v := 0) X.1 X.2.1 dX12_mows_39 (by decide +kernel) ?_
    refine lv_goto (tgt := 44) X.1 X.2.1 dX12_mows_40 (by decide) ?_
    exact B12_44 _ _ 0 hS (lv_sub hl [4] rfl)

theorem ca_X12_mows_1   (X : CallFix p m c cc nL s args sg_tbl own) (hK : va_K D vwCl tys s) (hG : sgG (KT P) D vwCl (fun q : Nat => base ≤ q) tys ad ks H) (hC : sgC base s) (hS : va_S (fun q : Nat => base ≤ q) s.heap H locs) (hb : base ≤ s.heap.size) (hp4 : P.2.2.2.2.1 = true) (hp10 : sgPin P = none) (a0 : Nat) (h0 : isK ad ks 12 a0) (a1 : Nat) (h1 : isK ad ks 54 a1) (x2 : Int32) (x3 : Int32) (x4 : Int32) (hN : sgN P + 1 ≤ 1000000000) (hl : Cond.methodLink own index yX12_mows ∈ sg_tbl) (hsize : ls.size = nL) (hst : st0 = [.ref a1, .int x2, .int x3, .int x4].reverse ++ .ref a0 :: rest) (hW : (rest.map fun v => v.category).sum ≤ 8) (hR : 4 ≤ R.frames ∧ 99 ≤ R.locals) (hf : cells ≤ R.cells ∧ slots ≤ R.slots) (hdg : decode cc pc = .ok (.invokevirtual index, 3)) (kk : ∀ (t : State) (H1 : Heap) (locs1 : List Loc), t.heap = H1 → (sgB (KT (sgAt P (sgN P + 1))) D vwCl base tys ad ks t) → va_S (fun q : Nat => base ≤ q) s.heap H1 locs1 → W p l e R s m args below meth c H1 locs1 cells slots Q (F0 m (pc + 3) ls rest)) : W p l e R s m args below meth c H locs cells slots Q (F0 m pc ls st0) :=
  sg_callV2v X hK hG hC hS hb (m_X12_mows_1 l hp4 hp10 a0 h0 a1 h1 x2 x3 x4 hN) h0 (k := 12) (ci := 12) rfl (C := RX12) (T := TX12) (N := 53) rfl wl_8_128 wl_1_13 wl_8_127 wl_0_83 (n := 4) (by decide +kernel) rfl rfl rfl hl hsize hst hW hR hf hdg kk

set_option maxHeartbeats 8000000 in
set_option maxRecDepth 100000 in
theorem m_X12_sits_1 (l : Launch) {D : va_G} {base : Nat} {tys : List (ClassId × FieldType)} {ad ks : List Nat} {P : sgPm} (a0 : Nat) (h0 : isK ad ks 54 a0) (hN : sgN P + 1 ≤ 1000000000) : Met l yX12_sits (Cond.code yX12_sits cX12_sits 2 (some .int) :: sg_tbl) ({ frames := 1, cells := 0, slots := 0, locals := 25 }) (va_Pc [.ref a0] (sgB (KT P) D vwCl base tys ad ks)) (va_Qi (fun r (u : Int32) => u = r ∧ (fun r : Int32 => True) r) (fun u t => sgB (KT (sgAt P (sgN P + 1))) D vwCl base tys ad ks t) (fun q : Nat => base ≤ q)) 0 0 (fun q : Nat => base ≤ q) := by
  refine sg_ofW (by decide +kernel) (Nat.le_of_ble_eq_true rfl) (fun p e s m below meth c X hr hlk hb hK hC hG ls hl => ?_)
  have hS : va_S (fun q : Nat => base ≤ q) s.heap s.heap [] := va_S.rf
  have hl : lv_has ls 2 [(0, .ref a0)] := hl
  refine lv_aload_n X.1 X.2.1 dX12_sits_0 rfl (lv_at hl 0 rfl) ?_
  refine lv_iconst (v := 2) X.1 X.2.1 dX12_sits_1 (by decide +kernel) ?_
  refine al_54 X hK hG h0 (iv_vpin (iv_c 2 (a := 2) (b := 2) (by decide +kernel)) (by decide +kernel)) dX12_sits_2 (fun f1 hf1 => ?_)
  have hf1 := sg_nw_now hf1
  have of1 := hf1
  have hf1 : iv 0 1 f1 := sg_sp_now hf1 (iv_c 2 (a := 2) (b := 2) (by decide +kernel)) (by decide +kernel) rfl
  refine lv_istore_n (lv' := [(1, .int f1), (0, .ref a0)]) X.1 X.2.1 dX12_sits_3 rfl hl (by decide) rfl (fun ls hl => ?_)
  refine lv_aload_n X.1 X.2.1 dX12_sits_4 rfl (lv_at hl 1 rfl) ?_
  refine lv_iconst (v := 5) X.1 X.2.1 dX12_sits_5 (by decide +kernel) ?_
  refine lv_iload_n X.1 X.2.1 dX12_sits_6 rfl (lv_at hl 0 rfl) ?_
  refine lv_iadd X.1 X.2.1 dX12_sits_7 ?_
  refine lv_topi (fun f2 ef2 => ?_)
  refine lv_dup2_11 X.1 X.2.1 dX12_sits_8 rfl rfl ?_
  refine al_54 X hK hG h0 (iv_vpin (iv_add (a' := 5) (b' := 6) ef2 (iv_c 5 (a := 5) (b := 5) (by decide +kernel)) hf1 (by decide +kernel)) (by decide +kernel)) dX12_sits_9 (fun f3 hf3 => ?_)
  have hf3 := sg_nw_now hf3
  have of3 := hf3
  have hf3 : iv (-2147483648) 2147483647 f3 := sg_spa_now hf3
  refine lv_iconst (v := 1) X.1 X.2.1 dX12_sits_10 (by decide +kernel) ?_
  refine lv_iadd X.1 X.2.1 dX12_sits_11 ?_
  refine lv_topi (fun f4 ef4 => ?_)
  refine as_54 X hK hG hS h0 (iv_vpin (iv_add (a' := 5) (b' := 6) ef2 (iv_c 5 (a := 5) (b := 5) (by decide +kernel)) hf1 (by decide +kernel)) (by decide +kernel)) (sg_nw_ne (sg_nei0 (iv_add (a' := 5) (b' := 6) ef2 (iv_c 5 (a := 5) (b := 5) (by decide +kernel)) hf1 (by decide +kernel)) (by decide +kernel)) (sg_off_now (iv_add (a' := 5) (b' := 6) ef2 (iv_c 5 (a := 5) (b := 5) (by decide +kernel)) hf1 (by decide +kernel)) (by decide +kernel))) dX12_sits_12 (fun H locs hG hS ru5 => ?_)
  refine lv_aload_n X.1 X.2.1 dX12_sits_13 rfl (lv_at hl 1 rfl) ?_
  refine lv_iconst (v := 4) X.1 X.2.1 dX12_sits_14 (by decide +kernel) ?_
  refine lv_dup2_11 X.1 X.2.1 dX12_sits_15 rfl rfl ?_
  refine al_54 X hK hG h0 (iv_vpin (iv_c 4 (a := 4) (b := 4) (by decide +kernel)) (by decide +kernel)) dX12_sits_16 (fun f6 hf6 => ?_)
  have hf6 := sg_nw_now hf6
  have of6 := hf6
  have hf6 : iv 0 1000000000 f6 := sg_day hf6 (iv_c 4 (a := 4) (b := 4) (by decide +kernel))
  refine lv_iload_n X.1 X.2.1 dX12_sits_17 rfl (lv_at hl 0 rfl) ?_
  refine lv_iadd X.1 X.2.1 dX12_sits_18 ?_
  refine lv_topi (fun f7 ef7 => ?_)
  have hG : sgG (KT (sgAt P ((sgN P) + 1))) D vwCl _ tys ad ks _ := sg_moreN (P := P) (show (sgN P) ≤ ((sgN P) + 1) from by omega) hG
  refine as_54 X hK hG hS h0 (iv_vpin (iv_c 4 (a := 4) (b := 4) (by decide +kernel)) (by decide +kernel)) (sg_nw_ne (sg_nei0 (iv_c 4 (a := 4) (b := 4) (by decide +kernel)) (by decide +kernel)) (sg_dayup (N := (sgN P)) (n' := ((sgN P) + 1)) of6 (iv_c 4 (a := 4) (b := 4) (by decide +kernel)) (iv_c 4 (a := 4) (b := 4) (by decide +kernel)) hf1 ef7 (by omega) (by omega))) dX12_sits_19 (fun H locs hG hS ru8 => ?_)
  refine lv_aload_n X.1 X.2.1 dX12_sits_20 rfl (lv_at hl 1 rfl) ?_
  refine lv_iconst (v := 2) X.1 X.2.1 dX12_sits_21 (by decide +kernel) ?_
  refine lv_iconst (v := 1) X.1 X.2.1 dX12_sits_22 (by decide +kernel) ?_
  refine lv_iload_n X.1 X.2.1 dX12_sits_23 rfl (lv_at hl 0 rfl) ?_
  refine lv_isub X.1 X.2.1 dX12_sits_24 ?_
  refine lv_topi (fun f9 ef9 => ?_)
  refine as_54 X hK hG hS h0 (iv_vpin (iv_c 2 (a := 2) (b := 2) (by decide +kernel)) (by decide +kernel)) (sg_nw_ne (sg_nei0 (iv_c 2 (a := 2) (b := 2) (by decide +kernel)) (by decide +kernel)) (sg_at_now (a := 0) (b := 1) (iv_c 2 (a := 2) (b := 2) (by decide +kernel)) (by decide +kernel) rfl (iv_sub (a' := 0) (b' := 1) ef9 (iv_c 1 (a := 1) (b := 1) (by decide +kernel)) hf1 (by decide +kernel)))) dX12_sits_25 (fun H locs hG hS ru10 => ?_)
  refine lv_aload_n X.1 X.2.1 dX12_sits_26 rfl (lv_at hl 1 rfl) ?_
  refine lv_iconst (v := 3) X.1 X.2.1 dX12_sits_27 (by decide +kernel) ?_
  refine lv_iconst (v := (-1)) X.1 X.2.1 dX12_sits_28 (by decide +kernel) ?_
  refine lv_iconst (v := 0) X.1 X.2.1 dX12_sits_29 (by decide +kernel) ?_
  refine lv_iconst (v := 0) X.1 X.2.1 dX12_sits_30 (by decide +kernel) ?_
  refine ca_X12_writes_n X hK hG hC hS hb a0 h0 3 (-1) 0 0 wl_8_110 hl.1 (rest := []) rfl (Nat.le_of_ble_eq_true rfl) ⟨Nat.le_of_ble_eq_true rfl, Nat.le_of_ble_eq_true rfl⟩ ⟨Nat.le_of_ble_eq_true rfl, Nat.le_of_ble_eq_true rfl⟩ dX12_sits_31 (fun H locs hG hS => ?_)
  refine lv_aload_n X.1 X.2.1 dX12_sits_34 rfl (lv_at hl 1 rfl) ?_
  refine lv_iconst (v := 5) X.1 X.2.1 dX12_sits_35 (by decide +kernel) ?_
  refine lv_iload_n X.1 X.2.1 dX12_sits_36 rfl (lv_at hl 0 rfl) ?_
  refine lv_iadd X.1 X.2.1 dX12_sits_37 ?_
  refine lv_topi (fun f12 ef12 => ?_)
  refine al_54 X hK hG h0 (iv_vpin (iv_add (a' := 5) (b' := 6) ef12 (iv_c 5 (a := 5) (b := 5) (by decide +kernel)) hf1 (by decide +kernel)) (by decide +kernel)) dX12_sits_38 (fun f13 hf13 => ?_)
  have hf13 := sg_nw_now hf13
  have of13 := hf13
  have hf13 : iv (-2147483648) 2147483647 f13 := sg_spa_now hf13
  have bq14 : 0 ≤ f1.toInt ∧ f1.toInt ≤ 1 := hf1
  have hG : sgG (KT (sgAt P (sgN P + 1))) D vwCl _ tys ad ks _ := sg_moreN (P := (sgAt P ((sgN P) + 1))) (show ((sgN P) + 1) ≤ (sgN P + 1) from by omega) hG
  exact sg_iret2 X hr hlk hS trivial (fun t ht hW => sg_post hb hK hC hG hS ht hW) dX12_sits_39

theorem ca_X12_sits_1   (X : CallFix p m c cc nL s args sg_tbl own) (hK : va_K D vwCl tys s) (hG : sgG (KT P) D vwCl (fun q : Nat => base ≤ q) tys ad ks H) (hC : sgC base s) (hS : va_S (fun q : Nat => base ≤ q) s.heap H locs) (hb : base ≤ s.heap.size) (a0 : Nat) (h0 : isK ad ks 54 a0) (hN : sgN P + 1 ≤ 1000000000) (hl : Cond.methodLink own index yX12_sits ∈ sg_tbl) (hsize : ls.size = nL) (hst : st0 = [.ref a0].reverse ++ rest) (hW : (rest.map fun v => v.category).sum ≤ 8) (hR : 2 ≤ R.frames ∧ 46 ≤ R.locals) (hf : cells ≤ R.cells ∧ slots ≤ R.slots) (hdg : decode cc pc = .ok (.invokestatic index, 3)) (kk : ∀ (r : Int32) (t : State) (H1 : Heap) (locs1 : List Loc), t.heap = H1 → (fun r : Int32 => True) r → (sgB (KT (sgAt P (sgN P + 1))) D vwCl base tys ad ks t) → va_S (fun q : Nat => base ≤ q) s.heap H1 locs1 → W p l e R s m args below meth c H1 locs1 cells slots Q (F0 m (pc + 3) ls (.int r :: rest))) : W p l e R s m args below meth c H locs cells slots Q (F0 m pc ls st0) :=
  sg_callS2i X hK hG hC hS hb (m_X12_sits_1 l a0 h0 hN) wl_8_135 wl_1_13 wl_8_134 (n := 1) (by decide +kernel) rfl rfl rfl hl hsize hst hW hR hf hdg kk

set_option maxHeartbeats 8000000 in
set_option maxRecDepth 100000 in
theorem m_X12_digs_1 (l : Launch) {D : va_G} {base : Nat} {tys : List (ClassId × FieldType)} {ad ks : List Nat} {P : sgPm} (hp10 : sgPin P = none) (a0 : Nat) (h0 : isK ad ks 54 a0) (x1 : Int32) : sgMv l (KT P) D vwCl base tys ad ks yX12_digs cX12_digs 2 none ({ frames := 1, cells := 0, slots := 0, locals := 25 }) [.ref a0, .int x1] := by
  refine sg_ofW (by decide +kernel) (Nat.le_of_ble_eq_true rfl) (fun p e s m below meth c X hr hlk hb hK hC hG ls hl => ?_)
  have hS : va_S (fun q : Nat => base ≤ q) s.heap s.heap [] := va_S.rf
  have hl : lv_has ls 2 [(0, .ref a0), (1, .int x1)] := hl
  refine lv_aload_n X.1 X.2.1 dX12_digs_0 rfl (lv_at hl 0 rfl) ?_
  refine lv_iconst (v := 1) X.1 X.2.1 dX12_digs_1 (by decide +kernel) ?_
  refine lv_dup2_11 X.1 X.2.1 dX12_digs_2 rfl rfl ?_
  refine al_54 X hK hG h0 (iv_vpin (iv_c 1 (a := 1) (b := 1) (by decide +kernel)) (by decide +kernel)) dX12_digs_3 (fun f1 hf1 => ?_)
  have hf1 := sg_nw_now hf1
  have of1 := hf1
  have hf1 : iv (-2147483648) 2147483647 f1 := sg_sp_now hf1 (iv_c 1 (a := 1) (b := 1) (by decide +kernel)) (by decide +kernel) rfl
  refine lv_iconst (v := 1) X.1 X.2.1 dX12_digs_4 (by decide +kernel) ?_
  refine lv_iload_n X.1 X.2.1 dX12_digs_5 rfl (lv_at hl 1 rfl) ?_
  refine lv_ishl X.1 X.2.1 dX12_digs_6 ?_
  refine lv_topi (fun f2 ef2 => ?_)
  refine lv_ior X.1 X.2.1 dX12_digs_7 ?_
  refine lv_topi (fun f3 ef3 => ?_)
  refine as_54 X hK hG hS h0 (iv_vpin (iv_c 1 (a := 1) (b := 1) (by decide +kernel)) (by decide +kernel)) (sg_nw_ne (sg_nei0 (iv_c 1 (a := 1) (b := 1) (by decide +kernel)) (by decide +kernel)) (sg_at_now (a := (-2147483648)) (b := 2147483647) (iv_c 1 (a := 1) (b := 1) (by decide +kernel)) (by decide +kernel) rfl (iv_top f3))) dX12_digs_8 (fun H locs hG hS ru4 => ?_)
  refine lv_aload_n X.1 X.2.1 dX12_digs_9 rfl (lv_at hl 0 rfl) ?_
  refine lv_iconst (v := 0) X.1 X.2.1 dX12_digs_10 (by decide +kernel) ?_
  refine lv_dup2_11 X.1 X.2.1 dX12_digs_11 rfl rfl ?_
  refine al_54 X hK hG h0 (iv_vpin (iv_c 0 (a := 0) (b := 0) (by decide +kernel)) (by decide +kernel)) dX12_digs_12 (fun f5 hf5 => ?_)
  have hf5 := sg_nw_now hf5
  have of5 := hf5
  have hf5 : iv (-2147483648) 2147483647 f5 := sg_sp_now hf5 (iv_c 0 (a := 0) (b := 0) (by decide +kernel)) (by decide +kernel) rfl
  refine lv_iconst (v := 1) X.1 X.2.1 dX12_digs_13 (by decide +kernel) ?_
  refine lv_iload_n X.1 X.2.1 dX12_digs_14 rfl (lv_at hl 1 rfl) ?_
  refine lv_ishl X.1 X.2.1 dX12_digs_15 ?_
  refine lv_topi (fun f6 ef6 => ?_)
  refine lv_iconst (v := (-1)) X.1 X.2.1 dX12_digs_16 (by decide +kernel) ?_
  refine lv_ixor X.1 X.2.1 dX12_digs_17 ?_
  refine lv_topi (fun f7 ef7 => ?_)
  refine lv_iand X.1 X.2.1 dX12_digs_18 ?_
  refine lv_topi (fun f8 ef8 => ?_)
  refine as_54 X hK hG hS h0 (iv_vpin (iv_c 0 (a := 0) (b := 0) (by decide +kernel)) (by decide +kernel)) (sg_nw_none hp10 (sg_at_now (a := (-2147483648)) (b := 2147483647) (iv_c 0 (a := 0) (b := 0) (by decide +kernel)) (by decide +kernel) rfl (iv_top f8))) dX12_digs_19 (fun H locs hG hS ru9 => ?_)
  refine lv_aload_n X.1 X.2.1 dX12_digs_20 rfl (lv_at hl 0 rfl) ?_
  refine lv_iconst (v := 2) X.1 X.2.1 dX12_digs_21 (by decide +kernel) ?_
  refine lv_iload_n X.1 X.2.1 dX12_digs_22 rfl (lv_at hl 1 rfl) ?_
  refine lv_iconst (v := 0) X.1 X.2.1 dX12_digs_23 (by decide +kernel) ?_
  refine lv_iconst (v := 0) X.1 X.2.1 dX12_digs_24 (by decide +kernel) ?_
  refine ca_X12_writes_n X hK hG hC hS hb a0 h0 2 x1 0 0 wl_8_110 hl.1 (rest := []) rfl (Nat.le_of_ble_eq_true rfl) ⟨Nat.le_of_ble_eq_true rfl, Nat.le_of_ble_eq_true rfl⟩ ⟨Nat.le_of_ble_eq_true rfl, Nat.le_of_ble_eq_true rfl⟩ dX12_digs_25 (fun H locs hG hS => ?_)
  exact sg_vret X hr hlk hb hK hC hG hS dX12_digs_28

theorem ca_X12_digs_1   (X : CallFix p m c cc nL s args sg_tbl own) (hK : va_K D vwCl tys s) (hG : sgG (KT P) D vwCl (fun q : Nat => base ≤ q) tys ad ks H) (hC : sgC base s) (hS : va_S (fun q : Nat => base ≤ q) s.heap H locs) (hb : base ≤ s.heap.size) (hp10 : sgPin P = none) (a0 : Nat) (h0 : isK ad ks 54 a0) (x1 : Int32) (hl : Cond.methodLink own index yX12_digs ∈ sg_tbl) (hsize : ls.size = nL) (hst : st0 = [.ref a0, .int x1].reverse ++ rest) (hW : (rest.map fun v => v.category).sum ≤ 8) (hR : 2 ≤ R.frames ∧ 46 ≤ R.locals) (hf : cells ≤ R.cells ∧ slots ≤ R.slots) (hdg : decode cc pc = .ok (.invokestatic index, 3)) (kk : ∀ (H1 : Heap) (locs1 : List Loc), sgG (KT P) D vwCl (fun q : Nat => base ≤ q) tys ad ks H1 → va_S (fun q : Nat => base ≤ q) s.heap H1 locs1 → W p l e R s m args below meth c H1 locs1 cells slots Q (F0 m (pc + 3) ls rest)) : W p l e R s m args below meth c H locs cells slots Q (F0 m pc ls st0) :=
  sg_callSv X hK hG hC hS hb (m_X12_digs_1 l hp10 a0 h0 x1) wl_8_146 wl_1_13 wl_8_145 (n := 2) (by decide +kernel) rfl rfl rfl hl hsize hst hW hR hf hdg kk

set_option maxHeartbeats 8000000 in
set_option maxRecDepth 100000 in
theorem m_X12_isOpen_1_t (l : Launch) {D : va_G} {base : Nat} {tys : List (ClassId × FieldType)} {ad ks : List Nat} {P : sgPm} {Hx : Heap} (hp4 : P.2.2.2.2.1 = true) (a0 : Nat) (h0 : isK ad ks 12 a0) (a1 : Nat) (h1 : isK ad ks 55 a1) : sgPi l (KT P) D vwCl base tys ad ks Hx yX12_isOpen cX12_isOpen 2 (some .boolean) ({ frames := 0, cells := 0, slots := 0, locals := 0 }) [.ref a0, .ref a1] (fun r : Int32 => iv 0 1 r) := by
  refine sg_ofP (Pq := fun Hx => va_Qi (fun r (_ : Unit) => (fun r : Int32 => iv 0 1 r) r) (fun _ t => t.heap = Hx) (fun _ : Nat => False)) (by decide +kernel) (Nat.le_of_ble_eq_true rfl) (fun p e s m below meth c X hr hlk hb hK hC hG ls hl => ?_)
  have hS : va_S (fun _ : Nat => False) s.heap s.heap [] := va_S.rf
  have hl : lv_has ls 2 [(0, .ref a0), (1, .ref a1)] := hl
  refine lv_aload_n X.1 X.2.1 dX12_isOpen_0 rfl (lv_at hl 0 rfl) ?_
  refine gf_X12_23s X hK hG h0 hp4 wl_6_201 dX12_isOpen_1 (fun f1 hf1 kf1 => ?_)
  have B3_17 : ∀ (locs : List Loc) (ls : Array Slot), va_S (fun _ : Nat => False) s.heap s.heap locs → lv_has ls 2 [] → W p l e (headSpec (Cond.code yX12_isOpen cX12_isOpen 2 (some .boolean) :: sg_tbl) ({ frames := 0, cells := 0, slots := 0, locals := 0 })).room s m #[.ref a0, .ref a1] below meth c s.heap locs 0 0 (MQ below (va_Qi (fun r (_ : Unit) => (fun r : Int32 => iv 0 1 r) r) (fun _ t => t.heap = s.heap) (fun _ : Nat => False)) #[.ref a0, .ref a1] s 0 0 (fun _ : Nat => False)) (F0 m 17 ls []) := by
    intro locs ls hS hl
    refine lv_iconst (v := 0) X.1 X.2.1 dX12_isOpen_17 (by decide +kernel) ?_
    exact sg_zretP X hr (sg_zn (iv_of (iv_c 0 (a := 0) (b := 0) (by decide +kernel)) (a' := 0) (b' := 1) (by decide +kernel))) hlk hS (iv_of (iv_c 0 (a := 0) (b := 0) (by decide +kernel)) (a' := 0) (b' := 1) (by decide +kernel)) dX12_isOpen_18
  refine lv_if_le (tgt := 17) X.1 X.2.1 dX12_isOpen_4 (by decide) (fun c2 => ?_) (fun c2 => ?_)
  · exact ((iv_no (iv_le (b' := 0) c2 hf1 (iv_c 0 (a := 0) (b := 0) (by decide +kernel)) (by decide +kernel)) (by decide +kernel))).elim
  · refine lv_aload_n X.1 X.2.1 dX12_isOpen_7 rfl (lv_at hl 1 rfl) ?_
    refine lv_iconst (v := 3) X.1 X.2.1 dX12_isOpen_8 (by decide +kernel) ?_
    refine al_55 X hK hG h1 (iv_vpin (iv_c 3 (a := 3) (b := 3) (by decide +kernel)) (by decide +kernel)) dX12_isOpen_9 (fun f4 hf4 => ?_)
    have of4 := hf4
    have hf4 : iv (-2147483648) 2147483647 f4 := sg_sp_now hf4 (iv_c 3 (a := 3) (b := 3) (by decide +kernel)) (by decide +kernel) rfl
    refine lv_if_ne (tgt := 17) X.1 X.2.1 dX12_isOpen_10 (by decide) (fun c5 => ?_) (fun c5 => ?_)
    · exact B3_17 _ _ hS (lv_sub hl [] rfl)
    · refine lv_iconst (v := 1) X.1 X.2.1 dX12_isOpen_13 (by decide +kernel) ?_
      refine lv_goto (tgt := 18) X.1 X.2.1 dX12_isOpen_14 (by decide) ?_
      exact sg_zretP X hr (sg_zn (iv_of (iv_c 1 (a := 1) (b := 1) (by decide +kernel)) (a' := 0) (b' := 1) (by decide +kernel))) hlk hS (iv_of (iv_c 1 (a := 1) (b := 1) (by decide +kernel)) (a' := 0) (b' := 1) (by decide +kernel)) dX12_isOpen_18

theorem ca_X12_isOpen_1_t   (X : CallFix p m c cc nL s args sg_tbl own) (hK : va_K D vwCl tys s) (hG : sgG (KT P) D vwCl (fun q : Nat => base ≤ q) tys ad ks H) (hC : sgC base s) (hA : ∀ q : Nat, A q → base ≤ q) (hS : va_S A s.heap H locs) (hb : base ≤ s.heap.size) (hp4 : P.2.2.2.2.1 = true) (a0 : Nat) (h0 : isK ad ks 12 a0) (a1 : Nat) (h1 : isK ad ks 55 a1) (hl : Cond.methodLink own index yX12_isOpen ∈ sg_tbl) (hsize : ls.size = nL) (hst : st0 = [.ref a1].reverse ++ .ref a0 :: rest) (hW : (rest.map fun v => v.category).sum ≤ 8) (hR : 1 ≤ R.frames ∧ 21 ≤ R.locals) (hf : cells ≤ R.cells ∧ slots ≤ R.slots) (hdg : decode cc pc = .ok (.invokevirtual index, 3)) (kk : ∀ (r : Int32) (locs1 : List Loc), (fun r : Int32 => iv 0 1 r) r → va_S A s.heap H locs1 → W p l e R s m args below meth c H locs1 cells slots Q (F0 m (pc + 3) ls (.int r :: rest))) : W p l e R s m args below meth c H locs cells slots Q (F0 m pc ls st0) :=
  sg_callPVi X hK hG hC hA hS hb (m_X12_isOpen_1_t l hp4 a0 h0 a1 h1) h0 (k := 12) (ci := 12) rfl (C := RX12) (T := TX12) (N := 53) rfl wl_8_97 wl_1_13 wl_8_96 wl_0_77 (n := 1) (by decide +kernel) rfl rfl rfl hl hsize hst hW hR hf hdg kk

set_option maxHeartbeats 8000000 in
set_option maxRecDepth 100000 in
theorem m_X12_canCut_1_t (l : Launch) {D : va_G} {base : Nat} {tys : List (ClassId × FieldType)} {ad ks : List Nat} {P : sgPm} {Hx : Heap} (hp4 : P.2.2.2.2.1 = true) (a0 : Nat) (h0 : isK ad ks 12 a0) (a1 : Nat) (h1 : isK ad ks 55 a1) (x2 : Int32) (x3 : Int32) (x4 : Int32) : sgPi l (KT P) D vwCl base tys ad ks Hx yX12_canCut cX12_canCut 5 (some .boolean) ({ frames := 3, cells := 0, slots := 0, locals := 75 }) [.ref a0, .ref a1, .int x2, .int x3, .int x4] (fun r : Int32 => iv 0 1 r) := by
  refine sg_ofP (Pq := fun Hx => va_Qi (fun r (_ : Unit) => (fun r : Int32 => iv 0 1 r) r) (fun _ t => t.heap = Hx) (fun _ : Nat => False)) (by decide +kernel) (Nat.le_of_ble_eq_true rfl) (fun p e s m below meth c X hr hlk hb hK hC hG ls hl => ?_)
  have hS : va_S (fun _ : Nat => False) s.heap s.heap [] := va_S.rf
  have hl : lv_has ls 5 [(0, .ref a0), (1, .ref a1), (2, .int x2), (3, .int x3), (4, .int x4)] := hl
  refine lv_aload_n X.1 X.2.1 dX12_canCut_0 rfl (lv_at hl 0 rfl) ?_
  refine lv_aload_n X.1 X.2.1 dX12_canCut_1 rfl (lv_at hl 1 rfl) ?_
  refine ca_X12_isOpen_1_t X hK hG hC (fun _ h => h.elim) hS hb hp4 a0 h0 a1 h1 wl_8_94 hl.1 (rest := []) rfl (Nat.le_of_ble_eq_true rfl) ⟨Nat.le_of_ble_eq_true rfl, Nat.le_of_ble_eq_true rfl⟩ ⟨Nat.le_of_ble_eq_true rfl, Nat.le_of_ble_eq_true rfl⟩ dX12_canCut_2 (fun f1 locs hf1 hS => ?_)
  have B3_34 : ∀ (locs : List Loc) (ls : Array Slot), va_S (fun _ : Nat => False) s.heap s.heap locs → lv_has ls 5 [] → W p l e (headSpec (Cond.code yX12_canCut cX12_canCut 5 (some .boolean) :: sg_tbl) ({ frames := 3, cells := 0, slots := 0, locals := 75 })).room s m #[.ref a0, .ref a1, .int x2, .int x3, .int x4] below meth c s.heap locs 0 0 (MQ below (va_Qi (fun r (_ : Unit) => (fun r : Int32 => iv 0 1 r) r) (fun _ t => t.heap = s.heap) (fun _ : Nat => False)) #[.ref a0, .ref a1, .int x2, .int x3, .int x4] s 0 0 (fun _ : Nat => False)) (F0 m 34 ls []) := by
    intro locs ls hS hl
    refine lv_iconst (v := 0) X.1 X.2.1 dX12_canCut_34 (by decide +kernel) ?_
    exact sg_zretP X hr (sg_zn (iv_of (iv_c 0 (a := 0) (b := 0) (by decide +kernel)) (a' := 0) (b' := 1) (by decide +kernel))) hlk hS (iv_of (iv_c 0 (a := 0) (b := 0) (by decide +kernel)) (a' := 0) (b' := 1) (by decide +kernel)) dX12_canCut_35
  refine lv_if_eq (tgt := 34) X.1 X.2.1 dX12_canCut_5 (by decide) (fun c2 => ?_) (fun c2 => ?_)
  · exact B3_34 _ _ hS (lv_sub hl [] rfl)
  · refine lv_aload_n X.1 X.2.1 dX12_canCut_8 rfl (lv_at hl 1 rfl) ?_
    refine lv_iconst (v := 2) X.1 X.2.1 dX12_canCut_9 (by decide +kernel) ?_
    refine al_55 X hK hG h1 (iv_vpin (iv_c 2 (a := 2) (b := 2) (by decide +kernel)) (by decide +kernel)) dX12_canCut_10 (fun f4 hf4 => ?_)
    have of4 := hf4
    have hf4 : iv 0 1 f4 := sg_sp_now hf4 (iv_c 2 (a := 2) (b := 2) (by decide +kernel)) (by decide +kernel) rfl
    refine lv_iconst (v := 1) X.1 X.2.1 dX12_canCut_11 (by decide +kernel) ?_
    refine lv_icmp_ne (tgt := 34) X.1 X.2.1 dX12_canCut_12 (by decide) (fun c5 => ?_) (fun c5 => ?_)
    · exact B3_34 _ _ hS (lv_sub hl [] rfl)
    · refine lv_aload_n X.1 X.2.1 dX12_canCut_15 rfl (lv_at hl 0 rfl) ?_
      refine lv_aload_n X.1 X.2.1 dX12_canCut_16 rfl (lv_at hl 1 rfl) ?_
      refine lv_iconst (v := 0) X.1 X.2.1 dX12_canCut_17 (by decide +kernel) ?_
      refine al_55 X hK hG h1 (iv_vpin (iv_c 0 (a := 0) (b := 0) (by decide +kernel)) (by decide +kernel)) dX12_canCut_18 (fun f6 hf6 => ?_)
      have of6 := hf6
      have hf6 : iv (-2147483648) 2147483647 f6 := sg_sp_now hf6 (iv_c 0 (a := 0) (b := 0) (by decide +kernel)) (by decide +kernel) rfl
      refine lv_iload_n X.1 X.2.1 dX12_canCut_19 rfl (lv_at hl 2 rfl) ?_
      refine lv_iload_n X.1 X.2.1 dX12_canCut_20 rfl (lv_at hl 3 rfl) ?_
      refine lv_iload X.1 X.2.1 dX12_canCut_21 (lv_at hl 4 rfl) ?_
      refine ca_X12_cutBits_1 X hK hG hC (fun _ h => h.elim) hS hb hp4 a0 h0 f6 x2 x3 x4 wl_8_121 hl.1 (rest := []) rfl (Nat.le_of_ble_eq_true rfl) ⟨Nat.le_of_ble_eq_true rfl, Nat.le_of_ble_eq_true rfl⟩ ⟨Nat.le_of_ble_eq_true rfl, Nat.le_of_ble_eq_true rfl⟩ dX12_canCut_23 (fun f7 locs hf7 hS => ?_)
      refine lv_iconst (v := (-1)) X.1 X.2.1 dX12_canCut_26 (by decide +kernel) ?_
      refine lv_icmp_eq (tgt := 34) X.1 X.2.1 dX12_canCut_27 (by decide) (fun c8 => ?_) (fun c8 => ?_)
      · exact B3_34 _ _ hS (lv_sub hl [] rfl)
      · refine lv_iconst (v := 1) X.1 X.2.1 dX12_canCut_30 (by decide +kernel) ?_
        refine lv_goto (tgt := 35) X.1 X.2.1 dX12_canCut_31 (by decide) ?_
        exact sg_zretP X hr (sg_zn (iv_of (iv_c 1 (a := 1) (b := 1) (by decide +kernel)) (a' := 0) (b' := 1) (by decide +kernel))) hlk hS (iv_of (iv_c 1 (a := 1) (b := 1) (by decide +kernel)) (a' := 0) (b' := 1) (by decide +kernel)) dX12_canCut_35

theorem ca_X12_canCut_1_t   (X : CallFix p m c cc nL s args sg_tbl own) (hK : va_K D vwCl tys s) (hG : sgG (KT P) D vwCl (fun q : Nat => base ≤ q) tys ad ks H) (hC : sgC base s) (hA : ∀ q : Nat, A q → base ≤ q) (hS : va_S A s.heap H locs) (hb : base ≤ s.heap.size) (hp4 : P.2.2.2.2.1 = true) (a0 : Nat) (h0 : isK ad ks 12 a0) (a1 : Nat) (h1 : isK ad ks 55 a1) (x2 : Int32) (x3 : Int32) (x4 : Int32) (hl : Cond.methodLink own index yX12_canCut ∈ sg_tbl) (hsize : ls.size = nL) (hst : st0 = [.ref a1, .int x2, .int x3, .int x4].reverse ++ .ref a0 :: rest) (hW : (rest.map fun v => v.category).sum ≤ 8) (hR : 4 ≤ R.frames ∧ 99 ≤ R.locals) (hf : cells ≤ R.cells ∧ slots ≤ R.slots) (hdg : decode cc pc = .ok (.invokevirtual index, 3)) (kk : ∀ (r : Int32) (locs1 : List Loc), (fun r : Int32 => iv 0 1 r) r → va_S A s.heap H locs1 → W p l e R s m args below meth c H locs1 cells slots Q (F0 m (pc + 3) ls (.int r :: rest))) : W p l e R s m args below meth c H locs cells slots Q (F0 m pc ls st0) :=
  sg_callPVi X hK hG hC hA hS hb (m_X12_canCut_1_t l hp4 a0 h0 a1 h1 x2 x3 x4) h0 (k := 12) (ci := 12) rfl (C := RX12) (T := TX12) (N := 53) rfl wl_8_120 wl_1_13 wl_8_119 wl_0_81 (n := 4) (by decide +kernel) rfl rfl rfl hl hsize hst hW hR hf hdg kk

set_option maxHeartbeats 8000000 in
set_option maxRecDepth 100000 in
theorem m_X12_canDig_1_t (l : Launch) {D : va_G} {base : Nat} {tys : List (ClassId × FieldType)} {ad ks : List Nat} {P : sgPm} {Hx : Heap} (hp4 : P.2.2.2.2.1 = true) (a0 : Nat) (h0 : isK ad ks 12 a0) (a1 : Nat) (h1 : isK ad ks 55 a1) (x2 : Int32) : sgPi l (KT P) D vwCl base tys ad ks Hx yX12_canDig cX12_canDig 3 (some .boolean) ({ frames := 1, cells := 0, slots := 0, locals := 21 }) [.ref a0, .ref a1, .int x2] (fun r : Int32 => iv 0 1 r) := by
  refine sg_ofP (Pq := fun Hx => va_Qi (fun r (_ : Unit) => (fun r : Int32 => iv 0 1 r) r) (fun _ t => t.heap = Hx) (fun _ : Nat => False)) (by decide +kernel) (Nat.le_of_ble_eq_true rfl) (fun p e s m below meth c X hr hlk hb hK hC hG ls hl => ?_)
  have hS : va_S (fun _ : Nat => False) s.heap s.heap [] := va_S.rf
  have hl : lv_has ls 3 [(0, .ref a0), (1, .ref a1), (2, .int x2)] := hl
  refine lv_aload_n X.1 X.2.1 dX12_canDig_0 rfl (lv_at hl 0 rfl) ?_
  refine lv_aload_n X.1 X.2.1 dX12_canDig_1 rfl (lv_at hl 1 rfl) ?_
  refine ca_X12_isOpen_1_t X hK hG hC (fun _ h => h.elim) hS hb hp4 a0 h0 a1 h1 wl_8_94 hl.1 (rest := []) rfl (Nat.le_of_ble_eq_true rfl) ⟨Nat.le_of_ble_eq_true rfl, Nat.le_of_ble_eq_true rfl⟩ ⟨Nat.le_of_ble_eq_true rfl, Nat.le_of_ble_eq_true rfl⟩ dX12_canDig_2 (fun f1 locs hf1 hS => ?_)
  have B3_35 : ∀ (locs : List Loc) (ls : Array Slot), va_S (fun _ : Nat => False) s.heap s.heap locs → lv_has ls 3 [] → W p l e (headSpec (Cond.code yX12_canDig cX12_canDig 3 (some .boolean) :: sg_tbl) ({ frames := 1, cells := 0, slots := 0, locals := 21 })).room s m #[.ref a0, .ref a1, .int x2] below meth c s.heap locs 0 0 (MQ below (va_Qi (fun r (_ : Unit) => (fun r : Int32 => iv 0 1 r) r) (fun _ t => t.heap = s.heap) (fun _ : Nat => False)) #[.ref a0, .ref a1, .int x2] s 0 0 (fun _ : Nat => False)) (F0 m 35 ls []) := by
    intro locs ls hS hl
    refine lv_iconst (v := 0) X.1 X.2.1 dX12_canDig_35 (by decide +kernel) ?_
    exact sg_zretP X hr (sg_zn (iv_of (iv_c 0 (a := 0) (b := 0) (by decide +kernel)) (a' := 0) (b' := 1) (by decide +kernel))) hlk hS (iv_of (iv_c 0 (a := 0) (b := 0) (by decide +kernel)) (a' := 0) (b' := 1) (by decide +kernel)) dX12_canDig_36
  refine lv_if_eq (tgt := 35) X.1 X.2.1 dX12_canDig_5 (by decide) (fun c2 => ?_) (fun c2 => ?_)
  · exact B3_35 _ _ hS (lv_sub hl [] rfl)
  · refine lv_aload_n X.1 X.2.1 dX12_canDig_8 rfl (lv_at hl 0 rfl) ?_
    refine lv_iload_n X.1 X.2.1 dX12_canDig_9 rfl (lv_at hl 2 rfl) ?_
    refine ca_X12_isCell_1 X hK hG hC (fun _ h => h.elim) hS hb hp4 a0 h0 x2 wl_8_55 hl.1 (rest := []) rfl (Nat.le_of_ble_eq_true rfl) ⟨Nat.le_of_ble_eq_true rfl, Nat.le_of_ble_eq_true rfl⟩ ⟨Nat.le_of_ble_eq_true rfl, Nat.le_of_ble_eq_true rfl⟩ dX12_canDig_10 (fun f4 locs hf4 hS => ?_)
    refine lv_if_eq (tgt := 35) X.1 X.2.1 dX12_canDig_13 (by decide) (fun c5 => ?_) (fun c5 => ?_)
    · exact B3_35 _ _ hS (lv_sub hl [] rfl)
    · refine lv_aload_n X.1 X.2.1 dX12_canDig_16 rfl (lv_at hl 0 rfl) ?_
      refine gf_X12_24 X hK hG h0 wl_6_202 dX12_canDig_17 (fun f6 hf6 kf6 => ?_)
      refine lv_aload_n X.1 X.2.1 dX12_canDig_20 rfl (lv_at hl 1 rfl) ?_
      refine lv_iconst (v := 1) X.1 X.2.1 dX12_canDig_21 (by decide +kernel) ?_
      refine al_55 X hK hG h1 (iv_vpin (iv_c 1 (a := 1) (b := 1) (by decide +kernel)) (by decide +kernel)) dX12_canDig_22 (fun f7 hf7 => ?_)
      have of7 := hf7
      have hf7 : iv (-2147483648) 2147483647 f7 := sg_sp_now hf7 (iv_c 1 (a := 1) (b := 1) (by decide +kernel)) (by decide +kernel) rfl
      refine lv_ior X.1 X.2.1 dX12_canDig_23 ?_
      refine lv_topi (fun f8 ef8 => ?_)
      refine lv_iload_n X.1 X.2.1 dX12_canDig_24 rfl (lv_at hl 2 rfl) ?_
      refine ca_X12_has X hK hG hC (fun _ h => h.elim) hS hb f8 x2 wl_7_174 hl.1 (rest := []) rfl (Nat.le_of_ble_eq_true rfl) ⟨Nat.le_of_ble_eq_true rfl, Nat.le_of_ble_eq_true rfl⟩ ⟨Nat.le_of_ble_eq_true rfl, Nat.le_of_ble_eq_true rfl⟩ dX12_canDig_25 (fun f9 locs hf9 hS => ?_)
      refine lv_if_ne (tgt := 35) X.1 X.2.1 dX12_canDig_28 (by decide) (fun c10 => ?_) (fun c10 => ?_)
      · exact B3_35 _ _ hS (lv_sub hl [] rfl)
      · refine lv_iconst (v := 1) X.1 X.2.1 dX12_canDig_31 (by decide +kernel) ?_
        refine lv_goto (tgt := 36) X.1 X.2.1 dX12_canDig_32 (by decide) ?_
        exact sg_zretP X hr (sg_zn (iv_of (iv_c 1 (a := 1) (b := 1) (by decide +kernel)) (a' := 0) (b' := 1) (by decide +kernel))) hlk hS (iv_of (iv_c 1 (a := 1) (b := 1) (by decide +kernel)) (a' := 0) (b' := 1) (by decide +kernel)) dX12_canDig_36

theorem ca_X12_canDig_1_t   (X : CallFix p m c cc nL s args sg_tbl own) (hK : va_K D vwCl tys s) (hG : sgG (KT P) D vwCl (fun q : Nat => base ≤ q) tys ad ks H) (hC : sgC base s) (hA : ∀ q : Nat, A q → base ≤ q) (hS : va_S A s.heap H locs) (hb : base ≤ s.heap.size) (hp4 : P.2.2.2.2.1 = true) (a0 : Nat) (h0 : isK ad ks 12 a0) (a1 : Nat) (h1 : isK ad ks 55 a1) (x2 : Int32) (hl : Cond.methodLink own index yX12_canDig ∈ sg_tbl) (hsize : ls.size = nL) (hst : st0 = [.ref a1, .int x2].reverse ++ .ref a0 :: rest) (hW : (rest.map fun v => v.category).sum ≤ 8) (hR : 2 ≤ R.frames ∧ 43 ≤ R.locals) (hf : cells ≤ R.cells ∧ slots ≤ R.slots) (hdg : decode cc pc = .ok (.invokevirtual index, 3)) (kk : ∀ (r : Int32) (locs1 : List Loc), (fun r : Int32 => iv 0 1 r) r → va_S A s.heap H locs1 → W p l e R s m args below meth c H locs1 cells slots Q (F0 m (pc + 3) ls (.int r :: rest))) : W p l e R s m args below meth c H locs cells slots Q (F0 m pc ls st0) :=
  sg_callPVi X hK hG hC hA hS hb (m_X12_canDig_1_t l hp4 a0 h0 a1 h1 x2) h0 (k := 12) (ci := 12) rfl (C := RX12) (T := TX12) (N := 53) rfl wl_8_143 wl_1_13 wl_8_142 wl_0_84 (n := 2) (by decide +kernel) rfl rfl rfl hl hsize hst hW hR hf hdg kk

set_option maxHeartbeats 8000000 in
set_option maxRecDepth 100000 in
theorem m_X12_canGrow_1_t (l : Launch) {D : va_G} {base : Nat} {tys : List (ClassId × FieldType)} {ad ks : List Nat} {P : sgPm} (hp4 : P.2.2.2.2.1 = true) (a0 : Nat) (h0 : isK ad ks 12 a0) (a1 : Nat) (h1 : isK ad ks 55 a1) (x2 : Int32) : sgMi l (KT P) D vwCl base tys ad ks yX12_canGrow cX12_canGrow 3 (some .boolean) ({ frames := 34, cells := 0, slots := 0, locals := 794 }) [.ref a0, .ref a1, .int x2] (fun r : Int32 => iv 0 1 r) := by
  refine sg_ofW (by decide +kernel) (Nat.le_of_ble_eq_true rfl) (fun p e s m below meth c X hr hlk hb hK hC hG ls hl => ?_)
  have hS : va_S (fun q : Nat => base ≤ q) s.heap s.heap [] := va_S.rf
  have hl : lv_has ls 3 [(0, .ref a0), (1, .ref a1), (2, .int x2)] := hl
  refine lv_aload_n X.1 X.2.1 dX12_canGrow_0 rfl (lv_at hl 0 rfl) ?_
  refine lv_aload_n X.1 X.2.1 dX12_canGrow_1 rfl (lv_at hl 1 rfl) ?_
  refine ca_X12_isOpen_1_t X hK hG hC (fun _ h => h) hS hb hp4 a0 h0 a1 h1 wl_8_94 hl.1 (rest := []) rfl (Nat.le_of_ble_eq_true rfl) ⟨Nat.le_of_ble_eq_true rfl, Nat.le_of_ble_eq_true rfl⟩ ⟨Nat.le_of_ble_eq_true rfl, Nat.le_of_ble_eq_true rfl⟩ dX12_canGrow_2 (fun f1 locs hf1 hS => ?_)
  have B3_43 : ∀ (H : Heap) (locs : List Loc) (ls : Array Slot), sgG (KT P) D vwCl (fun q : Nat => base ≤ q) tys ad ks H → va_S (fun q : Nat => base ≤ q) s.heap H locs → lv_has ls 3 [] → W p l e (headSpec (Cond.code yX12_canGrow cX12_canGrow 3 (some .boolean) :: sg_tbl) ({ frames := 34, cells := 0, slots := 0, locals := 794 })).room s m #[.ref a0, .ref a1, .int x2] below meth c H locs 0 0 (MQ below (va_Qi (fun r (_ : Unit) => (fun r : Int32 => iv 0 1 r) r) (fun _ => sgB (KT P) D vwCl base tys ad ks) (fun q : Nat => base ≤ q)) #[.ref a0, .ref a1, .int x2] s 0 0 (fun q : Nat => base ≤ q)) (F0 m 43 ls []) := by
    intro H locs ls hG hS hl
    refine lv_iconst (v := 0) X.1 X.2.1 dX12_canGrow_43 (by decide +kernel) ?_
    exact sg_zret X hr (sg_zn (iv_of (iv_c 0 (a := 0) (b := 0) (by decide +kernel)) (a' := 0) (b' := 1) (by decide +kernel))) hlk hb hK hC hG hS (iv_of (iv_c 0 (a := 0) (b := 0) (by decide +kernel)) (a' := 0) (b' := 1) (by decide +kernel)) dX12_canGrow_44
  refine lv_if_eq (tgt := 43) X.1 X.2.1 dX12_canGrow_5 (by decide) (fun c2 => ?_) (fun c2 => ?_)
  · exact B3_43 s.heap _ _ hG hS (lv_sub hl [] rfl)
  · refine lv_aload_n X.1 X.2.1 dX12_canGrow_8 rfl (lv_at hl 1 rfl) ?_
    refine lv_iconst (v := 2) X.1 X.2.1 dX12_canGrow_9 (by decide +kernel) ?_
    refine al_55 X hK hG h1 (iv_vpin (iv_c 2 (a := 2) (b := 2) (by decide +kernel)) (by decide +kernel)) dX12_canGrow_10 (fun f4 hf4 => ?_)
    have of4 := hf4
    have hf4 : iv 0 1 f4 := sg_sp_now hf4 (iv_c 2 (a := 2) (b := 2) (by decide +kernel)) (by decide +kernel) rfl
    refine lv_if_ne (tgt := 43) X.1 X.2.1 dX12_canGrow_11 (by decide) (fun c5 => ?_) (fun c5 => ?_)
    · exact B3_43 s.heap _ _ hG hS (lv_sub hl [] rfl)
    · refine lv_aload_n X.1 X.2.1 dX12_canGrow_14 rfl (lv_at hl 0 rfl) ?_
      refine lv_iload_n X.1 X.2.1 dX12_canGrow_15 rfl (lv_at hl 2 rfl) ?_
      refine ca_X12_isCell_1 X hK hG hC (fun _ h => h) hS hb hp4 a0 h0 x2 wl_8_55 hl.1 (rest := []) rfl (Nat.le_of_ble_eq_true rfl) ⟨Nat.le_of_ble_eq_true rfl, Nat.le_of_ble_eq_true rfl⟩ ⟨Nat.le_of_ble_eq_true rfl, Nat.le_of_ble_eq_true rfl⟩ dX12_canGrow_16 (fun f6 locs hf6 hS => ?_)
      refine lv_if_eq (tgt := 43) X.1 X.2.1 dX12_canGrow_19 (by decide) (fun c7 => ?_) (fun c7 => ?_)
      · exact B3_43 s.heap _ _ hG hS (lv_sub hl [] rfl)
      · refine lv_aload_n X.1 X.2.1 dX12_canGrow_22 rfl (lv_at hl 0 rfl) ?_
        refine lv_aload_n X.1 X.2.1 dX12_canGrow_23 rfl (lv_at hl 1 rfl) ?_
        refine lv_iconst (v := 0) X.1 X.2.1 dX12_canGrow_24 (by decide +kernel) ?_
        refine al_55 X hK hG h1 (iv_vpin (iv_c 0 (a := 0) (b := 0) (by decide +kernel)) (by decide +kernel)) dX12_canGrow_25 (fun f8 hf8 => ?_)
        have of8 := hf8
        have hf8 : iv (-2147483648) 2147483647 f8 := sg_sp_now hf8 (iv_c 0 (a := 0) (b := 0) (by decide +kernel)) (by decide +kernel) rfl
        refine lv_aload_n X.1 X.2.1 dX12_canGrow_26 rfl (lv_at hl 1 rfl) ?_
        refine lv_iconst (v := 1) X.1 X.2.1 dX12_canGrow_27 (by decide +kernel) ?_
        refine al_55 X hK hG h1 (iv_vpin (iv_c 1 (a := 1) (b := 1) (by decide +kernel)) (by decide +kernel)) dX12_canGrow_28 (fun f9 hf9 => ?_)
        have of9 := hf9
        have hf9 : iv (-2147483648) 2147483647 f9 := sg_sp_now hf9 (iv_c 1 (a := 1) (b := 1) (by decide +kernel)) (by decide +kernel) rfl
        refine lv_aload_n X.1 X.2.1 dX12_canGrow_29 rfl (lv_at hl 1 rfl) ?_
        refine lv_iconst (v := 4) X.1 X.2.1 dX12_canGrow_30 (by decide +kernel) ?_
        refine al_55 X hK hG h1 (iv_vpin (iv_c 4 (a := 4) (b := 4) (by decide +kernel)) (by decide +kernel)) dX12_canGrow_31 (fun f10 hf10 => ?_)
        have of10 := hf10
        have hf10 : iv 0 1000000000 f10 := sg_day hf10 (iv_c 4 (a := 4) (b := 4) (by decide +kernel))
        refine lv_iload_n X.1 X.2.1 dX12_canGrow_32 rfl (lv_at hl 2 rfl) ?_
        refine ca_X12_mayGrow_1 X hK hG hC hS hb hp4 a0 h0 f8 f9 f10 (iv_of hf10 (a' := 0) (b' := 2147483647) (by decide +kernel)) x2 (hf6.2 c7) wl_8_64 hl.1 (rest := []) rfl (Nat.le_of_ble_eq_true rfl) ⟨Nat.le_of_ble_eq_true rfl, Nat.le_of_ble_eq_true rfl⟩ ⟨Nat.le_of_ble_eq_true rfl, Nat.le_of_ble_eq_true rfl⟩ dX12_canGrow_33 (fun f11 H locs hf11 hG hS => ?_)
        refine lv_if_eq (tgt := 43) X.1 X.2.1 dX12_canGrow_36 (by decide) (fun c12 => ?_) (fun c12 => ?_)
        · exact B3_43 H _ _ hG hS (lv_sub hl [] rfl)
        · refine lv_iconst (v := 1) X.1 X.2.1 dX12_canGrow_39 (by decide +kernel) ?_
          refine lv_goto (tgt := 44) X.1 X.2.1 dX12_canGrow_40 (by decide) ?_
          exact sg_zret X hr (sg_zn (iv_of (iv_c 1 (a := 1) (b := 1) (by decide +kernel)) (a' := 0) (b' := 1) (by decide +kernel))) hlk hb hK hC hG hS (iv_of (iv_c 1 (a := 1) (b := 1) (by decide +kernel)) (a' := 0) (b' := 1) (by decide +kernel)) dX12_canGrow_44

theorem ca_X12_canGrow_1_t   (X : CallFix p m c cc nL s args sg_tbl own) (hK : va_K D vwCl tys s) (hG : sgG (KT P) D vwCl (fun q : Nat => base ≤ q) tys ad ks H) (hC : sgC base s) (hS : va_S (fun q : Nat => base ≤ q) s.heap H locs) (hb : base ≤ s.heap.size) (hp4 : P.2.2.2.2.1 = true) (a0 : Nat) (h0 : isK ad ks 12 a0) (a1 : Nat) (h1 : isK ad ks 55 a1) (x2 : Int32) (hl : Cond.methodLink own index yX12_canGrow ∈ sg_tbl) (hsize : ls.size = nL) (hst : st0 = [.ref a1, .int x2].reverse ++ .ref a0 :: rest) (hW : (rest.map fun v => v.category).sum ≤ 8) (hR : 35 ≤ R.frames ∧ 816 ≤ R.locals) (hf : cells ≤ R.cells ∧ slots ≤ R.slots) (hdg : decode cc pc = .ok (.invokevirtual index, 3)) (kk : ∀ (r : Int32) (H1 : Heap) (locs1 : List Loc), (fun r : Int32 => iv 0 1 r) r → sgG (KT P) D vwCl (fun q : Nat => base ≤ q) tys ad ks H1 → va_S (fun q : Nat => base ≤ q) s.heap H1 locs1 → W p l e R s m args below meth c H1 locs1 cells slots Q (F0 m (pc + 3) ls (.int r :: rest))) : W p l e R s m args below meth c H locs cells slots Q (F0 m pc ls st0) :=
  sg_callVi X hK hG hC hS hb (m_X12_canGrow_1_t l hp4 a0 h0 a1 h1 x2) h0 (k := 12) (ci := 12) rfl (C := RX12) (T := TX12) (N := 53) rfl wl_8_93 wl_1_13 wl_8_92 wl_0_76 (n := 2) (by decide +kernel) rfl rfl rfl hl hsize hst hW hR hf hdg kk

set_option maxHeartbeats 8000000 in
set_option maxRecDepth 100000 in
theorem m_X12_grows_1_t (l : Launch) {D : va_G} {base : Nat} {tys : List (ClassId × FieldType)} {ad ks : List Nat} {P : sgPm} (hp4 : P.2.2.2.2.1 = true) (a0 : Nat) (h0 : isK ad ks 12 a0) (a1 : Nat) (h1 : isK ad ks 55 a1) (x2 : Int32) : sgMv l (KT P) D vwCl base tys ad ks yX12_grows cX12_grows 4 none ({ frames := 35, cells := 0, slots := 0, locals := 819 }) [.ref a0, .ref a1, .int x2] := by
  refine sg_ofW (by decide +kernel) (Nat.le_of_ble_eq_true rfl) (fun p e s m below meth c X hr hlk hb hK hC hG ls hl => ?_)
  have hS : va_S (fun q : Nat => base ≤ q) s.heap s.heap [] := va_S.rf
  have hl : lv_has ls 4 [(0, .ref a0), (1, .ref a1), (2, .int x2)] := hl
  refine lv_aload_n X.1 X.2.1 dX12_grows_0 rfl (lv_at hl 0 rfl) ?_
  refine lv_aload_n X.1 X.2.1 dX12_grows_1 rfl (lv_at hl 1 rfl) ?_
  refine lv_iconst (v := 0) X.1 X.2.1 dX12_grows_2 (by decide +kernel) ?_
  refine al_55 X hK hG h1 (iv_vpin (iv_c 0 (a := 0) (b := 0) (by decide +kernel)) (by decide +kernel)) dX12_grows_3 (fun f1 hf1 => ?_)
  have of1 := hf1
  have hf1 : iv (-2147483648) 2147483647 f1 := sg_sp_now hf1 (iv_c 0 (a := 0) (b := 0) (by decide +kernel)) (by decide +kernel) rfl
  refine lv_aload_n X.1 X.2.1 dX12_grows_4 rfl (lv_at hl 1 rfl) ?_
  refine lv_iconst (v := 1) X.1 X.2.1 dX12_grows_5 (by decide +kernel) ?_
  refine al_55 X hK hG h1 (iv_vpin (iv_c 1 (a := 1) (b := 1) (by decide +kernel)) (by decide +kernel)) dX12_grows_6 (fun f2 hf2 => ?_)
  have of2 := hf2
  have hf2 : iv (-2147483648) 2147483647 f2 := sg_sp_now hf2 (iv_c 1 (a := 1) (b := 1) (by decide +kernel)) (by decide +kernel) rfl
  refine lv_aload_n X.1 X.2.1 dX12_grows_7 rfl (lv_at hl 1 rfl) ?_
  refine lv_iconst (v := 4) X.1 X.2.1 dX12_grows_8 (by decide +kernel) ?_
  refine al_55 X hK hG h1 (iv_vpin (iv_c 4 (a := 4) (b := 4) (by decide +kernel)) (by decide +kernel)) dX12_grows_9 (fun f3 hf3 => ?_)
  have of3 := hf3
  have hf3 : iv 0 1000000000 f3 := sg_day hf3 (iv_c 4 (a := 4) (b := 4) (by decide +kernel))
  refine ca_X12_threatsIn_1 X hK hG hC hS hb hp4 a0 h0 f1 f2 f3 (iv_of hf3 (a' := 0) (b' := 2147483647) (by decide +kernel)) wl_8_106 hl.1 (rest := []) rfl (Nat.le_of_ble_eq_true rfl) ⟨Nat.le_of_ble_eq_true rfl, Nat.le_of_ble_eq_true rfl⟩ ⟨Nat.le_of_ble_eq_true rfl, Nat.le_of_ble_eq_true rfl⟩ dX12_grows_10 (fun f4 H locs hf4 hG hS => ?_)
  have B6_21 : ∀ (locs : List Loc) (ls : Array Slot) (w6_0 : Int32), va_S (fun q : Nat => base ≤ q) s.heap H locs → lv_has ls 4 [(0, .ref a0), (1, .ref a1), (2, .int x2)] → iv 0 1 w6_0 → W p l e (headSpec (Cond.code yX12_grows cX12_grows 4 none :: sg_tbl) ({ frames := 35, cells := 0, slots := 0, locals := 819 })).room s m #[.ref a0, .ref a1, .int x2] below meth c H locs 0 0 (MQ below (va_Qv (fun (_ : Unit) => True) (fun _ => sgB (KT P) D vwCl base tys ad ks) (fun q : Nat => base ≤ q)) #[.ref a0, .ref a1, .int x2] s 0 0 (fun q : Nat => base ≤ q)) (F0 m 21 ls [.int w6_0]) := by
    intro locs ls w6_0 hS hl hw6_0
    refine lv_istore_n (lv' := [(3, .int w6_0), (0, .ref a0), (1, .ref a1), (2, .int x2)]) X.1 X.2.1 dX12_grows_21 rfl hl (by decide) rfl (fun ls hl => ?_)
    refine lv_aload_n X.1 X.2.1 dX12_grows_22 rfl (lv_at hl 2 rfl) ?_
    refine lv_iconst (v := 0) X.1 X.2.1 dX12_grows_23 (by decide +kernel) ?_
    refine lv_dup2_11 X.1 X.2.1 dX12_grows_24 rfl rfl ?_
    refine al_55 X hK hG h1 (iv_vpin (iv_c 0 (a := 0) (b := 0) (by decide +kernel)) (by decide +kernel)) dX12_grows_25 (fun f7 hf7 => ?_)
    have of7 := hf7
    have hf7 : iv (-2147483648) 2147483647 f7 := sg_sp_now hf7 (iv_c 0 (a := 0) (b := 0) (by decide +kernel)) (by decide +kernel) rfl
    refine lv_iconst (v := 1) X.1 X.2.1 dX12_grows_26 (by decide +kernel) ?_
    refine lv_iload_n X.1 X.2.1 dX12_grows_27 rfl (lv_at hl 3 rfl) ?_
    refine lv_ishl X.1 X.2.1 dX12_grows_28 ?_
    refine lv_topi (fun f8 ef8 => ?_)
    refine lv_ior X.1 X.2.1 dX12_grows_29 ?_
    refine lv_topi (fun f9 ef9 => ?_)
    refine as_55 X hK hG hS h1 (iv_vpin (iv_c 0 (a := 0) (b := 0) (by decide +kernel)) (by decide +kernel)) (sg_at_now (a := (-2147483648)) (b := 2147483647) (iv_c 0 (a := 0) (b := 0) (by decide +kernel)) (by decide +kernel) rfl (iv_top f9)) dX12_grows_30 (fun H locs hG hS ru10 => ?_)
    refine lv_aload_n X.1 X.2.1 dX12_grows_31 rfl (lv_at hl 2 rfl) ?_
    refine lv_iconst (v := 2) X.1 X.2.1 dX12_grows_32 (by decide +kernel) ?_
    refine lv_iconst (v := 1) X.1 X.2.1 dX12_grows_33 (by decide +kernel) ?_
    refine as_55 X hK hG hS h1 (iv_vpin (iv_c 2 (a := 2) (b := 2) (by decide +kernel)) (by decide +kernel)) (sg_at_now (a := 0) (b := 1) (iv_c 2 (a := 2) (b := 2) (by decide +kernel)) (by decide +kernel) rfl (iv_of (iv_c 1 (a := 1) (b := 1) (by decide +kernel)) (a' := 0) (b' := 1) (by decide +kernel))) dX12_grows_34 (fun H locs hG hS ru11 => ?_)
    refine lv_aload_n X.1 X.2.1 dX12_grows_35 rfl (lv_at hl 2 rfl) ?_
    refine lv_iconst (v := 3) X.1 X.2.1 dX12_grows_36 (by decide +kernel) ?_
    refine lv_aload_n X.1 X.2.1 dX12_grows_37 rfl (lv_at hl 2 rfl) ?_
    refine lv_iconst (v := 0) X.1 X.2.1 dX12_grows_38 (by decide +kernel) ?_
    refine al_55 X hK hG h1 (iv_vpin (iv_c 0 (a := 0) (b := 0) (by decide +kernel)) (by decide +kernel)) dX12_grows_39 (fun f12 hf12 => ?_)
    have of12 := hf12
    have hf12 : iv (-2147483648) 2147483647 f12 := sg_sp_now hf12 (iv_c 0 (a := 0) (b := 0) (by decide +kernel)) (by decide +kernel) rfl
    refine lv_aload_n X.1 X.2.1 dX12_grows_40 rfl (lv_at hl 1 rfl) ?_
    refine gf_X12_18 X hK hG h0 wl_6_196 dX12_grows_41 (fun q13 hq13 kq13 => ?_)
    refine ca_X12_hasLine_1 X hK hG hC (fun _ h => h) hS hb hp4 f12 q13 hq13 wl_7_196 hl.1 (rest := [.int 3, .ref a1]) rfl (Nat.le_of_ble_eq_true rfl) ⟨Nat.le_of_ble_eq_true rfl, Nat.le_of_ble_eq_true rfl⟩ ⟨Nat.le_of_ble_eq_true rfl, Nat.le_of_ble_eq_true rfl⟩ dX12_grows_44 (fun f14 locs hf14 hS => ?_)
    have B16_55 : ∀ (locs : List Loc) (ls : Array Slot) (w16_0 : Int32), va_S (fun q : Nat => base ≤ q) s.heap H locs → lv_has ls 4 [(1, .ref a1), (2, .int x2), (3, .int w6_0)] → iv 0 1 w16_0 → W p l e (headSpec (Cond.code yX12_grows cX12_grows 4 none :: sg_tbl) ({ frames := 35, cells := 0, slots := 0, locals := 819 })).room s m #[.ref a0, .ref a1, .int x2] below meth c H locs 0 0 (MQ below (va_Qv (fun (_ : Unit) => True) (fun _ => sgB (KT P) D vwCl base tys ad ks) (fun q : Nat => base ≤ q)) #[.ref a0, .ref a1, .int x2] s 0 0 (fun q : Nat => base ≤ q)) (F0 m 55 ls [.int w16_0, .int 3, .ref a1]) := by
      intro locs ls w16_0 hS hl hw16_0
      refine as_55 X hK hG hS h1 (iv_vpin (iv_c 3 (a := 3) (b := 3) (by decide +kernel)) (by decide +kernel)) (sg_at_now (a := (-2147483648)) (b := 2147483647) (iv_c 3 (a := 3) (b := 3) (by decide +kernel)) (by decide +kernel) rfl (iv_of hw16_0 (a' := (-2147483648)) (b' := 2147483647) (by decide +kernel))) dX12_grows_55 (fun H locs hG hS ru17 => ?_)
      refine lv_aload_n X.1 X.2.1 dX12_grows_56 rfl (lv_at hl 0 rfl) ?_
      refine lv_bipush (v := 7) X.1 X.2.1 dX12_grows_57 (by decide +kernel) ?_
      refine lv_dup2_11 X.1 X.2.1 dX12_grows_59 rfl rfl ?_
      refine al_55 X hK hG h1 (iv_vpin (iv_c 7 (a := 7) (b := 7) (by decide +kernel)) (by decide +kernel)) dX12_grows_60 (fun f18 hf18 => ?_)
      have of18 := hf18
      have hf18 : iv (-2147483648) 2147483647 f18 := sg_sp_now hf18 (iv_c 7 (a := 7) (b := 7) (by decide +kernel)) (by decide +kernel) rfl
      refine lv_iload_n X.1 X.2.1 dX12_grows_61 rfl (lv_at hl 2 rfl) ?_
      have B20_76 : ∀ (locs : List Loc) (ls : Array Slot) (w20_0 : Int32), va_S (fun q : Nat => base ≤ q) s.heap H locs → lv_has ls 4 [(1, .ref a1), (2, .int x2)] → iv 0 1 w20_0 → W p l e (headSpec (Cond.code yX12_grows cX12_grows 4 none :: sg_tbl) ({ frames := 35, cells := 0, slots := 0, locals := 819 })).room s m #[.ref a0, .ref a1, .int x2] below meth c H locs 0 0 (MQ below (va_Qv (fun (_ : Unit) => True) (fun _ => sgB (KT P) D vwCl base tys ad ks) (fun q : Nat => base ≤ q)) #[.ref a0, .ref a1, .int x2] s 0 0 (fun q : Nat => base ≤ q)) (F0 m 76 ls [.int w20_0, .int f18, .int 7, .ref a1]) := by
        intro locs ls w20_0 hS hl hw20_0
        refine lv_iadd X.1 X.2.1 dX12_grows_76 ?_
        refine lv_topi (fun f21 ef21 => ?_)
        refine as_55 X hK hG hS h1 (iv_vpin (iv_c 7 (a := 7) (b := 7) (by decide +kernel)) (by decide +kernel)) (sg_at_now (a := (-2147483648)) (b := 2147483647) (iv_c 7 (a := 7) (b := 7) (by decide +kernel)) (by decide +kernel) rfl (iv_top f21)) dX12_grows_77 (fun H locs hG hS ru22 => ?_)
        refine lv_aload_n X.1 X.2.1 dX12_grows_78 rfl (lv_at hl 0 rfl) ?_
        refine lv_iconst (v := 0) X.1 X.2.1 dX12_grows_79 (by decide +kernel) ?_
        refine lv_iload_n X.1 X.2.1 dX12_grows_80 rfl (lv_at hl 1 rfl) ?_
        refine lv_iconst (v := 0) X.1 X.2.1 dX12_grows_81 (by decide +kernel) ?_
        refine lv_iconst (v := 0) X.1 X.2.1 dX12_grows_82 (by decide +kernel) ?_
        refine ca_X12_writes_t X hK hG hC hS hb a1 h1 0 x2 0 0 wl_8_110 hl.1 (rest := []) rfl (Nat.le_of_ble_eq_true rfl) ⟨Nat.le_of_ble_eq_true rfl, Nat.le_of_ble_eq_true rfl⟩ ⟨Nat.le_of_ble_eq_true rfl, Nat.le_of_ble_eq_true rfl⟩ dX12_grows_83 (fun H locs hG hS => ?_)
        exact sg_vret X hr hlk hb hK hC hG hS dX12_grows_86
      have B24_75 : ∀ (locs : List Loc) (ls : Array Slot), va_S (fun q : Nat => base ≤ q) s.heap H locs → lv_has ls 4 [(1, .ref a1), (2, .int x2)] → W p l e (headSpec (Cond.code yX12_grows cX12_grows 4 none :: sg_tbl) ({ frames := 35, cells := 0, slots := 0, locals := 819 })).room s m #[.ref a0, .ref a1, .int x2] below meth c H locs 0 0 (MQ below (va_Qv (fun (_ : Unit) => True) (fun _ => sgB (KT P) D vwCl base tys ad ks) (fun q : Nat => base ≤ q)) #[.ref a0, .ref a1, .int x2] s 0 0 (fun q : Nat => base ≤ q)) (F0 m 75 ls [.int f18, .int 7, .ref a1]) := by
        intro locs ls hS hl
        refine lv_iconst (v := 0) X.1 X.2.1 dX12_grows_75 (by decide +kernel) ?_
        exact B20_76 _ _ 0 hS (lv_sub hl [0, 1] rfl) (iv_of (iv_c 0 (a := 0) (b := 0) (by decide +kernel)) (a' := 0) (b' := 1) (by decide +kernel))
      refine lv_if_eq (tgt := 75) X.1 X.2.1 dX12_grows_62 (by decide) (fun c19 => ?_) (fun c19 => ?_)
      · exact B24_75 _ _ hS (lv_sub hl [0, 1] rfl)
      · refine lv_aload_n X.1 X.2.1 dX12_grows_65 rfl (lv_at hl 0 rfl) ?_
        refine lv_iconst (v := 3) X.1 X.2.1 dX12_grows_66 (by decide +kernel) ?_
        refine al_55 X hK hG h1 (iv_vpin (iv_c 3 (a := 3) (b := 3) (by decide +kernel)) (by decide +kernel)) dX12_grows_67 (fun f25 hf25 => ?_)
        have of25 := hf25
        have hf25 : iv (-2147483648) 2147483647 f25 := sg_sp_now hf25 (iv_c 3 (a := 3) (b := 3) (by decide +kernel)) (by decide +kernel) rfl
        refine lv_if_ne (tgt := 75) X.1 X.2.1 dX12_grows_68 (by decide) (fun c26 => ?_) (fun c26 => ?_)
        · exact B24_75 _ _ hS (lv_sub hl [0, 1] rfl)
        · refine lv_iconst (v := 1) X.1 X.2.1 dX12_grows_71 (by decide +kernel) ?_
          refine lv_goto (tgt := 76) X.1 X.2.1 dX12_grows_72 (by decide) ?_
          exact B20_76 _ _ 1 hS (lv_sub hl [0, 1] rfl) (iv_of (iv_c 1 (a := 1) (b := 1) (by decide +kernel)) (a' := 0) (b' := 1) (by decide +kernel))
    refine lv_if_eq (tgt := 54) X.1 X.2.1 dX12_grows_47 (by decide) (fun c15 => ?_) (fun c15 => ?_)
    · refine lv_iconst (v := 0) X.1 X.2.1 dX12_grows_54 (by decide +kernel) ?_
      exact B16_55 _ _ 0 hS (lv_sub hl [2, 3, 0] rfl) (iv_of (iv_c 0 (a := 0) (b := 0) (by decide +kernel)) (a' := 0) (b' := 1) (by decide +kernel))
    · refine lv_iconst (v := 1) X.1 X.2.1 dX12_grows_50 (by decide +kernel) ?_
      refine lv_goto (tgt := 55) X.1 X.2.1 dX12_grows_51 (by decide) ?_
      exact B16_55 _ _ 1 hS (lv_sub hl [2, 3, 0] rfl) (iv_of (iv_c 1 (a := 1) (b := 1) (by decide +kernel)) (a' := 0) (b' := 1) (by decide +kernel))
  refine lv_if_eq (tgt := 20) X.1 X.2.1 dX12_grows_13 (by decide) (fun c5 => ?_) (fun c5 => ?_)
  · refine lv_iconst (v := 0) X.1 X.2.1 dX12_grows_20 (by decide +kernel) ?_
    exact B6_21 _ _ 0 hS (lv_sub hl [0, 1, 2] rfl) (iv_of (iv_c 0 (a := 0) (b := 0) (by decide +kernel)) (a' := 0) (b' := 1) (by decide +kernel))
  · refine lv_iconst (v := 1) X.1 X.2.1 dX12_grows_16 (by decide +kernel) ?_
    refine lv_goto (tgt := 21) X.1 X.2.1 dX12_grows_17 (by decide) ?_
    exact B6_21 _ _ 1 hS (lv_sub hl [0, 1, 2] rfl) (iv_of (iv_c 1 (a := 1) (b := 1) (by decide +kernel)) (a' := 0) (b' := 1) (by decide +kernel))

theorem ca_X12_grows_1_t   (X : CallFix p m c cc nL s args sg_tbl own) (hK : va_K D vwCl tys s) (hG : sgG (KT P) D vwCl (fun q : Nat => base ≤ q) tys ad ks H) (hC : sgC base s) (hS : va_S (fun q : Nat => base ≤ q) s.heap H locs) (hb : base ≤ s.heap.size) (hp4 : P.2.2.2.2.1 = true) (a0 : Nat) (h0 : isK ad ks 12 a0) (a1 : Nat) (h1 : isK ad ks 55 a1) (x2 : Int32) (hl : Cond.methodLink own index yX12_grows ∈ sg_tbl) (hsize : ls.size = nL) (hst : st0 = [.ref a1, .int x2].reverse ++ .ref a0 :: rest) (hW : (rest.map fun v => v.category).sum ≤ 8) (hR : 36 ≤ R.frames ∧ 842 ≤ R.locals) (hf : cells ≤ R.cells ∧ slots ≤ R.slots) (hdg : decode cc pc = .ok (.invokevirtual index, 3)) (kk : ∀ (H1 : Heap) (locs1 : List Loc), sgG (KT P) D vwCl (fun q : Nat => base ≤ q) tys ad ks H1 → va_S (fun q : Nat => base ≤ q) s.heap H1 locs1 → W p l e R s m args below meth c H1 locs1 cells slots Q (F0 m (pc + 3) ls rest)) : W p l e R s m args below meth c H locs cells slots Q (F0 m pc ls st0) :=
  sg_callVv X hK hG hC hS hb (m_X12_grows_1_t l hp4 a0 h0 a1 h1 x2) h0 (k := 12) (ci := 12) rfl (C := RX12) (T := TX12) (N := 53) rfl wl_8_105 wl_1_13 wl_8_104 wl_0_79 (n := 2) (by decide +kernel) rfl rfl rfl hl hsize hst hW hR hf hdg kk

set_option maxHeartbeats 8000000 in
set_option maxRecDepth 100000 in
theorem m_X12_mows_1_t (l : Launch) {D : va_G} {base : Nat} {tys : List (ClassId × FieldType)} {ad ks : List Nat} {P : sgPm} (hp4 : P.2.2.2.2.1 = true) (a0 : Nat) (h0 : isK ad ks 12 a0) (a1 : Nat) (h1 : isK ad ks 55 a1) (x2 : Int32) (x3 : Int32) (x4 : Int32) (hN : sgN P + 1 ≤ 1000000000) : Met l yX12_mows (Cond.code yX12_mows cX12_mows 5 none :: sg_tbl) ({ frames := 3, cells := 0, slots := 0, locals := 75 }) (va_Pc [.ref a0, .ref a1, .int x2, .int x3, .int x4] (sgB (KT P) D vwCl base tys ad ks)) (va_Qv (fun (_ : Unit) => True) (fun _ => sgB (KT (sgAt P (sgN P + 1))) D vwCl base tys ad ks) (fun q : Nat => base ≤ q)) 0 0 (fun q : Nat => base ≤ q) := by
  refine sg_ofW (by decide +kernel) (Nat.le_of_ble_eq_true rfl) (fun p e s m below meth c X hr hlk hb hK hC hG ls hl => ?_)
  have hS : va_S (fun q : Nat => base ≤ q) s.heap s.heap [] := va_S.rf
  have hl : lv_has ls 5 [(0, .ref a0), (1, .ref a1), (2, .int x2), (3, .int x3), (4, .int x4)] := hl
  refine lv_aload_n X.1 X.2.1 dX12_mows_0 rfl (lv_at hl 1 rfl) ?_
  refine lv_iconst (v := 0) X.1 X.2.1 dX12_mows_1 (by decide +kernel) ?_
  refine lv_dup2_11 X.1 X.2.1 dX12_mows_2 rfl rfl ?_
  refine al_55 X hK hG h1 (iv_vpin (iv_c 0 (a := 0) (b := 0) (by decide +kernel)) (by decide +kernel)) dX12_mows_3 (fun f1 hf1 => ?_)
  have of1 := hf1
  have hf1 : iv (-2147483648) 2147483647 f1 := sg_sp_now hf1 (iv_c 0 (a := 0) (b := 0) (by decide +kernel)) (by decide +kernel) rfl
  refine lv_aload_n X.1 X.2.1 dX12_mows_4 rfl (lv_at hl 0 rfl) ?_
  refine lv_aload_n X.1 X.2.1 dX12_mows_5 rfl (lv_at hl 1 rfl) ?_
  refine lv_iconst (v := 0) X.1 X.2.1 dX12_mows_6 (by decide +kernel) ?_
  refine al_55 X hK hG h1 (iv_vpin (iv_c 0 (a := 0) (b := 0) (by decide +kernel)) (by decide +kernel)) dX12_mows_7 (fun f2 hf2 => ?_)
  have of2 := hf2
  have hf2 : iv (-2147483648) 2147483647 f2 := sg_sp_now hf2 (iv_c 0 (a := 0) (b := 0) (by decide +kernel)) (by decide +kernel) rfl
  refine lv_iload_n X.1 X.2.1 dX12_mows_8 rfl (lv_at hl 2 rfl) ?_
  refine lv_iload_n X.1 X.2.1 dX12_mows_9 rfl (lv_at hl 3 rfl) ?_
  refine lv_iload X.1 X.2.1 dX12_mows_10 (lv_at hl 4 rfl) ?_
  refine ca_X12_cutBits_1 X hK hG hC (fun _ h => h) hS hb hp4 a0 h0 f2 x2 x3 x4 wl_8_121 hl.1 (rest := [.int f1, .int 0, .ref a1]) rfl (Nat.le_of_ble_eq_true rfl) ⟨Nat.le_of_ble_eq_true rfl, Nat.le_of_ble_eq_true rfl⟩ ⟨Nat.le_of_ble_eq_true rfl, Nat.le_of_ble_eq_true rfl⟩ dX12_mows_12 (fun f3 locs hf3 hS => ?_)
  refine lv_iconst (v := (-1)) X.1 X.2.1 dX12_mows_15 (by decide +kernel) ?_
  refine lv_ixor X.1 X.2.1 dX12_mows_16 ?_
  refine lv_topi (fun f4 ef4 => ?_)
  refine lv_iand X.1 X.2.1 dX12_mows_17 ?_
  refine lv_topi (fun f5 ef5 => ?_)
  refine as_55 X hK hG hS h1 (iv_vpin (iv_c 0 (a := 0) (b := 0) (by decide +kernel)) (by decide +kernel)) (sg_at_now (a := (-2147483648)) (b := 2147483647) (iv_c 0 (a := 0) (b := 0) (by decide +kernel)) (by decide +kernel) rfl (iv_top f5)) dX12_mows_18 (fun H locs hG hS ru6 => ?_)
  refine lv_aload_n X.1 X.2.1 dX12_mows_19 rfl (lv_at hl 1 rfl) ?_
  refine lv_iconst (v := 2) X.1 X.2.1 dX12_mows_20 (by decide +kernel) ?_
  refine lv_iconst (v := 0) X.1 X.2.1 dX12_mows_21 (by decide +kernel) ?_
  refine as_55 X hK hG hS h1 (iv_vpin (iv_c 2 (a := 2) (b := 2) (by decide +kernel)) (by decide +kernel)) (sg_at_now (a := 0) (b := 1) (iv_c 2 (a := 2) (b := 2) (by decide +kernel)) (by decide +kernel) rfl (iv_of (iv_c 0 (a := 0) (b := 0) (by decide +kernel)) (a' := 0) (b' := 1) (by decide +kernel))) dX12_mows_22 (fun H locs hG hS ru7 => ?_)
  refine lv_aload_n X.1 X.2.1 dX12_mows_23 rfl (lv_at hl 1 rfl) ?_
  refine lv_iconst (v := 4) X.1 X.2.1 dX12_mows_24 (by decide +kernel) ?_
  refine lv_dup2_11 X.1 X.2.1 dX12_mows_25 rfl rfl ?_
  refine al_55 X hK hG h1 (iv_vpin (iv_c 4 (a := 4) (b := 4) (by decide +kernel)) (by decide +kernel)) dX12_mows_26 (fun f8 hf8 => ?_)
  have of8 := hf8
  have hf8 : iv 0 1000000000 f8 := sg_day hf8 (iv_c 4 (a := 4) (b := 4) (by decide +kernel))
  refine lv_iconst (v := 1) X.1 X.2.1 dX12_mows_27 (by decide +kernel) ?_
  refine lv_iadd X.1 X.2.1 dX12_mows_28 ?_
  refine lv_topi (fun f9 ef9 => ?_)
  have hG : sgG (KT (sgAt P ((sgN P) + 1))) D vwCl _ tys ad ks _ := sg_moreN (P := P) (show (sgN P) ≤ ((sgN P) + 1) from by omega) hG
  refine as_55 X hK hG hS h1 (iv_vpin (iv_c 4 (a := 4) (b := 4) (by decide +kernel)) (by decide +kernel)) (sg_dayup (N := (sgN P)) (n' := ((sgN P) + 1)) of8 (iv_c 4 (a := 4) (b := 4) (by decide +kernel)) (iv_c 4 (a := 4) (b := 4) (by decide +kernel)) (iv_of (iv_c 1 (a := 1) (b := 1) (by decide +kernel)) (a' := 0) (b' := 1) (by decide +kernel)) ef9 (by omega) (by omega)) dX12_mows_29 (fun H locs hG hS ru10 => ?_)
  refine lv_aload_n X.1 X.2.1 dX12_mows_30 rfl (lv_at hl 1 rfl) ?_
  refine lv_iconst (v := 1) X.1 X.2.1 dX12_mows_31 (by decide +kernel) ?_
  refine lv_iload_n X.1 X.2.1 dX12_mows_32 rfl (lv_at hl 2 rfl) ?_
  refine lv_iload X.1 X.2.1 dX12_mows_33 (lv_at hl 4 rfl) ?_
  refine lv_iconst (v := 1) X.1 X.2.1 dX12_mows_35 (by decide +kernel) ?_
  have B12_44 : ∀ (locs : List Loc) (ls : Array Slot) (w12_0 : Int32), va_S (fun q : Nat => base ≤ q) s.heap H locs → lv_has ls 5 [(4, .int x4)] → W p l e (headSpec (Cond.code yX12_mows cX12_mows 5 none :: sg_tbl) ({ frames := 3, cells := 0, slots := 0, locals := 75 })).room s m #[.ref a0, .ref a1, .int x2, .int x3, .int x4] below meth c H locs 0 0 (MQ below (va_Qv (fun (_ : Unit) => True) (fun _ => sgB (KT (sgAt P (sgN P + 1))) D vwCl base tys ad ks) (fun q : Nat => base ≤ q)) #[.ref a0, .ref a1, .int x2, .int x3, .int x4] s 0 0 (fun q : Nat => base ≤ q)) (F0 m 44 ls [.int w12_0, .int x2, .int 1, .ref a1]) := by
    intro locs ls w12_0 hS hl
    refine lv_iload X.1 X.2.1 dX12_mows_44 (lv_at hl 0 rfl) ?_
    refine ca_X12_writes_t X hK hG hC hS hb a1 h1 1 x2 w12_0 x4 wl_8_110 hl.1 (rest := []) rfl (Nat.le_of_ble_eq_true rfl) ⟨Nat.le_of_ble_eq_true rfl, Nat.le_of_ble_eq_true rfl⟩ ⟨Nat.le_of_ble_eq_true rfl, Nat.le_of_ble_eq_true rfl⟩ dX12_mows_46 (fun H locs hG hS => ?_)
    have hG : sgG (KT (sgAt P (sgN P + 1))) D vwCl _ tys ad ks _ := sg_moreN (P := (sgAt P ((sgN P) + 1))) (show ((sgN P) + 1) ≤ (sgN P + 1) from by omega) hG
    exact sg_vret2 X hr hlk hS (fun t ht hW => sg_post hb hK hC hG hS ht hW) dX12_mows_49
  refine lv_icmp_ne (tgt := 43) X.1 X.2.1 dX12_mows_36 (by decide) (fun c11 => ?_) (fun c11 => ?_)
  · refine lv_iload_n X.1 X.2.1 dX12_mows_43 rfl (lv_at hl 3 rfl) ?_
    exact B12_44 _ _ x3 hS (lv_sub hl [4] rfl)
  · refine lv_iconst (v := 0) X.1 X.2.1 dX12_mows_39 (by decide +kernel) ?_
    refine lv_goto (tgt := 44) X.1 X.2.1 dX12_mows_40 (by decide) ?_
    exact B12_44 _ _ 0 hS (lv_sub hl [4] rfl)

theorem ca_X12_mows_1_t   (X : CallFix p m c cc nL s args sg_tbl own) (hK : va_K D vwCl tys s) (hG : sgG (KT P) D vwCl (fun q : Nat => base ≤ q) tys ad ks H) (hC : sgC base s) (hS : va_S (fun q : Nat => base ≤ q) s.heap H locs) (hb : base ≤ s.heap.size) (hp4 : P.2.2.2.2.1 = true) (a0 : Nat) (h0 : isK ad ks 12 a0) (a1 : Nat) (h1 : isK ad ks 55 a1) (x2 : Int32) (x3 : Int32) (x4 : Int32) (hN : sgN P + 1 ≤ 1000000000) (hl : Cond.methodLink own index yX12_mows ∈ sg_tbl) (hsize : ls.size = nL) (hst : st0 = [.ref a1, .int x2, .int x3, .int x4].reverse ++ .ref a0 :: rest) (hW : (rest.map fun v => v.category).sum ≤ 8) (hR : 4 ≤ R.frames ∧ 99 ≤ R.locals) (hf : cells ≤ R.cells ∧ slots ≤ R.slots) (hdg : decode cc pc = .ok (.invokevirtual index, 3)) (kk : ∀ (t : State) (H1 : Heap) (locs1 : List Loc), t.heap = H1 → (sgB (KT (sgAt P (sgN P + 1))) D vwCl base tys ad ks t) → va_S (fun q : Nat => base ≤ q) s.heap H1 locs1 → W p l e R s m args below meth c H1 locs1 cells slots Q (F0 m (pc + 3) ls rest)) : W p l e R s m args below meth c H locs cells slots Q (F0 m pc ls st0) :=
  sg_callV2v X hK hG hC hS hb (m_X12_mows_1_t l hp4 a0 h0 a1 h1 x2 x3 x4 hN) h0 (k := 12) (ci := 12) rfl (C := RX12) (T := TX12) (N := 53) rfl wl_8_128 wl_1_13 wl_8_127 wl_0_83 (n := 4) (by decide +kernel) rfl rfl rfl hl hsize hst hW hR hf hdg kk
end
