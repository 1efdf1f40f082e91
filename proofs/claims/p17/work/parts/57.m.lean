abbrev cX12_canMove : ByteArray := prog_14_method_80_code
def yX12_canMove : MethodName := ⟨RX12, "canMove", "([III)Z"⟩
abbrev cX12_cellOf : ByteArray := prog_14_method_79_code
def yX12_cellOf : MethodName := ⟨RX12, "cellOf", "([II)I"⟩
abbrev cX12_forced : ByteArray := prog_14_method_98_code
def yX12_forced : MethodName := ⟨RX12, "forced", "()I"⟩
abbrev cX12_moves : ByteArray := prog_14_method_81_code
def yX12_moves : MethodName := ⟨RX12, "moves", "([III)V"⟩
theorem dX12_canMove_0 : decode cX12_canMove 0 = .ok (.aload_n 0, 1) := by decide +kernel
theorem dX12_canMove_1 : decode cX12_canMove 1 = .ok (.getfield 46, 3) := by decide +kernel
theorem dX12_canMove_4 : decode cX12_canMove 4 = .ok (.iload_n 2, 1) := by decide +kernel
theorem dX12_canMove_5 : decode cX12_canMove 5 = .ok (.iaload, 1) := by decide +kernel
theorem dX12_canMove_6 : decode cX12_canMove 6 = .ok (.tableswitch 63 0 2 #[26, 33, 56], 26) := by decide +kernel
theorem dX12_canMove_32 : decode cX12_canMove 32 = .ok (.aload_n 0, 1) := by decide +kernel
theorem dX12_canMove_33 : decode cX12_canMove 33 = .ok (.aload_n 1, 1) := by decide +kernel
theorem dX12_canMove_34 : decode cX12_canMove 34 = .ok (.iload_n 3, 1) := by decide +kernel
theorem dX12_canMove_35 : decode cX12_canMove 35 = .ok (.invokevirtual 375, 3) := by decide +kernel
theorem dX12_canMove_38 : decode cX12_canMove 38 = .ok (.ireturn, 1) := by decide +kernel
theorem dX12_canMove_39 : decode cX12_canMove 39 = .ok (.aload_n 0, 1) := by decide +kernel
theorem dX12_canMove_40 : decode cX12_canMove 40 = .ok (.aload_n 1, 1) := by decide +kernel
theorem dX12_canMove_41 : decode cX12_canMove 41 = .ok (.iload_n 3, 1) := by decide +kernel
theorem dX12_canMove_42 : decode cX12_canMove 42 = .ok (.aload_n 0, 1) := by decide +kernel
theorem dX12_canMove_43 : decode cX12_canMove 43 = .ok (.getfield 46, 3) := by decide +kernel
theorem dX12_canMove_46 : decode cX12_canMove 46 = .ok (.iload_n 2, 1) := by decide +kernel
theorem dX12_canMove_47 : decode cX12_canMove 47 = .ok (.iconst 2, 1) := by decide +kernel
theorem dX12_canMove_48 : decode cX12_canMove 48 = .ok (.iadd, 1) := by decide +kernel
theorem dX12_canMove_49 : decode cX12_canMove 49 = .ok (.iaload, 1) := by decide +kernel
theorem dX12_canMove_50 : decode cX12_canMove 50 = .ok (.aload_n 0, 1) := by decide +kernel
theorem dX12_canMove_51 : decode cX12_canMove 51 = .ok (.getfield 46, 3) := by decide +kernel
theorem dX12_canMove_54 : decode cX12_canMove 54 = .ok (.iload_n 2, 1) := by decide +kernel
theorem dX12_canMove_55 : decode cX12_canMove 55 = .ok (.iconst 3, 1) := by decide +kernel
theorem dX12_canMove_56 : decode cX12_canMove 56 = .ok (.iadd, 1) := by decide +kernel
theorem dX12_canMove_57 : decode cX12_canMove 57 = .ok (.iaload, 1) := by decide +kernel
theorem dX12_canMove_58 : decode cX12_canMove 58 = .ok (.invokevirtual 390, 3) := by decide +kernel
theorem dX12_canMove_61 : decode cX12_canMove 61 = .ok (.ireturn, 1) := by decide +kernel
theorem dX12_canMove_62 : decode cX12_canMove 62 = .ok (.aload_n 0, 1) := by decide +kernel
theorem dX12_canMove_63 : decode cX12_canMove 63 = .ok (.aload_n 1, 1) := by decide +kernel
theorem dX12_canMove_64 : decode cX12_canMove 64 = .ok (.iload_n 3, 1) := by decide +kernel
theorem dX12_canMove_65 : decode cX12_canMove 65 = .ok (.invokevirtual 402, 3) := by decide +kernel
theorem dX12_canMove_68 : decode cX12_canMove 68 = .ok (.ireturn, 1) := by decide +kernel
theorem dX12_canMove_69 : decode cX12_canMove 69 = .ok (.aload_n 0, 1) := by decide +kernel
theorem dX12_canMove_70 : decode cX12_canMove 70 = .ok (.aload_n 1, 1) := by decide +kernel
theorem dX12_canMove_71 : decode cX12_canMove 71 = .ok (.invokevirtual 363, 3) := by decide +kernel
theorem dX12_canMove_74 : decode cX12_canMove 74 = .ok (.ireturn, 1) := by decide +kernel
theorem dX12_cellOf_0 : decode cX12_cellOf 0 = .ok (.aload_n 0, 1) := by decide +kernel
theorem dX12_cellOf_1 : decode cX12_cellOf 1 = .ok (.getfield 46, 3) := by decide +kernel
theorem dX12_cellOf_4 : decode cX12_cellOf 4 = .ok (.iload_n 2, 1) := by decide +kernel
theorem dX12_cellOf_5 : decode cX12_cellOf 5 = .ok (.iaload, 1) := by decide +kernel
theorem dX12_cellOf_6 : decode cX12_cellOf 6 = .ok (.ifCond .ne 23, 3) := by decide +kernel
theorem dX12_cellOf_9 : decode cX12_cellOf 9 = .ok (.aload_n 0, 1) := by decide +kernel
theorem dX12_cellOf_10 : decode cX12_cellOf 10 = .ok (.getfield 46, 3) := by decide +kernel
theorem dX12_cellOf_13 : decode cX12_cellOf 13 = .ok (.iload_n 2, 1) := by decide +kernel
theorem dX12_cellOf_14 : decode cX12_cellOf 14 = .ok (.iconst 1, 1) := by decide +kernel
theorem dX12_cellOf_15 : decode cX12_cellOf 15 = .ok (.iadd, 1) := by decide +kernel
theorem dX12_cellOf_16 : decode cX12_cellOf 16 = .ok (.iaload, 1) := by decide +kernel
theorem dX12_cellOf_17 : decode cX12_cellOf 17 = .ok (.iconst (-1), 1) := by decide +kernel
theorem dX12_cellOf_18 : decode cX12_cellOf 18 = .ok (.if_icmp .ne 11, 3) := by decide +kernel
theorem dX12_cellOf_21 : decode cX12_cellOf 21 = .ok (.aload_n 0, 1) := by decide +kernel
theorem dX12_cellOf_22 : decode cX12_cellOf 22 = .ok (.aload_n 1, 1) := by decide +kernel
theorem dX12_cellOf_23 : decode cX12_cellOf 23 = .ok (.invokevirtual 446, 3) := by decide +kernel
theorem dX12_cellOf_26 : decode cX12_cellOf 26 = .ok (.goto 11, 3) := by decide +kernel
theorem dX12_cellOf_29 : decode cX12_cellOf 29 = .ok (.aload_n 0, 1) := by decide +kernel
theorem dX12_cellOf_30 : decode cX12_cellOf 30 = .ok (.getfield 46, 3) := by decide +kernel
theorem dX12_cellOf_33 : decode cX12_cellOf 33 = .ok (.iload_n 2, 1) := by decide +kernel
theorem dX12_cellOf_34 : decode cX12_cellOf 34 = .ok (.iconst 1, 1) := by decide +kernel
theorem dX12_cellOf_35 : decode cX12_cellOf 35 = .ok (.iadd, 1) := by decide +kernel
theorem dX12_cellOf_36 : decode cX12_cellOf 36 = .ok (.iaload, 1) := by decide +kernel
theorem dX12_cellOf_37 : decode cX12_cellOf 37 = .ok (.ireturn, 1) := by decide +kernel
theorem dX12_forced_0 : decode cX12_forced 0 = .ok (.aload_n 0, 1) := by decide +kernel
theorem dX12_forced_1 : decode cX12_forced 1 = .ok (.iconst 0, 1) := by decide +kernel
theorem dX12_forced_2 : decode cX12_forced 2 = .ok (.putfield 94, 3) := by decide +kernel
theorem dX12_forced_5 : decode cX12_forced 5 = .ok (.aload_n 0, 1) := by decide +kernel
theorem dX12_forced_6 : decode cX12_forced 6 = .ok (.invokevirtual 484, 3) := by decide +kernel
theorem dX12_forced_9 : decode cX12_forced 9 = .ok (.ifCond .ne 5, 3) := by decide +kernel
theorem dX12_forced_12 : decode cX12_forced 12 = .ok (.iconst (-1), 1) := by decide +kernel
theorem dX12_forced_13 : decode cX12_forced 13 = .ok (.ireturn, 1) := by decide +kernel
theorem dX12_forced_14 : decode cX12_forced 14 = .ok (.aload_n 0, 1) := by decide +kernel
theorem dX12_forced_15 : decode cX12_forced 15 = .ok (.aload_n 0, 1) := by decide +kernel
theorem dX12_forced_16 : decode cX12_forced 16 = .ok (.getfield 52, 3) := by decide +kernel
theorem dX12_forced_19 : decode cX12_forced 19 = .ok (.iconst 0, 1) := by decide +kernel
theorem dX12_forced_20 : decode cX12_forced 20 = .ok (.iaload, 1) := by decide +kernel
theorem dX12_forced_21 : decode cX12_forced 21 = .ok (.aload_n 0, 1) := by decide +kernel
theorem dX12_forced_22 : decode cX12_forced 22 = .ok (.getfield 52, 3) := by decide +kernel
theorem dX12_forced_25 : decode cX12_forced 25 = .ok (.iconst 1, 1) := by decide +kernel
theorem dX12_forced_26 : decode cX12_forced 26 = .ok (.iaload, 1) := by decide +kernel
theorem dX12_forced_27 : decode cX12_forced 27 = .ok (.aload_n 0, 1) := by decide +kernel
theorem dX12_forced_28 : decode cX12_forced 28 = .ok (.getfield 52, 3) := by decide +kernel
theorem dX12_forced_31 : decode cX12_forced 31 = .ok (.iconst 4, 1) := by decide +kernel
theorem dX12_forced_32 : decode cX12_forced 32 = .ok (.iaload, 1) := by decide +kernel
theorem dX12_forced_33 : decode cX12_forced 33 = .ok (.invokevirtual 419, 3) := by decide +kernel
theorem dX12_forced_36 : decode cX12_forced 36 = .ok (.istore_n 1, 1) := by decide +kernel
theorem dX12_forced_37 : decode cX12_forced 37 = .ok (.iconst 0, 1) := by decide +kernel
theorem dX12_forced_38 : decode cX12_forced 38 = .ok (.istore_n 2, 1) := by decide +kernel
theorem dX12_forced_39 : decode cX12_forced 39 = .ok (.iload_n 2, 1) := by decide +kernel
theorem dX12_forced_40 : decode cX12_forced 40 = .ok (.aload_n 0, 1) := by decide +kernel
theorem dX12_forced_41 : decode cX12_forced 41 = .ok (.getfield 302, 3) := by decide +kernel
theorem dX12_forced_44 : decode cX12_forced 44 = .ok (.if_icmp .ge 27, 3) := by decide +kernel
theorem dX12_forced_47 : decode cX12_forced 47 = .ok (.iload_n 1, 1) := by decide +kernel
theorem dX12_forced_48 : decode cX12_forced 48 = .ok (.iload_n 2, 1) := by decide +kernel
theorem dX12_forced_49 : decode cX12_forced 49 = .ok (.invokestatic 227, 3) := by decide +kernel
theorem dX12_forced_52 : decode cX12_forced 52 = .ok (.ifCond .eq 13, 3) := by decide +kernel
theorem dX12_forced_55 : decode cX12_forced 55 = .ok (.aload_n 0, 1) := by decide +kernel
theorem dX12_forced_56 : decode cX12_forced 56 = .ok (.iload_n 2, 1) := by decide +kernel
theorem dX12_forced_57 : decode cX12_forced 57 = .ok (.invokevirtual 487, 3) := by decide +kernel
theorem dX12_forced_60 : decode cX12_forced 60 = .ok (.ifCond .ne 5, 3) := by decide +kernel
theorem dX12_forced_63 : decode cX12_forced 63 = .ok (.iload_n 2, 1) := by decide +kernel
theorem dX12_forced_64 : decode cX12_forced 64 = .ok (.ireturn, 1) := by decide +kernel
theorem dX12_forced_65 : decode cX12_forced 65 = .ok (.iinc 2 1, 3) := by decide +kernel
theorem dX12_forced_68 : decode cX12_forced 68 = .ok (.goto (-29), 3) := by decide +kernel
theorem dX12_forced_71 : decode cX12_forced 71 = .ok (.iconst (-1), 1) := by decide +kernel
theorem dX12_forced_72 : decode cX12_forced 72 = .ok (.ireturn, 1) := by decide +kernel
theorem dX12_lowest_8 : decode cX12_lowest 8 = .ok (.aload_n 1, 1) := by decide +kernel
theorem dX12_lowest_9 : decode cX12_lowest 9 = .ok (.iconst 2, 1) := by decide +kernel
theorem dX12_lowest_10 : decode cX12_lowest 10 = .ok (.iaload, 1) := by decide +kernel
theorem dX12_lowest_11 : decode cX12_lowest 11 = .ok (.ifCond .ne 19, 3) := by decide +kernel
theorem dX12_lowest_14 : decode cX12_lowest 14 = .ok (.aload_n 0, 1) := by decide +kernel
theorem dX12_lowest_15 : decode cX12_lowest 15 = .ok (.aload_n 1, 1) := by decide +kernel
theorem dX12_lowest_16 : decode cX12_lowest 16 = .ok (.iconst 0, 1) := by decide +kernel
theorem dX12_lowest_17 : decode cX12_lowest 17 = .ok (.iaload, 1) := by decide +kernel
theorem dX12_lowest_18 : decode cX12_lowest 18 = .ok (.aload_n 1, 1) := by decide +kernel
theorem dX12_lowest_19 : decode cX12_lowest 19 = .ok (.iconst 1, 1) := by decide +kernel
theorem dX12_lowest_20 : decode cX12_lowest 20 = .ok (.iaload, 1) := by decide +kernel
theorem dX12_lowest_21 : decode cX12_lowest 21 = .ok (.aload_n 1, 1) := by decide +kernel
theorem dX12_lowest_22 : decode cX12_lowest 22 = .ok (.iconst 4, 1) := by decide +kernel
theorem dX12_lowest_23 : decode cX12_lowest 23 = .ok (.iaload, 1) := by decide +kernel
theorem dX12_lowest_24 : decode cX12_lowest 24 = .ok (.invokevirtual 419, 3) := by decide +kernel
theorem dX12_lowest_27 : decode cX12_lowest 27 = .ok (.goto 4, 3) := by decide +kernel
theorem dX12_lowest_40 : decode cX12_lowest 40 = .ok (.iload_n 2, 1) := by decide +kernel
theorem dX12_lowest_41 : decode cX12_lowest 41 = .ok (.invokestatic 443, 3) := by decide +kernel
theorem dX12_moves_0 : decode cX12_moves 0 = .ok (.aload_n 0, 1) := by decide +kernel
theorem dX12_moves_1 : decode cX12_moves 1 = .ok (.getfield 46, 3) := by decide +kernel
theorem dX12_moves_4 : decode cX12_moves 4 = .ok (.iload_n 2, 1) := by decide +kernel
theorem dX12_moves_5 : decode cX12_moves 5 = .ok (.iaload, 1) := by decide +kernel
theorem dX12_moves_6 : decode cX12_moves 6 = .ok (.tableswitch 68 0 2 #[26, 35, 60], 26) := by decide +kernel
theorem dX12_moves_32 : decode cX12_moves 32 = .ok (.aload_n 0, 1) := by decide +kernel
theorem dX12_moves_33 : decode cX12_moves 33 = .ok (.aload_n 1, 1) := by decide +kernel
theorem dX12_moves_34 : decode cX12_moves 34 = .ok (.iload_n 3, 1) := by decide +kernel
theorem dX12_moves_35 : decode cX12_moves 35 = .ok (.invokevirtual 382, 3) := by decide +kernel
theorem dX12_moves_38 : decode cX12_moves 38 = .ok (.goto 42, 3) := by decide +kernel
theorem dX12_moves_41 : decode cX12_moves 41 = .ok (.aload_n 0, 1) := by decide +kernel
theorem dX12_moves_42 : decode cX12_moves 42 = .ok (.aload_n 1, 1) := by decide +kernel
theorem dX12_moves_43 : decode cX12_moves 43 = .ok (.iload_n 3, 1) := by decide +kernel
theorem dX12_moves_44 : decode cX12_moves 44 = .ok (.aload_n 0, 1) := by decide +kernel
theorem dX12_moves_45 : decode cX12_moves 45 = .ok (.getfield 46, 3) := by decide +kernel
theorem dX12_moves_48 : decode cX12_moves 48 = .ok (.iload_n 2, 1) := by decide +kernel
theorem dX12_moves_49 : decode cX12_moves 49 = .ok (.iconst 2, 1) := by decide +kernel
theorem dX12_moves_50 : decode cX12_moves 50 = .ok (.iadd, 1) := by decide +kernel
theorem dX12_moves_51 : decode cX12_moves 51 = .ok (.iaload, 1) := by decide +kernel
theorem dX12_moves_52 : decode cX12_moves 52 = .ok (.aload_n 0, 1) := by decide +kernel
theorem dX12_moves_53 : decode cX12_moves 53 = .ok (.getfield 46, 3) := by decide +kernel
theorem dX12_moves_56 : decode cX12_moves 56 = .ok (.iload_n 2, 1) := by decide +kernel
theorem dX12_moves_57 : decode cX12_moves 57 = .ok (.iconst 3, 1) := by decide +kernel
theorem dX12_moves_58 : decode cX12_moves 58 = .ok (.iadd, 1) := by decide +kernel
theorem dX12_moves_59 : decode cX12_moves 59 = .ok (.iaload, 1) := by decide +kernel
theorem dX12_moves_60 : decode cX12_moves 60 = .ok (.invokevirtual 394, 3) := by decide +kernel
theorem dX12_moves_63 : decode cX12_moves 63 = .ok (.goto 17, 3) := by decide +kernel
theorem dX12_moves_66 : decode cX12_moves 66 = .ok (.aload_n 1, 1) := by decide +kernel
theorem dX12_moves_67 : decode cX12_moves 67 = .ok (.iload_n 3, 1) := by decide +kernel
theorem dX12_moves_68 : decode cX12_moves 68 = .ok (.invokestatic 405, 3) := by decide +kernel
theorem dX12_moves_71 : decode cX12_moves 71 = .ok (.goto 9, 3) := by decide +kernel
theorem dX12_moves_74 : decode cX12_moves 74 = .ok (.aload_n 1, 1) := by decide +kernel
theorem dX12_moves_75 : decode cX12_moves 75 = .ok (.invokestatic 398, 3) := by decide +kernel
theorem dX12_moves_78 : decode cX12_moves 78 = .ok (.istore 4, 2) := by decide +kernel
theorem dX12_moves_80 : decode cX12_moves 80 = .ok (.return_, 1) := by decide +kernel
theorem dX12_openings_14 : decode cX12_openings 14 = .ok (.aload_n 0, 1) := by decide +kernel
theorem dX12_openings_15 : decode cX12_openings 15 = .ok (.aload_n 0, 1) := by decide +kernel
theorem dX12_openings_16 : decode cX12_openings 16 = .ok (.getfield 52, 3) := by decide +kernel
theorem dX12_openings_19 : decode cX12_openings 19 = .ok (.iconst 0, 1) := by decide +kernel
theorem dX12_openings_20 : decode cX12_openings 20 = .ok (.iaload, 1) := by decide +kernel
theorem dX12_openings_21 : decode cX12_openings 21 = .ok (.aload_n 0, 1) := by decide +kernel
theorem dX12_openings_22 : decode cX12_openings 22 = .ok (.getfield 52, 3) := by decide +kernel
theorem dX12_openings_25 : decode cX12_openings 25 = .ok (.iconst 1, 1) := by decide +kernel
theorem dX12_openings_26 : decode cX12_openings 26 = .ok (.iaload, 1) := by decide +kernel
theorem dX12_openings_27 : decode cX12_openings 27 = .ok (.aload_n 0, 1) := by decide +kernel
theorem dX12_openings_28 : decode cX12_openings 28 = .ok (.getfield 52, 3) := by decide +kernel
theorem dX12_openings_31 : decode cX12_openings 31 = .ok (.iconst 4, 1) := by decide +kernel
theorem dX12_openings_32 : decode cX12_openings 32 = .ok (.iaload, 1) := by decide +kernel
theorem dX12_openings_33 : decode cX12_openings 33 = .ok (.invokevirtual 419, 3) := by decide +kernel
theorem dX12_openings_36 : decode cX12_openings 36 = .ok (.istore_n 1, 1) := by decide +kernel
theorem dX12_openings_37 : decode cX12_openings 37 = .ok (.iconst 0, 1) := by decide +kernel
theorem dX12_openings_38 : decode cX12_openings 38 = .ok (.istore_n 2, 1) := by decide +kernel
theorem dX12_openings_39 : decode cX12_openings 39 = .ok (.iconst 0, 1) := by decide +kernel
theorem dX12_openings_40 : decode cX12_openings 40 = .ok (.istore_n 3, 1) := by decide +kernel
theorem dX12_openings_41 : decode cX12_openings 41 = .ok (.iload_n 3, 1) := by decide +kernel
theorem dX12_openings_42 : decode cX12_openings 42 = .ok (.aload_n 0, 1) := by decide +kernel
theorem dX12_openings_43 : decode cX12_openings 43 = .ok (.getfield 302, 3) := by decide +kernel
theorem dX12_openings_46 : decode cX12_openings 46 = .ok (.if_icmp .ge 153, 3) := by decide +kernel
theorem dX12_openings_49 : decode cX12_openings 49 = .ok (.iload_n 1, 1) := by decide +kernel
theorem dX12_openings_50 : decode cX12_openings 50 = .ok (.iload_n 3, 1) := by decide +kernel
theorem dX12_openings_51 : decode cX12_openings 51 = .ok (.invokestatic 227, 3) := by decide +kernel
theorem dX12_openings_54 : decode cX12_openings 54 = .ok (.ifCond .ne 6, 3) := by decide +kernel
theorem dX12_openings_57 : decode cX12_openings 57 = .ok (.goto 136, 3) := by decide +kernel
theorem dX12_openings_60 : decode cX12_openings 60 = .ok (.iconst 1, 1) := by decide +kernel
theorem dX12_openings_61 : decode cX12_openings 61 = .ok (.istore 4, 2) := by decide +kernel
theorem dX12_openings_63 : decode cX12_openings 63 = .ok (.iconst 0, 1) := by decide +kernel
theorem dX12_openings_64 : decode cX12_openings 64 = .ok (.istore 5, 2) := by decide +kernel
theorem dX12_openings_66 : decode cX12_openings 66 = .ok (.iload 5, 2) := by decide +kernel
theorem dX12_openings_68 : decode cX12_openings 68 = .ok (.aload_n 0, 1) := by decide +kernel
theorem dX12_openings_69 : decode cX12_openings 69 = .ok (.invokevirtual 525, 3) := by decide +kernel
theorem dX12_openings_72 : decode cX12_openings 72 = .ok (.if_icmp .ge 108, 3) := by decide +kernel
theorem dX12_openings_75 : decode cX12_openings 75 = .ok (.aload_n 0, 1) := by decide +kernel
theorem dX12_openings_76 : decode cX12_openings 76 = .ok (.aload_n 0, 1) := by decide +kernel
theorem dX12_openings_77 : decode cX12_openings 77 = .ok (.getfield 52, 3) := by decide +kernel
theorem dX12_openings_80 : decode cX12_openings 80 = .ok (.iconst 0, 1) := by decide +kernel
theorem dX12_openings_81 : decode cX12_openings 81 = .ok (.iaload, 1) := by decide +kernel
theorem dX12_openings_82 : decode cX12_openings 82 = .ok (.iload 5, 2) := by decide +kernel
theorem dX12_openings_84 : decode cX12_openings 84 = .ok (.invokevirtual 528, 3) := by decide +kernel
theorem dX12_openings_87 : decode cX12_openings 87 = .ok (.aload_n 0, 1) := by decide +kernel
theorem dX12_openings_88 : decode cX12_openings 88 = .ok (.getfield 52, 3) := by decide +kernel
theorem dX12_openings_91 : decode cX12_openings 91 = .ok (.iconst 0, 1) := by decide +kernel
theorem dX12_openings_92 : decode cX12_openings 92 = .ok (.iaload, 1) := by decide +kernel
theorem dX12_openings_93 : decode cX12_openings 93 = .ok (.if_icmp .ne 45, 3) := by decide +kernel
theorem dX12_openings_96 : decode cX12_openings 96 = .ok (.aload_n 0, 1) := by decide +kernel
theorem dX12_openings_97 : decode cX12_openings 97 = .ok (.aload_n 0, 1) := by decide +kernel
theorem dX12_openings_98 : decode cX12_openings 98 = .ok (.getfield 305, 3) := by decide +kernel
theorem dX12_openings_101 : decode cX12_openings 101 = .ok (.iload 5, 2) := by decide +kernel
theorem dX12_openings_103 : decode cX12_openings 103 = .ok (.invokevirtual 528, 3) := by decide +kernel
theorem dX12_openings_106 : decode cX12_openings 106 = .ok (.aload_n 0, 1) := by decide +kernel
theorem dX12_openings_107 : decode cX12_openings 107 = .ok (.getfield 305, 3) := by decide +kernel
theorem dX12_openings_110 : decode cX12_openings 110 = .ok (.if_icmp .ne 28, 3) := by decide +kernel
theorem dX12_openings_113 : decode cX12_openings 113 = .ok (.aload_n 0, 1) := by decide +kernel
theorem dX12_openings_114 : decode cX12_openings 114 = .ok (.aload_n 0, 1) := by decide +kernel
theorem dX12_openings_115 : decode cX12_openings 115 = .ok (.getfield 52, 3) := by decide +kernel
theorem dX12_openings_118 : decode cX12_openings 118 = .ok (.iconst 1, 1) := by decide +kernel
theorem dX12_openings_119 : decode cX12_openings 119 = .ok (.iaload, 1) := by decide +kernel
theorem dX12_openings_120 : decode cX12_openings 120 = .ok (.iload 5, 2) := by decide +kernel
theorem dX12_openings_122 : decode cX12_openings 122 = .ok (.invokevirtual 528, 3) := by decide +kernel
theorem dX12_openings_125 : decode cX12_openings 125 = .ok (.aload_n 0, 1) := by decide +kernel
theorem dX12_openings_126 : decode cX12_openings 126 = .ok (.getfield 52, 3) := by decide +kernel
theorem dX12_openings_129 : decode cX12_openings 129 = .ok (.iconst 1, 1) := by decide +kernel
theorem dX12_openings_130 : decode cX12_openings 130 = .ok (.iaload, 1) := by decide +kernel
theorem dX12_openings_131 : decode cX12_openings 131 = .ok (.if_icmp .ne 7, 3) := by decide +kernel
theorem dX12_openings_134 : decode cX12_openings 134 = .ok (.iconst 1, 1) := by decide +kernel
theorem dX12_openings_135 : decode cX12_openings 135 = .ok (.goto 4, 3) := by decide +kernel
theorem dX12_openings_138 : decode cX12_openings 138 = .ok (.iconst 0, 1) := by decide +kernel
theorem dX12_openings_139 : decode cX12_openings 139 = .ok (.istore 6, 2) := by decide +kernel
theorem dX12_openings_141 : decode cX12_openings 141 = .ok (.iload 6, 2) := by decide +kernel
theorem dX12_openings_143 : decode cX12_openings 143 = .ok (.ifCond .eq 31, 3) := by decide +kernel
theorem dX12_openings_146 : decode cX12_openings 146 = .ok (.aload_n 0, 1) := by decide +kernel
theorem dX12_openings_147 : decode cX12_openings 147 = .ok (.iload_n 3, 1) := by decide +kernel
theorem dX12_openings_148 : decode cX12_openings 148 = .ok (.iload 5, 2) := by decide +kernel
theorem dX12_openings_150 : decode cX12_openings 150 = .ok (.invokevirtual 522, 3) := by decide +kernel
theorem dX12_openings_153 : decode cX12_openings 153 = .ok (.iload_n 3, 1) := by decide +kernel
theorem dX12_openings_154 : decode cX12_openings 154 = .ok (.if_icmp .ge 20, 3) := by decide +kernel
theorem dX12_openings_157 : decode cX12_openings 157 = .ok (.iload_n 1, 1) := by decide +kernel
theorem dX12_openings_158 : decode cX12_openings 158 = .ok (.aload_n 0, 1) := by decide +kernel
theorem dX12_openings_159 : decode cX12_openings 159 = .ok (.iload_n 3, 1) := by decide +kernel
theorem dX12_openings_160 : decode cX12_openings 160 = .ok (.iload 5, 2) := by decide +kernel
theorem dX12_openings_162 : decode cX12_openings 162 = .ok (.invokevirtual 522, 3) := by decide +kernel
theorem dX12_openings_165 : decode cX12_openings 165 = .ok (.invokestatic 227, 3) := by decide +kernel
theorem dX12_openings_168 : decode cX12_openings 168 = .ok (.ifCond .eq 6, 3) := by decide +kernel
theorem dX12_openings_171 : decode cX12_openings 171 = .ok (.iconst 0, 1) := by decide +kernel
theorem dX12_openings_172 : decode cX12_openings 172 = .ok (.istore 4, 2) := by decide +kernel
theorem dX12_openings_174 : decode cX12_openings 174 = .ok (.iinc 5 1, 3) := by decide +kernel
theorem dX12_openings_177 : decode cX12_openings 177 = .ok (.goto (-111), 3) := by decide +kernel
theorem dX12_openings_180 : decode cX12_openings 180 = .ok (.iload_n 2, 1) := by decide +kernel
theorem dX12_openings_181 : decode cX12_openings 181 = .ok (.iload 4, 2) := by decide +kernel
theorem dX12_openings_183 : decode cX12_openings 183 = .ok (.ifCond .eq 7, 3) := by decide +kernel
theorem dX12_openings_186 : decode cX12_openings 186 = .ok (.iconst 1, 1) := by decide +kernel
theorem dX12_openings_187 : decode cX12_openings 187 = .ok (.goto 4, 3) := by decide +kernel
theorem dX12_openings_190 : decode cX12_openings 190 = .ok (.iconst 0, 1) := by decide +kernel
theorem dX12_openings_191 : decode cX12_openings 191 = .ok (.iadd, 1) := by decide +kernel
theorem dX12_openings_192 : decode cX12_openings 192 = .ok (.istore_n 2, 1) := by decide +kernel
theorem dX12_openings_193 : decode cX12_openings 193 = .ok (.iinc 3 1, 3) := by decide +kernel
theorem dX12_openings_196 : decode cX12_openings 196 = .ok (.goto (-155), 3) := by decide +kernel
theorem dX12_openings_199 : decode cX12_openings 199 = .ok (.iload_n 2, 1) := by decide +kernel
theorem dX12_openings_200 : decode cX12_openings 200 = .ok (.ireturn, 1) := by decide +kernel
theorem dX12_where_12 : decode cX12_where 12 = .ok (.iload_n 1, 1) := by decide +kernel
theorem dX12_where_13 : decode cX12_where 13 = .ok (.i2l, 1) := by decide +kernel
theorem dX12_where_14 : decode cX12_where 14 = .ok (.lconst 0, 1) := by decide +kernel
theorem dX12_where_15 : decode cX12_where 15 = .ok (.lconst 1, 1) := by decide +kernel
theorem dX12_where_16 : decode cX12_where 16 = .ok (.invokestatic 215, 3) := by decide +kernel
theorem dX12_where_19 : decode cX12_where 19 = .ok (.ifCond .ne 5, 3) := by decide +kernel
theorem dX12_where_24 : decode cX12_where 24 = .ok (.iconst (-1), 1) := by decide +kernel
theorem dX12_where_25 : decode cX12_where 25 = .ok (.istore_n 2, 1) := by decide +kernel
theorem dX12_where_26 : decode cX12_where 26 = .ok (.iconst 0, 1) := by decide +kernel
theorem dX12_where_27 : decode cX12_where 27 = .ok (.istore_n 3, 1) := by decide +kernel
theorem dX12_where_28 : decode cX12_where 28 = .ok (.iconst 0, 1) := by decide +kernel
theorem dX12_where_29 : decode cX12_where 29 = .ok (.istore 4, 2) := by decide +kernel
theorem dX12_where_31 : decode cX12_where 31 = .ok (.iload 4, 2) := by decide +kernel
theorem dX12_where_33 : decode cX12_where 33 = .ok (.aload_n 0, 1) := by decide +kernel
theorem dX12_where_34 : decode cX12_where 34 = .ok (.getfield 302, 3) := by decide +kernel
theorem dX12_where_37 : decode cX12_where 37 = .ok (.if_icmp .ge 90, 3) := by decide +kernel
theorem dX12_where_40 : decode cX12_where 40 = .ok (.aload_n 0, 1) := by decide +kernel
theorem dX12_where_41 : decode cX12_where 41 = .ok (.getfield 305, 3) := by decide +kernel
theorem dX12_where_44 : decode cX12_where 44 = .ok (.aload_n 0, 1) := by decide +kernel
theorem dX12_where_45 : decode cX12_where 45 = .ok (.getfield 52, 3) := by decide +kernel
theorem dX12_where_48 : decode cX12_where 48 = .ok (.iconst 1, 1) := by decide +kernel
theorem dX12_where_49 : decode cX12_where 49 = .ok (.iaload, 1) := by decide +kernel
theorem dX12_where_50 : decode cX12_where 50 = .ok (.ior, 1) := by decide +kernel
theorem dX12_where_51 : decode cX12_where 51 = .ok (.iload 4, 2) := by decide +kernel
theorem dX12_where_53 : decode cX12_where 53 = .ok (.invokestatic 227, 3) := by decide +kernel
theorem dX12_where_56 : decode cX12_where 56 = .ok (.ifCond .eq 6, 3) := by decide +kernel
theorem dX12_where_59 : decode cX12_where 59 = .ok (.goto 62, 3) := by decide +kernel
theorem dX12_where_62 : decode cX12_where 62 = .ok (.aload_n 0, 1) := by decide +kernel
theorem dX12_where_63 : decode cX12_where 63 = .ok (.aload_n 0, 1) := by decide +kernel
theorem dX12_where_64 : decode cX12_where 64 = .ok (.getfield 52, 3) := by decide +kernel
theorem dX12_where_67 : decode cX12_where 67 = .ok (.iconst 0, 1) := by decide +kernel
theorem dX12_where_68 : decode cX12_where 68 = .ok (.iaload, 1) := by decide +kernel
theorem dX12_where_69 : decode cX12_where 69 = .ok (.iconst 1, 1) := by decide +kernel
theorem dX12_where_70 : decode cX12_where 70 = .ok (.iload 4, 2) := by decide +kernel
theorem dX12_where_72 : decode cX12_where 72 = .ok (.ishl, 1) := by decide +kernel
theorem dX12_where_73 : decode cX12_where 73 = .ok (.iconst (-1), 1) := by decide +kernel
theorem dX12_where_74 : decode cX12_where 74 = .ok (.ixor, 1) := by decide +kernel
theorem dX12_where_75 : decode cX12_where 75 = .ok (.iand, 1) := by decide +kernel
theorem dX12_where_76 : decode cX12_where 76 = .ok (.aload_n 0, 1) := by decide +kernel
theorem dX12_where_77 : decode cX12_where 77 = .ok (.getfield 52, 3) := by decide +kernel
theorem dX12_where_80 : decode cX12_where 80 = .ok (.iconst 1, 1) := by decide +kernel
theorem dX12_where_81 : decode cX12_where 81 = .ok (.iaload, 1) := by decide +kernel
theorem dX12_where_82 : decode cX12_where 82 = .ok (.iconst 1, 1) := by decide +kernel
theorem dX12_where_83 : decode cX12_where 83 = .ok (.iload 4, 2) := by decide +kernel
theorem dX12_where_85 : decode cX12_where 85 = .ok (.ishl, 1) := by decide +kernel
theorem dX12_where_86 : decode cX12_where 86 = .ok (.ior, 1) := by decide +kernel
theorem dX12_where_87 : decode cX12_where 87 = .ok (.aload_n 0, 1) := by decide +kernel
theorem dX12_where_88 : decode cX12_where 88 = .ok (.getfield 52, 3) := by decide +kernel
theorem dX12_where_91 : decode cX12_where 91 = .ok (.iconst 4, 1) := by decide +kernel
theorem dX12_where_92 : decode cX12_where 92 = .ok (.iaload, 1) := by decide +kernel
theorem dX12_where_93 : decode cX12_where 93 = .ok (.invokevirtual 367, 3) := by decide +kernel
theorem dX12_where_96 : decode cX12_where 96 = .ok (.invokestatic 333, 3) := by decide +kernel
theorem dX12_where_99 : decode cX12_where 99 = .ok (.istore 5, 2) := by decide +kernel
theorem dX12_where_101 : decode cX12_where 101 = .ok (.iload_n 2, 1) := by decide +kernel
theorem dX12_where_102 : decode cX12_where 102 = .ok (.iconst (-1), 1) := by decide +kernel
theorem dX12_where_103 : decode cX12_where 103 = .ok (.if_icmp .eq 12, 3) := by decide +kernel
theorem dX12_where_106 : decode cX12_where 106 = .ok (.iload 5, 2) := by decide +kernel
theorem dX12_where_108 : decode cX12_where 108 = .ok (.iload_n 3, 1) := by decide +kernel
theorem dX12_where_109 : decode cX12_where 109 = .ok (.if_icmp .lt 6, 3) := by decide +kernel
theorem dX12_where_112 : decode cX12_where 112 = .ok (.goto 9, 3) := by decide +kernel
theorem dX12_where_115 : decode cX12_where 115 = .ok (.iload 4, 2) := by decide +kernel
theorem dX12_where_117 : decode cX12_where 117 = .ok (.istore_n 2, 1) := by decide +kernel
theorem dX12_where_118 : decode cX12_where 118 = .ok (.iload 5, 2) := by decide +kernel
theorem dX12_where_120 : decode cX12_where 120 = .ok (.istore_n 3, 1) := by decide +kernel
theorem dX12_where_121 : decode cX12_where 121 = .ok (.iinc 4 1, 3) := by decide +kernel
theorem dX12_where_124 : decode cX12_where 124 = .ok (.goto (-93), 3) := by decide +kernel
theorem dX12_where_127 : decode cX12_where 127 = .ok (.iload_n 2, 1) := by decide +kernel
theorem dX12_where_128 : decode cX12_where 128 = .ok (.iconst (-1), 1) := by decide +kernel
theorem dX12_where_129 : decode cX12_where 129 = .ok (.if_icmp .ne 7, 3) := by decide +kernel
theorem dX12_where_132 : decode cX12_where 132 = .ok (.iconst (-1), 1) := by decide +kernel
theorem dX12_where_133 : decode cX12_where 133 = .ok (.goto 12, 3) := by decide +kernel
theorem dX12_where_136 : decode cX12_where 136 = .ok (.iload_n 1, 1) := by decide +kernel
theorem dX12_where_137 : decode cX12_where 137 = .ok (.ifCond .ne 7, 3) := by decide +kernel
theorem dX12_where_140 : decode cX12_where 140 = .ok (.iload_n 2, 1) := by decide +kernel
theorem dX12_where_141 : decode cX12_where 141 = .ok (.goto 4, 3) := by decide +kernel
theorem dX12_where_144 : decode cX12_where 144 = .ok (.iload_n 3, 1) := by decide +kernel
theorem dX12_where_145 : decode cX12_where 145 = .ok (.ireturn, 1) := by decide +kernel
theorem wl_8_214 : (.methodLink RX12 443 yJ6_numberOfTrailingZeros_0f7a4 : Cond) ∈ sg_tbl := tb_8 _ (List.mem_of_getElem? (i := 214) (by decide +kernel)) (by decide +kernel)
theorem wl_8_210 : (.methodLink RX12 446 yX12_lowest : Cond) ∈ sg_tbl := tb_8 _ (List.mem_of_getElem? (i := 210) (by decide +kernel)) (by decide +kernel)
theorem wl_9_34 : (.code yX12_forced cX12_forced 3 (some .int) : Cond) ∈ sg_tbl := tb_9 _ (List.mem_of_getElem? (i := 34) (by decide +kernel)) (by decide +kernel)
theorem wl_9_32 : (.instanceMethod yX12_forced : Cond) ∈ sg_tbl := tb_9 _ (List.mem_of_getElem? (i := 32) (by decide +kernel)) (by decide +kernel)
theorem wl_9_33 : (.selects RX12 yX12_forced yX12_forced : Cond) ∈ sg_tbl := tb_9 _ (List.mem_of_getElem? (i := 33) (by decide +kernel)) (by decide +kernel)
theorem wl_8_209 : (.code yX12_cellOf cX12_cellOf 3 (some .int) : Cond) ∈ sg_tbl := tb_8 _ (List.mem_of_getElem? (i := 209) (by decide +kernel)) (by decide +kernel)
theorem wl_8_208 : (.instanceMethod yX12_cellOf : Cond) ∈ sg_tbl := tb_8 _ (List.mem_of_getElem? (i := 208) (by decide +kernel)) (by decide +kernel)
theorem wl_0_92 : (.selects RX12 yX12_cellOf yX12_cellOf : Cond) ∈ sg_tbl := tb_0 _ (List.mem_of_getElem? (i := 92) (by decide +kernel)) (by decide +kernel)
theorem wl_8_218 : (.code yX12_canMove cX12_canMove 4 (some .boolean) : Cond) ∈ sg_tbl := tb_8 _ (List.mem_of_getElem? (i := 218) (by decide +kernel)) (by decide +kernel)
theorem wl_8_217 : (.instanceMethod yX12_canMove : Cond) ∈ sg_tbl := tb_8 _ (List.mem_of_getElem? (i := 217) (by decide +kernel)) (by decide +kernel)
theorem wl_0_94 : (.selects RX12 yX12_canMove yX12_canMove : Cond) ∈ sg_tbl := tb_0 _ (List.mem_of_getElem? (i := 94) (by decide +kernel)) (by decide +kernel)
theorem wl_8_222 : (.code yX12_moves cX12_moves 5 none : Cond) ∈ sg_tbl := tb_8 _ (List.mem_of_getElem? (i := 222) (by decide +kernel)) (by decide +kernel)
theorem wl_8_221 : (.instanceMethod yX12_moves : Cond) ∈ sg_tbl := tb_8 _ (List.mem_of_getElem? (i := 221) (by decide +kernel)) (by decide +kernel)
theorem wl_0_95 : (.selects RX12 yX12_moves yX12_moves : Cond) ∈ sg_tbl := tb_0 _ (List.mem_of_getElem? (i := 95) (by decide +kernel)) (by decide +kernel)
section
variable {p : Program} {l : Launch} {e : Env} {R : Room} {s : State} {m : MethodId} {args : Array Value} {below : List Frame} {meth : Method} {c : Code} {H : Heap} {locs : List Loc} {cells slots : Nat} {Q : State → Prop} {cc : ByteArray} {nL pc : Nat} {ls : Array Slot} {rest : List Value} {own : String} {D : va_G} {A : Nat → Prop} {tys : List (ClassId × FieldType)} {ad ks : List Nat} {P : sgPm} {H0 : Heap} {index : Nat} {base : Nat} {st0 : List Value} {a : Nat}
theorem gg_X12_21   (X : CallFix p m c cc nL s args sg_tbl own) (hK : va_K D vwCl tys s) (hG : sgG (KT P) D vwCl A tys ad ks H) (ha : isK ad ks 12 a) (hl : Cond.fieldLink own index "LawnAheadModel" "game" "[I" ∈ sg_tbl) {v : Value} (hf : fld D H 12 a 21 v) (hdg : decode cc pc = .ok (.getfield index, 3)) (kk : W p l e R s m args below meth c H locs cells slots Q (F0 m (pc + 3) ls (v :: rest))) : W p l e R s m args below meth c H locs cells slots Q (F0 m pc ls (.ref a :: rest)) :=
  sg_getf X hK hG ha (k := 12) (ci := 12) rfl (C := RX12) (T := TX12) (N := 53) rfl inL_X12 21 (by decide) (show 21 < 53 by decide) hl (fun _ h => h) hf hdg kk
set_option maxHeartbeats 8000000 in
set_option maxRecDepth 100000 in
theorem m_X12_forced_1 (l : Launch) {D : va_G} {base : Nat} {tys : List (ClassId × FieldType)} {ad ks : List Nat} {P : sgPm} (hp4 : P.2.2.2.2.1 = true) (a0 : Nat) (h0 : isK ad ks 12 a0) : sgMi l (KT P) D vwCl base tys ad ks yX12_forced cX12_forced 3 (some .int) ({ frames := 37, cells := 0, slots := 0, locals := 865 }) [.ref a0] (fun r : Int32 => True) := by
  refine sg_ofW (by decide +kernel) (Nat.le_of_ble_eq_true rfl) (fun p e s m below meth c X hr hlk hb hK hC hG ls hl => ?_)
  have hS : va_S (fun q : Nat => base ≤ q) s.heap s.heap [] := va_S.rf
  have hl : lv_has ls 3 [(0, .ref a0)] := hl
  refine lv_aload_n X.1 X.2.1 dX12_forced_0 rfl (lv_at hl 0 rfl) ?_
  refine lv_iconst (v := 0) X.1 X.2.1 dX12_forced_1 (by decide +kernel) ?_
  refine pf_X12_0 X hK hG hS h0 wl_6_178 ⟨_, rfl, (iv_top _)⟩ dX12_forced_2 (fun H locs hG hS ku1 ru1 => ?_)
  refine lv_aload_n X.1 X.2.1 dX12_forced_5 rfl (lv_at hl 0 rfl) ?_
  refine ca_X12_isNight_1 X hK hG hC (fun _ h => h) hS hb hp4 a0 h0 wl_9_19 hl.1 (rest := []) rfl (Nat.le_of_ble_eq_true rfl) ⟨Nat.le_of_ble_eq_true rfl, Nat.le_of_ble_eq_true rfl⟩ ⟨Nat.le_of_ble_eq_true rfl, Nat.le_of_ble_eq_true rfl⟩ dX12_forced_6 (fun f2 locs hf2 hS => ?_)
  refine lv_if_ne (tgt := 14) X.1 X.2.1 dX12_forced_9 (by decide) (fun c3 => ?_) (fun c3 => ?_)
  · refine lv_aload_n X.1 X.2.1 dX12_forced_14 rfl (lv_at hl 0 rfl) ?_
    refine lv_aload_n X.1 X.2.1 dX12_forced_15 rfl (lv_at hl 0 rfl) ?_
    refine gf_X12_32 X hK hG h0 wl_6_210 dX12_forced_16 (fun q4 hq4 kq4 => ?_)
    refine lv_iconst (v := 0) X.1 X.2.1 dX12_forced_19 (by decide +kernel) ?_
    refine al_54 X hK hG hq4 (iv_vpin (iv_c 0 (a := 0) (b := 0) (by decide +kernel)) (by decide +kernel)) dX12_forced_20 (fun f5 hf5 => ?_)
    have hf5 := sg_nw_now hf5
    have of5 := hf5
    have hf5 : iv (-2147483648) 2147483647 f5 := sg_sp_now hf5 (iv_c 0 (a := 0) (b := 0) (by decide +kernel)) (by decide +kernel) rfl
    refine lv_aload_n X.1 X.2.1 dX12_forced_21 rfl (lv_at hl 0 rfl) ?_
    refine gg_X12_32 X hK hG h0 wl_6_210 kq4 dX12_forced_22 ?_
    refine lv_iconst (v := 1) X.1 X.2.1 dX12_forced_25 (by decide +kernel) ?_
    refine al_54 X hK hG hq4 (iv_vpin (iv_c 1 (a := 1) (b := 1) (by decide +kernel)) (by decide +kernel)) dX12_forced_26 (fun f6 hf6 => ?_)
    have hf6 := sg_nw_now hf6
    have of6 := hf6
    have hf6 : iv (-2147483648) 2147483647 f6 := sg_sp_now hf6 (iv_c 1 (a := 1) (b := 1) (by decide +kernel)) (by decide +kernel) rfl
    refine lv_aload_n X.1 X.2.1 dX12_forced_27 rfl (lv_at hl 0 rfl) ?_
    refine gg_X12_32 X hK hG h0 wl_6_210 kq4 dX12_forced_28 ?_
    refine lv_iconst (v := 4) X.1 X.2.1 dX12_forced_31 (by decide +kernel) ?_
    refine al_54 X hK hG hq4 (iv_vpin (iv_c 4 (a := 4) (b := 4) (by decide +kernel)) (by decide +kernel)) dX12_forced_32 (fun f7 hf7 => ?_)
    have hf7 := sg_nw_now hf7
    have of7 := hf7
    have hf7 : iv 0 1000000000 f7 := sg_day hf7 (iv_c 4 (a := 4) (b := 4) (by decide +kernel))
    refine ca_X12_freeIn_1 X hK hG hC hS hb hp4 a0 h0 f5 f6 f7 (iv_of hf7 (a' := 0) (b' := 2147483647) (by decide +kernel)) wl_8_162 hl.1 (rest := []) rfl (Nat.le_of_ble_eq_true rfl) ⟨Nat.le_of_ble_eq_true rfl, Nat.le_of_ble_eq_true rfl⟩ ⟨Nat.le_of_ble_eq_true rfl, Nat.le_of_ble_eq_true rfl⟩ dX12_forced_33 (fun f8 H locs hf8 hG hS => ?_)
    refine lv_istore_n (lv' := [(1, .int f8), (0, .ref a0)]) X.1 X.2.1 dX12_forced_36 rfl hl (by decide) rfl (fun ls hl => ?_)
    refine lv_iconst (v := 0) X.1 X.2.1 dX12_forced_37 (by decide +kernel) ?_
    refine lv_istore_n (lv' := [(2, .int 0), (1, .int f8), (0, .ref a0)]) X.1 X.2.1 dX12_forced_38 rfl hl (by decide) rfl (fun ls hl => ?_)
    have B9_39 : ∀ (N : Nat) (H : Heap) (locs : List Loc) (ls : Array Slot) (z9_2 : Int32), sgG (KT P) D vwCl (fun q : Nat => base ≤ q) tys ad ks H → va_S (fun q : Nat => base ≤ q) s.heap H locs → lv_has ls 3 [(0, .ref a0), (1, .int f8), (2, .int z9_2)] → iv 0 30 z9_2 → (31 - z9_2.toInt).toNat ≤ N → W p l e (headSpec (Cond.code yX12_forced cX12_forced 3 (some .int) :: sg_tbl) ({ frames := 37, cells := 0, slots := 0, locals := 865 })).room s m #[.ref a0] below meth c H locs 0 0 (MQ below (va_Qi (fun r (_ : Unit) => (fun r : Int32 => True) r) (fun _ => sgB (KT P) D vwCl base tys ad ks) (fun q : Nat => base ≤ q)) #[.ref a0] s 0 0 (fun q : Nat => base ≤ q)) (F0 m 39 ls []) := by
      intro N; induction N with
      | zero =>
        intro H locs ls z9_2 hG hS hl hz9_2 hN
        exact absurd hN (by have := iv_up hz9_2; omega)
      | succ N ih9 =>
        intro H locs ls z9_2 hG hS hl hz9_2 hN9
        refine lv_iload_n X.1 X.2.1 dX12_forced_39 rfl (lv_at hl 2 rfl) ?_
        refine lv_aload_n X.1 X.2.1 dX12_forced_40 rfl (lv_at hl 0 rfl) ?_
        refine gf_X12_23s X hK hG h0 hp4 wl_6_201 dX12_forced_41 (fun f10 hf10 kf10 => ?_)
        refine lv_icmp_ge (tgt := 71) X.1 X.2.1 dX12_forced_44 (by decide) (fun c11 => ?_) (fun c11 => ?_)
        · refine lv_iconst (v := (-1)) X.1 X.2.1 dX12_forced_71 (by decide +kernel) ?_
          exact sg_iret X hr hlk hb hK hC hG hS trivial dX12_forced_72
        · refine lv_iload_n X.1 X.2.1 dX12_forced_47 rfl (lv_at hl 1 rfl) ?_
          refine lv_iload_n X.1 X.2.1 dX12_forced_48 rfl (lv_at hl 2 rfl) ?_
          refine ca_X12_has X hK hG hC (fun _ h => h) hS hb f8 z9_2 wl_7_174 hl.1 (rest := []) rfl (Nat.le_of_ble_eq_true rfl) ⟨Nat.le_of_ble_eq_true rfl, Nat.le_of_ble_eq_true rfl⟩ ⟨Nat.le_of_ble_eq_true rfl, Nat.le_of_ble_eq_true rfl⟩ dX12_forced_49 (fun f12 locs hf12 hS => ?_)
          have B14_65 : ∀ (H : Heap) (locs : List Loc) (ls : Array Slot), sgG (KT P) D vwCl (fun q : Nat => base ≤ q) tys ad ks H → va_S (fun q : Nat => base ≤ q) s.heap H locs → lv_has ls 3 [(0, .ref a0), (1, .int f8), (2, .int z9_2)] → W p l e (headSpec (Cond.code yX12_forced cX12_forced 3 (some .int) :: sg_tbl) ({ frames := 37, cells := 0, slots := 0, locals := 865 })).room s m #[.ref a0] below meth c H locs 0 0 (MQ below (va_Qi (fun r (_ : Unit) => (fun r : Int32 => True) r) (fun _ => sgB (KT P) D vwCl base tys ad ks) (fun q : Nat => base ≤ q)) #[.ref a0] s 0 0 (fun q : Nat => base ≤ q)) (F0 m 65 ls []) := by
            intro H locs ls hG hS hl
            obtain ⟨y15, ey15⟩ : ∃ y : Int32, y = z9_2 + Int32.ofInt 1 := ⟨_, rfl⟩
            refine lv_iinc (v := y15) (lv' := [(2, .int y15), (0, .ref a0), (1, .int f8)]) X.1 X.2.1 dX12_forced_65 hl (k := 2) rfl ey15.symm (by decide) rfl (fun ls hl => ?_)
            refine lv_goto (tgt := 39) X.1 X.2.1 dX12_forced_68 (by decide) ?_
            exact ih9 H _ _ y15 hG hS (lv_sub hl [1, 2, 0] rfl) (iv_of (iv_add (a' := 1) (b' := 30) ey15 (iv_lt (b' := 29) (iv_gt_of c11) hz9_2 hf10 (by decide +kernel)) (iv_c _ (a := 1) (b := 1) (by decide +kernel)) (by decide +kernel)) (a' := 0) (b' := 30) (by decide +kernel)) (iv_stepU ey15 (iv_lt (b' := 29) (iv_gt_of c11) hz9_2 hf10 (by decide +kernel)) (by decide +kernel) hN9)
          refine lv_if_eq (tgt := 65) X.1 X.2.1 dX12_forced_52 (by decide) (fun c13 => ?_) (fun c13 => ?_)
          · exact B14_65 H _ _ hG hS (lv_sub hl [0, 1, 2] rfl)
          · refine lv_aload_n X.1 X.2.1 dX12_forced_55 rfl (lv_at hl 0 rfl) ?_
            refine lv_iload_n X.1 X.2.1 dX12_forced_56 rfl (lv_at hl 2 rfl) ?_
            refine ca_X12_isHeldBehind_1 X hK hG hC hS hb hp4 a0 h0 z9_2 wl_9_23 hl.1 (rest := []) rfl (Nat.le_of_ble_eq_true rfl) ⟨Nat.le_of_ble_eq_true rfl, Nat.le_of_ble_eq_true rfl⟩ ⟨Nat.le_of_ble_eq_true rfl, Nat.le_of_ble_eq_true rfl⟩ dX12_forced_57 (fun f16 H locs hf16 hG hS => ?_)
            refine lv_if_ne (tgt := 65) X.1 X.2.1 dX12_forced_60 (by decide) (fun c17 => ?_) (fun c17 => ?_)
            · exact B14_65 H _ _ hG hS (lv_sub hl [0, 1, 2] rfl)
            · refine lv_iload_n X.1 X.2.1 dX12_forced_63 rfl (lv_at hl 2 rfl) ?_
              exact sg_iret X hr hlk hb hK hC hG hS trivial dX12_forced_64
    exact B9_39 _ H _ _ 0 hG hS (lv_sub hl [2, 1, 0] rfl) (iv_of (iv_c 0 (a := 0) (b := 0) (by decide +kernel)) (a' := 0) (b' := 30) (by decide +kernel)) (Nat.le_refl _)
  · refine lv_iconst (v := (-1)) X.1 X.2.1 dX12_forced_12 (by decide +kernel) ?_
    exact sg_iret X hr hlk hb hK hC hG hS trivial dX12_forced_13

theorem ca_X12_forced_1   (X : CallFix p m c cc nL s args sg_tbl own) (hK : va_K D vwCl tys s) (hG : sgG (KT P) D vwCl (fun q : Nat => base ≤ q) tys ad ks H) (hC : sgC base s) (hS : va_S (fun q : Nat => base ≤ q) s.heap H locs) (hb : base ≤ s.heap.size) (hp4 : P.2.2.2.2.1 = true) (a0 : Nat) (h0 : isK ad ks 12 a0) (hl : Cond.methodLink own index yX12_forced ∈ sg_tbl) (hsize : ls.size = nL) (hst : st0 = [].reverse ++ .ref a0 :: rest) (hW : (rest.map fun v => v.category).sum ≤ 8) (hR : 38 ≤ R.frames ∧ 887 ≤ R.locals) (hf : cells ≤ R.cells ∧ slots ≤ R.slots) (hdg : decode cc pc = .ok (.invokevirtual index, 3)) (kk : ∀ (r : Int32) (H1 : Heap) (locs1 : List Loc), (fun r : Int32 => True) r → sgG (KT P) D vwCl (fun q : Nat => base ≤ q) tys ad ks H1 → va_S (fun q : Nat => base ≤ q) s.heap H1 locs1 → W p l e R s m args below meth c H1 locs1 cells slots Q (F0 m (pc + 3) ls (.int r :: rest))) : W p l e R s m args below meth c H locs cells slots Q (F0 m pc ls st0) :=
  sg_callVi X hK hG hC hS hb (m_X12_forced_1 l hp4 a0 h0) h0 (k := 12) (ci := 12) rfl (C := RX12) (T := TX12) (N := 53) rfl wl_9_34 wl_1_13 wl_9_32 wl_9_33 (n := 0) (by decide +kernel) rfl rfl rfl hl hsize hst hW hR hf hdg kk

set_option maxHeartbeats 8000000 in
set_option maxRecDepth 100000 in
theorem m_X12_openings_1 (l : Launch) {D : va_G} {base : Nat} {tys : List (ClassId × FieldType)} {ad ks : List Nat} {P : sgPm} (hp4 : P.2.2.2.2.1 = true) (a0 : Nat) (h0 : isK ad ks 12 a0) : sgMi l (KT P) D vwCl base tys ad ks yX12_openings cX12_openings 7 (some .int) ({ frames := 35, cells := 0, slots := 0, locals := 819 }) [.ref a0] (fun r : Int32 => True) := by
  refine sg_ofW (by decide +kernel) (Nat.le_of_ble_eq_true rfl) (fun p e s m below meth c X hr hlk hb hK hC hG ls hl => ?_)
  have hS : va_S (fun q : Nat => base ≤ q) s.heap s.heap [] := va_S.rf
  have hl : lv_has ls 7 [(0, .ref a0)] := hl
  refine lv_aload_n X.1 X.2.1 dX12_openings_0 rfl (lv_at hl 0 rfl) ?_
  refine lv_iconst (v := 0) X.1 X.2.1 dX12_openings_1 (by decide +kernel) ?_
  refine pf_X12_0 X hK hG hS h0 wl_6_178 ⟨_, rfl, (iv_top _)⟩ dX12_openings_2 (fun H locs hG hS ku1 ru1 => ?_)
  refine lv_aload_n X.1 X.2.1 dX12_openings_5 rfl (lv_at hl 0 rfl) ?_
  refine gf_X12_23s X hK hG h0 hp4 wl_6_201 dX12_openings_6 (fun f2 hf2 kf2 => ?_)
  refine lv_if_ne (tgt := 14) X.1 X.2.1 dX12_openings_9 (by decide) (fun c3 => ?_) (fun c3 => ?_)
  · refine lv_aload_n X.1 X.2.1 dX12_openings_14 rfl (lv_at hl 0 rfl) ?_
    refine lv_aload_n X.1 X.2.1 dX12_openings_15 rfl (lv_at hl 0 rfl) ?_
    refine gf_X12_32 X hK hG h0 wl_6_210 dX12_openings_16 (fun q4 hq4 kq4 => ?_)
    refine lv_iconst (v := 0) X.1 X.2.1 dX12_openings_19 (by decide +kernel) ?_
    refine al_54 X hK hG hq4 (iv_vpin (iv_c 0 (a := 0) (b := 0) (by decide +kernel)) (by decide +kernel)) dX12_openings_20 (fun f5 hf5 => ?_)
    have hf5 := sg_nw_now hf5
    have of5 := hf5
    have hf5 : iv (-2147483648) 2147483647 f5 := sg_sp_now hf5 (iv_c 0 (a := 0) (b := 0) (by decide +kernel)) (by decide +kernel) rfl
    refine lv_aload_n X.1 X.2.1 dX12_openings_21 rfl (lv_at hl 0 rfl) ?_
    refine gg_X12_32 X hK hG h0 wl_6_210 kq4 dX12_openings_22 ?_
    refine lv_iconst (v := 1) X.1 X.2.1 dX12_openings_25 (by decide +kernel) ?_
    refine al_54 X hK hG hq4 (iv_vpin (iv_c 1 (a := 1) (b := 1) (by decide +kernel)) (by decide +kernel)) dX12_openings_26 (fun f6 hf6 => ?_)
    have hf6 := sg_nw_now hf6
    have of6 := hf6
    have hf6 : iv (-2147483648) 2147483647 f6 := sg_sp_now hf6 (iv_c 1 (a := 1) (b := 1) (by decide +kernel)) (by decide +kernel) rfl
    refine lv_aload_n X.1 X.2.1 dX12_openings_27 rfl (lv_at hl 0 rfl) ?_
    refine gg_X12_32 X hK hG h0 wl_6_210 kq4 dX12_openings_28 ?_
    refine lv_iconst (v := 4) X.1 X.2.1 dX12_openings_31 (by decide +kernel) ?_
    refine al_54 X hK hG hq4 (iv_vpin (iv_c 4 (a := 4) (b := 4) (by decide +kernel)) (by decide +kernel)) dX12_openings_32 (fun f7 hf7 => ?_)
    have hf7 := sg_nw_now hf7
    have of7 := hf7
    have hf7 : iv 0 1000000000 f7 := sg_day hf7 (iv_c 4 (a := 4) (b := 4) (by decide +kernel))
    refine ca_X12_freeIn_1 X hK hG hC hS hb hp4 a0 h0 f5 f6 f7 (iv_of hf7 (a' := 0) (b' := 2147483647) (by decide +kernel)) wl_8_162 hl.1 (rest := []) rfl (Nat.le_of_ble_eq_true rfl) ⟨Nat.le_of_ble_eq_true rfl, Nat.le_of_ble_eq_true rfl⟩ ⟨Nat.le_of_ble_eq_true rfl, Nat.le_of_ble_eq_true rfl⟩ dX12_openings_33 (fun f8 H locs hf8 hG hS => ?_)
    refine lv_istore_n (lv' := [(1, .int f8), (0, .ref a0)]) X.1 X.2.1 dX12_openings_36 rfl hl (by decide) rfl (fun ls hl => ?_)
    refine lv_iconst (v := 0) X.1 X.2.1 dX12_openings_37 (by decide +kernel) ?_
    refine lv_istore_n (lv' := [(2, .int 0), (1, .int f8), (0, .ref a0)]) X.1 X.2.1 dX12_openings_38 rfl hl (by decide) rfl (fun ls hl => ?_)
    refine lv_iconst (v := 0) X.1 X.2.1 dX12_openings_39 (by decide +kernel) ?_
    refine lv_istore_n (lv' := [(3, .int 0), (2, .int 0), (1, .int f8), (0, .ref a0)]) X.1 X.2.1 dX12_openings_40 rfl hl (by decide) rfl (fun ls hl => ?_)
    have B9_41 : ∀ (N : Nat) (locs : List Loc) (ls : Array Slot) (z9_2 : Int32) (z9_3 : Int32), va_S (fun q : Nat => base ≤ q) s.heap H locs → lv_has ls 7 [(0, .ref a0), (1, .int f8), (2, .int z9_2), (3, .int z9_3)] → iv 0 30 z9_3 → (31 - z9_3.toInt).toNat ≤ N → W p l e (headSpec (Cond.code yX12_openings cX12_openings 7 (some .int) :: sg_tbl) ({ frames := 35, cells := 0, slots := 0, locals := 819 })).room s m #[.ref a0] below meth c H locs 0 0 (MQ below (va_Qi (fun r (_ : Unit) => (fun r : Int32 => True) r) (fun _ => sgB (KT P) D vwCl base tys ad ks) (fun q : Nat => base ≤ q)) #[.ref a0] s 0 0 (fun q : Nat => base ≤ q)) (F0 m 41 ls []) := by
      intro N; induction N with
      | zero =>
        intro locs ls z9_2 z9_3 hS hl hz9_3 hN
        exact absurd hN (by have := iv_up hz9_3; omega)
      | succ N ih9 =>
        intro locs ls z9_2 z9_3 hS hl hz9_3 hN9
        refine lv_iload_n X.1 X.2.1 dX12_openings_41 rfl (lv_at hl 3 rfl) ?_
        refine lv_aload_n X.1 X.2.1 dX12_openings_42 rfl (lv_at hl 0 rfl) ?_
        refine gf_X12_23s X hK hG h0 hp4 wl_6_201 dX12_openings_43 (fun f10 hf10 kf10 => ?_)
        refine lv_icmp_ge (tgt := 199) X.1 X.2.1 dX12_openings_46 (by decide) (fun c11 => ?_) (fun c11 => ?_)
        · refine lv_iload_n X.1 X.2.1 dX12_openings_199 rfl (lv_at hl 2 rfl) ?_
          exact sg_iret X hr hlk hb hK hC hG hS trivial dX12_openings_200
        · refine lv_iload_n X.1 X.2.1 dX12_openings_49 rfl (lv_at hl 1 rfl) ?_
          refine lv_iload_n X.1 X.2.1 dX12_openings_50 rfl (lv_at hl 3 rfl) ?_
          refine ca_X12_has X hK hG hC (fun _ h => h) hS hb f8 z9_3 wl_7_174 hl.1 (rest := []) rfl (Nat.le_of_ble_eq_true rfl) ⟨Nat.le_of_ble_eq_true rfl, Nat.le_of_ble_eq_true rfl⟩ ⟨Nat.le_of_ble_eq_true rfl, Nat.le_of_ble_eq_true rfl⟩ dX12_openings_51 (fun f12 locs hf12 hS => ?_)
          have B14_193 : ∀ (locs : List Loc) (ls : Array Slot) (z14_2 : Int32), va_S (fun q : Nat => base ≤ q) s.heap H locs → lv_has ls 7 [(0, .ref a0), (1, .int f8), (2, .int z14_2), (3, .int z9_3)] → W p l e (headSpec (Cond.code yX12_openings cX12_openings 7 (some .int) :: sg_tbl) ({ frames := 35, cells := 0, slots := 0, locals := 819 })).room s m #[.ref a0] below meth c H locs 0 0 (MQ below (va_Qi (fun r (_ : Unit) => (fun r : Int32 => True) r) (fun _ => sgB (KT P) D vwCl base tys ad ks) (fun q : Nat => base ≤ q)) #[.ref a0] s 0 0 (fun q : Nat => base ≤ q)) (F0 m 193 ls []) := by
            intro locs ls z14_2 hS hl
            obtain ⟨y15, ey15⟩ : ∃ y : Int32, y = z9_3 + Int32.ofInt 1 := ⟨_, rfl⟩
            refine lv_iinc (v := y15) (lv' := [(3, .int y15), (0, .ref a0), (1, .int f8), (2, .int z14_2)]) X.1 X.2.1 dX12_openings_193 hl (k := 3) rfl ey15.symm (by decide) rfl (fun ls hl => ?_)
            refine lv_goto (tgt := 41) X.1 X.2.1 dX12_openings_196 (by decide) ?_
            exact ih9 _ _ z14_2 y15 hS (lv_sub hl [1, 2, 3, 0] rfl) (iv_of (iv_add (a' := 1) (b' := 30) ey15 (iv_lt (b' := 29) (iv_gt_of c11) hz9_3 hf10 (by decide +kernel)) (iv_c _ (a := 1) (b := 1) (by decide +kernel)) (by decide +kernel)) (a' := 0) (b' := 30) (by decide +kernel)) (iv_stepU ey15 (iv_lt (b' := 29) (iv_gt_of c11) hz9_3 hf10 (by decide +kernel)) (by decide +kernel) hN9)
          refine lv_if_ne (tgt := 60) X.1 X.2.1 dX12_openings_54 (by decide) (fun c13 => ?_) (fun c13 => ?_)
          · refine lv_iconst (v := 1) X.1 X.2.1 dX12_openings_60 (by decide +kernel) ?_
            refine lv_istore (lv' := [(4, .int 1), (0, .ref a0), (1, .int f8), (2, .int z9_2), (3, .int z9_3)]) X.1 X.2.1 dX12_openings_61 hl (by decide) rfl (fun ls hl => ?_)
            refine lv_iconst (v := 0) X.1 X.2.1 dX12_openings_63 (by decide +kernel) ?_
            refine lv_istore (lv' := [(5, .int 0), (4, .int 1), (0, .ref a0), (1, .int f8), (2, .int z9_2), (3, .int z9_3)]) X.1 X.2.1 dX12_openings_64 hl (by decide) rfl (fun ls hl => ?_)
            have B16_66 : ∀ (N : Nat) (locs : List Loc) (ls : Array Slot) (z16_4 : Int32) (z16_5 : Int32), va_S (fun q : Nat => base ≤ q) s.heap H locs → lv_has ls 7 [(0, .ref a0), (1, .int f8), (2, .int z9_2), (3, .int z9_3), (4, .int z16_4), (5, .int z16_5)] → iv 0 1 z16_4 → iv 0 8 z16_5 → (9 - z16_5.toInt).toNat ≤ N → W p l e (headSpec (Cond.code yX12_openings cX12_openings 7 (some .int) :: sg_tbl) ({ frames := 35, cells := 0, slots := 0, locals := 819 })).room s m #[.ref a0] below meth c H locs 0 0 (MQ below (va_Qi (fun r (_ : Unit) => (fun r : Int32 => True) r) (fun _ => sgB (KT P) D vwCl base tys ad ks) (fun q : Nat => base ≤ q)) #[.ref a0] s 0 0 (fun q : Nat => base ≤ q)) (F0 m 66 ls []) := by
              intro N; induction N with
              | zero =>
                intro locs ls z16_4 z16_5 hS hl hz16_4 hz16_5 hN
                exact absurd hN (by have := iv_up hz16_5; omega)
              | succ N ih16 =>
                intro locs ls z16_4 z16_5 hS hl hz16_4 hz16_5 hN16
                refine lv_iload X.1 X.2.1 dX12_openings_66 (lv_at hl 5 rfl) ?_
                refine lv_aload_n X.1 X.2.1 dX12_openings_68 rfl (lv_at hl 0 rfl) ?_
                refine ca_X12_turns_1 X hK hG hC (fun _ h => h) hS hb hp4 a0 h0 wl_9_108 hl.1 (rest := [.int z16_5]) rfl (Nat.le_of_ble_eq_true rfl) ⟨Nat.le_of_ble_eq_true rfl, Nat.le_of_ble_eq_true rfl⟩ ⟨Nat.le_of_ble_eq_true rfl, Nat.le_of_ble_eq_true rfl⟩ dX12_openings_69 (fun f17 locs hf17 hS => ?_)
                refine lv_icmp_ge (tgt := 180) X.1 X.2.1 dX12_openings_72 (by decide) (fun c18 => ?_) (fun c18 => ?_)
                · refine lv_iload_n X.1 X.2.1 dX12_openings_180 rfl (lv_at hl 2 rfl) ?_
                  refine lv_iload X.1 X.2.1 dX12_openings_181 (lv_at hl 4 rfl) ?_
                  have B20_191 : ∀ (locs : List Loc) (ls : Array Slot) (w20_0 : Int32), va_S (fun q : Nat => base ≤ q) s.heap H locs → lv_has ls 7 [(0, .ref a0), (1, .int f8), (3, .int z9_3)] → iv 0 1 w20_0 → W p l e (headSpec (Cond.code yX12_openings cX12_openings 7 (some .int) :: sg_tbl) ({ frames := 35, cells := 0, slots := 0, locals := 819 })).room s m #[.ref a0] below meth c H locs 0 0 (MQ below (va_Qi (fun r (_ : Unit) => (fun r : Int32 => True) r) (fun _ => sgB (KT P) D vwCl base tys ad ks) (fun q : Nat => base ≤ q)) #[.ref a0] s 0 0 (fun q : Nat => base ≤ q)) (F0 m 191 ls [.int w20_0, .int z9_2]) := by
                    intro locs ls w20_0 hS hl hw20_0
                    refine lv_iadd X.1 X.2.1 dX12_openings_191 ?_
                    refine lv_topi (fun f21 ef21 => ?_)
                    refine lv_istore_n (lv' := [(2, .int f21), (0, .ref a0), (1, .int f8), (3, .int z9_3)]) X.1 X.2.1 dX12_openings_192 rfl hl (by decide) rfl (fun ls hl => ?_)
                    exact B14_193 _ _ f21 hS (lv_sub hl [1, 2, 0, 3] rfl)
                  refine lv_if_eq (tgt := 190) X.1 X.2.1 dX12_openings_183 (by decide) (fun c19 => ?_) (fun c19 => ?_)
                  · refine lv_iconst (v := 0) X.1 X.2.1 dX12_openings_190 (by decide +kernel) ?_
                    exact B20_191 _ _ 0 hS (lv_sub hl [0, 1, 3] rfl) (iv_of (iv_c 0 (a := 0) (b := 0) (by decide +kernel)) (a' := 0) (b' := 1) (by decide +kernel))
                  · refine lv_iconst (v := 1) X.1 X.2.1 dX12_openings_186 (by decide +kernel) ?_
                    refine lv_goto (tgt := 191) X.1 X.2.1 dX12_openings_187 (by decide) ?_
                    exact B20_191 _ _ 1 hS (lv_sub hl [0, 1, 3] rfl) (iv_of (iv_c 1 (a := 1) (b := 1) (by decide +kernel)) (a' := 0) (b' := 1) (by decide +kernel))
                · refine lv_aload_n X.1 X.2.1 dX12_openings_75 rfl (lv_at hl 0 rfl) ?_
                  refine lv_aload_n X.1 X.2.1 dX12_openings_76 rfl (lv_at hl 0 rfl) ?_
                  refine gf_X12_32 X hK hG h0 wl_6_210 dX12_openings_77 (fun q22 hq22 kq22 => ?_)
                  refine lv_iconst (v := 0) X.1 X.2.1 dX12_openings_80 (by decide +kernel) ?_
                  refine al_54 X hK hG hq22 (iv_vpin (iv_c 0 (a := 0) (b := 0) (by decide +kernel)) (by decide +kernel)) dX12_openings_81 (fun f23 hf23 => ?_)
                  have hf23 := sg_nw_now hf23
                  have of23 := hf23
                  have hf23 : iv (-2147483648) 2147483647 f23 := sg_sp_now hf23 (iv_c 0 (a := 0) (b := 0) (by decide +kernel)) (by decide +kernel) rfl
                  refine lv_iload X.1 X.2.1 dX12_openings_82 (lv_at hl 5 rfl) ?_
                  refine ca_X12_turnedSet_1 X hK hG hC (fun _ h => h) hS hb hp4 a0 h0 f23 z16_5 (iv_lt (b' := 7) (iv_gt_of c18) hz16_5 hf17 (by decide +kernel)) wl_9_112 hl.1 (rest := []) rfl (Nat.le_of_ble_eq_true rfl) ⟨Nat.le_of_ble_eq_true rfl, Nat.le_of_ble_eq_true rfl⟩ ⟨Nat.le_of_ble_eq_true rfl, Nat.le_of_ble_eq_true rfl⟩ dX12_openings_84 (fun f24 locs hf24 hS => ?_)
                  refine lv_aload_n X.1 X.2.1 dX12_openings_87 rfl (lv_at hl 0 rfl) ?_
                  refine gg_X12_32 X hK hG h0 wl_6_210 kq22 dX12_openings_88 ?_
                  refine lv_iconst (v := 0) X.1 X.2.1 dX12_openings_91 (by decide +kernel) ?_
                  refine al_54 X hK hG hq22 (iv_vpin (iv_c 0 (a := 0) (b := 0) (by decide +kernel)) (by decide +kernel)) dX12_openings_92 (fun f25 hf25 => ?_)
                  have hf25 := sg_nw_now hf25
                  have of25 := hf25
                  have hf25 : iv (-2147483648) 2147483647 f25 := sg_sp_now hf25 (iv_c 0 (a := 0) (b := 0) (by decide +kernel)) (by decide +kernel) rfl
                  have B27_139 : ∀ (locs : List Loc) (ls : Array Slot) (w27_0 : Int32), va_S (fun q : Nat => base ≤ q) s.heap H locs → lv_has ls 7 [(0, .ref a0), (1, .int f8), (2, .int z9_2), (3, .int z9_3), (4, .int z16_4), (5, .int z16_5)] → iv 0 1 w27_0 → W p l e (headSpec (Cond.code yX12_openings cX12_openings 7 (some .int) :: sg_tbl) ({ frames := 35, cells := 0, slots := 0, locals := 819 })).room s m #[.ref a0] below meth c H locs 0 0 (MQ below (va_Qi (fun r (_ : Unit) => (fun r : Int32 => True) r) (fun _ => sgB (KT P) D vwCl base tys ad ks) (fun q : Nat => base ≤ q)) #[.ref a0] s 0 0 (fun q : Nat => base ≤ q)) (F0 m 139 ls [.int w27_0]) := by
                    intro locs ls w27_0 hS hl hw27_0
                    refine lv_istore (lv' := [(6, .int w27_0), (0, .ref a0), (1, .int f8), (2, .int z9_2), (3, .int z9_3), (4, .int z16_4), (5, .int z16_5)]) X.1 X.2.1 dX12_openings_139 hl (by decide) rfl (fun ls hl => ?_)
                    refine lv_iload X.1 X.2.1 dX12_openings_141 (lv_at hl 0 rfl) ?_
                    have B29_174 : ∀ (locs : List Loc) (ls : Array Slot) (z29_4 : Int32), va_S (fun q : Nat => base ≤ q) s.heap H locs → lv_has ls 7 [(0, .ref a0), (1, .int f8), (2, .int z9_2), (3, .int z9_3), (4, .int z29_4), (5, .int z16_5)] → iv 0 1 z29_4 → W p l e (headSpec (Cond.code yX12_openings cX12_openings 7 (some .int) :: sg_tbl) ({ frames := 35, cells := 0, slots := 0, locals := 819 })).room s m #[.ref a0] below meth c H locs 0 0 (MQ below (va_Qi (fun r (_ : Unit) => (fun r : Int32 => True) r) (fun _ => sgB (KT P) D vwCl base tys ad ks) (fun q : Nat => base ≤ q)) #[.ref a0] s 0 0 (fun q : Nat => base ≤ q)) (F0 m 174 ls []) := by
                      intro locs ls z29_4 hS hl hz29_4
                      obtain ⟨y30, ey30⟩ : ∃ y : Int32, y = z16_5 + Int32.ofInt 1 := ⟨_, rfl⟩
                      refine lv_iinc (v := y30) (lv' := [(5, .int y30), (0, .ref a0), (1, .int f8), (2, .int z9_2), (3, .int z9_3), (4, .int z29_4)]) X.1 X.2.1 dX12_openings_174 hl (k := 5) rfl ey30.symm (by decide) rfl (fun ls hl => ?_)
                      refine lv_goto (tgt := 66) X.1 X.2.1 dX12_openings_177 (by decide) ?_
                      exact ih16 _ _ z29_4 y30 hS (lv_sub hl [1, 2, 3, 4, 5, 0] rfl) hz29_4 (iv_of (iv_add (a' := 1) (b' := 8) ey30 (iv_lt (b' := 7) (iv_gt_of c18) hz16_5 hf17 (by decide +kernel)) (iv_c _ (a := 1) (b := 1) (by decide +kernel)) (by decide +kernel)) (a' := 0) (b' := 8) (by decide +kernel)) (iv_stepU ey30 (iv_lt (b' := 7) (iv_gt_of c18) hz16_5 hf17 (by decide +kernel)) (by decide +kernel) hN16)
                    refine lv_if_eq (tgt := 174) X.1 X.2.1 dX12_openings_143 (by decide) (fun c28 => ?_) (fun c28 => ?_)
                    · exact B29_174 _ _ z16_4 hS (lv_sub hl [1, 2, 3, 4, 5, 6] rfl) hz16_4
                    · refine lv_aload_n X.1 X.2.1 dX12_openings_146 rfl (lv_at hl 1 rfl) ?_
                      refine lv_iload_n X.1 X.2.1 dX12_openings_147 rfl (lv_at hl 4 rfl) ?_
                      refine lv_iload X.1 X.2.1 dX12_openings_148 (lv_at hl 6 rfl) ?_
                      refine ca_X12_turned_1 X hK hG hC (fun _ h => h) hS hb hp4 a0 h0 z9_3 (iv_lt (b' := 29) (iv_gt_of c11) hz9_3 hf10 (by decide +kernel)) z16_5 (iv_lt (b' := 7) (iv_gt_of c18) hz16_5 hf17 (by decide +kernel)) wl_9_116 hl.1 (rest := []) rfl (Nat.le_of_ble_eq_true rfl) ⟨Nat.le_of_ble_eq_true rfl, Nat.le_of_ble_eq_true rfl⟩ ⟨Nat.le_of_ble_eq_true rfl, Nat.le_of_ble_eq_true rfl⟩ dX12_openings_150 (fun f31 locs hf31 hS => ?_)
                      refine lv_iload_n X.1 X.2.1 dX12_openings_153 rfl (lv_at hl 4 rfl) ?_
                      refine lv_icmp_ge (tgt := 174) X.1 X.2.1 dX12_openings_154 (by decide) (fun c32 => ?_) (fun c32 => ?_)
                      · exact B29_174 _ _ z16_4 hS (lv_sub hl [1, 2, 3, 4, 5, 6] rfl) hz16_4
                      · refine lv_iload_n X.1 X.2.1 dX12_openings_157 rfl (lv_at hl 2 rfl) ?_
                        refine lv_aload_n X.1 X.2.1 dX12_openings_158 rfl (lv_at hl 1 rfl) ?_
                        refine lv_iload_n X.1 X.2.1 dX12_openings_159 rfl (lv_at hl 4 rfl) ?_
                        refine lv_iload X.1 X.2.1 dX12_openings_160 (lv_at hl 6 rfl) ?_
                        refine ca_X12_turned_1 X hK hG hC (fun _ h => h) hS hb hp4 a0 h0 z9_3 (iv_lt (b' := 29) (iv_gt_of c11) hz9_3 hf10 (by decide +kernel)) z16_5 (iv_lt (b' := 7) (iv_gt_of c18) hz16_5 hf17 (by decide +kernel)) wl_9_116 hl.1 (rest := [.int f8]) rfl (Nat.le_of_ble_eq_true rfl) ⟨Nat.le_of_ble_eq_true rfl, Nat.le_of_ble_eq_true rfl⟩ ⟨Nat.le_of_ble_eq_true rfl, Nat.le_of_ble_eq_true rfl⟩ dX12_openings_162 (fun f33 locs hf33 hS => ?_)
                        refine ca_X12_has X hK hG hC (fun _ h => h) hS hb f8 f33 wl_7_174 hl.1 (rest := []) rfl (Nat.le_of_ble_eq_true rfl) ⟨Nat.le_of_ble_eq_true rfl, Nat.le_of_ble_eq_true rfl⟩ ⟨Nat.le_of_ble_eq_true rfl, Nat.le_of_ble_eq_true rfl⟩ dX12_openings_165 (fun f34 locs hf34 hS => ?_)
                        refine lv_if_eq (tgt := 174) X.1 X.2.1 dX12_openings_168 (by decide) (fun c35 => ?_) (fun c35 => ?_)
                        · exact B29_174 _ _ z16_4 hS (lv_sub hl [1, 2, 3, 4, 5, 6] rfl) hz16_4
                        · refine lv_iconst (v := 0) X.1 X.2.1 dX12_openings_171 (by decide +kernel) ?_
                          refine lv_istore (lv' := [(4, .int 0), (6, .int w27_0), (0, .ref a0), (1, .int f8), (2, .int z9_2), (3, .int z9_3), (5, .int z16_5)]) X.1 X.2.1 dX12_openings_172 hl (by decide) rfl (fun ls hl => ?_)
                          exact B29_174 _ _ 0 hS (lv_sub hl [2, 3, 4, 5, 0, 6] rfl) (iv_of (iv_c 0 (a := 0) (b := 0) (by decide +kernel)) (a' := 0) (b' := 1) (by decide +kernel))
                  have B36_138 : ∀ (locs : List Loc) (ls : Array Slot), va_S (fun q : Nat => base ≤ q) s.heap H locs → lv_has ls 7 [(0, .ref a0), (1, .int f8), (2, .int z9_2), (3, .int z9_3), (4, .int z16_4), (5, .int z16_5)] → W p l e (headSpec (Cond.code yX12_openings cX12_openings 7 (some .int) :: sg_tbl) ({ frames := 35, cells := 0, slots := 0, locals := 819 })).room s m #[.ref a0] below meth c H locs 0 0 (MQ below (va_Qi (fun r (_ : Unit) => (fun r : Int32 => True) r) (fun _ => sgB (KT P) D vwCl base tys ad ks) (fun q : Nat => base ≤ q)) #[.ref a0] s 0 0 (fun q : Nat => base ≤ q)) (F0 m 138 ls []) := by
                    intro locs ls hS hl
                    refine lv_iconst (v := 0) X.1 X.2.1 dX12_openings_138 (by decide +kernel) ?_
                    exact B27_139 _ _ 0 hS (lv_sub hl [0, 1, 2, 3, 4, 5] rfl) (iv_of (iv_c 0 (a := 0) (b := 0) (by decide +kernel)) (a' := 0) (b' := 1) (by decide +kernel))
                  refine lv_icmp_ne (tgt := 138) X.1 X.2.1 dX12_openings_93 (by decide) (fun c26 => ?_) (fun c26 => ?_)
                  · exact B36_138 _ _ hS (lv_sub hl [0, 1, 2, 3, 4, 5] rfl)
                  · refine lv_aload_n X.1 X.2.1 dX12_openings_96 rfl (lv_at hl 0 rfl) ?_
                    refine lv_aload_n X.1 X.2.1 dX12_openings_97 rfl (lv_at hl 0 rfl) ?_
                    refine gf_X12_24 X hK hG h0 wl_6_202 dX12_openings_98 (fun f37 hf37 kf37 => ?_)
                    refine lv_iload X.1 X.2.1 dX12_openings_101 (lv_at hl 5 rfl) ?_
                    refine ca_X12_turnedSet_1 X hK hG hC (fun _ h => h) hS hb hp4 a0 h0 f37 z16_5 (iv_lt (b' := 7) (iv_gt_of c18) hz16_5 hf17 (by decide +kernel)) wl_9_112 hl.1 (rest := []) rfl (Nat.le_of_ble_eq_true rfl) ⟨Nat.le_of_ble_eq_true rfl, Nat.le_of_ble_eq_true rfl⟩ ⟨Nat.le_of_ble_eq_true rfl, Nat.le_of_ble_eq_true rfl⟩ dX12_openings_103 (fun f38 locs hf38 hS => ?_)
                    refine lv_aload_n X.1 X.2.1 dX12_openings_106 rfl (lv_at hl 0 rfl) ?_
                    refine gg_X12_24 X hK hG h0 wl_6_202 kf37 dX12_openings_107 ?_
                    refine lv_icmp_ne (tgt := 138) X.1 X.2.1 dX12_openings_110 (by decide) (fun c39 => ?_) (fun c39 => ?_)
                    · exact B36_138 _ _ hS (lv_sub hl [0, 1, 2, 3, 4, 5] rfl)
                    · refine lv_aload_n X.1 X.2.1 dX12_openings_113 rfl (lv_at hl 0 rfl) ?_
                      refine lv_aload_n X.1 X.2.1 dX12_openings_114 rfl (lv_at hl 0 rfl) ?_
                      refine gg_X12_32 X hK hG h0 wl_6_210 kq22 dX12_openings_115 ?_
                      refine lv_iconst (v := 1) X.1 X.2.1 dX12_openings_118 (by decide +kernel) ?_
                      refine al_54 X hK hG hq22 (iv_vpin (iv_c 1 (a := 1) (b := 1) (by decide +kernel)) (by decide +kernel)) dX12_openings_119 (fun f40 hf40 => ?_)
                      have hf40 := sg_nw_now hf40
                      have of40 := hf40
                      have hf40 : iv (-2147483648) 2147483647 f40 := sg_sp_now hf40 (iv_c 1 (a := 1) (b := 1) (by decide +kernel)) (by decide +kernel) rfl
                      refine lv_iload X.1 X.2.1 dX12_openings_120 (lv_at hl 5 rfl) ?_
                      refine ca_X12_turnedSet_1 X hK hG hC (fun _ h => h) hS hb hp4 a0 h0 f40 z16_5 (iv_lt (b' := 7) (iv_gt_of c18) hz16_5 hf17 (by decide +kernel)) wl_9_112 hl.1 (rest := []) rfl (Nat.le_of_ble_eq_true rfl) ⟨Nat.le_of_ble_eq_true rfl, Nat.le_of_ble_eq_true rfl⟩ ⟨Nat.le_of_ble_eq_true rfl, Nat.le_of_ble_eq_true rfl⟩ dX12_openings_122 (fun f41 locs hf41 hS => ?_)
                      refine lv_aload_n X.1 X.2.1 dX12_openings_125 rfl (lv_at hl 0 rfl) ?_
                      refine gg_X12_32 X hK hG h0 wl_6_210 kq22 dX12_openings_126 ?_
                      refine lv_iconst (v := 1) X.1 X.2.1 dX12_openings_129 (by decide +kernel) ?_
                      refine al_54 X hK hG hq22 (iv_vpin (iv_c 1 (a := 1) (b := 1) (by decide +kernel)) (by decide +kernel)) dX12_openings_130 (fun f42 hf42 => ?_)
                      have hf42 := sg_nw_now hf42
                      have of42 := hf42
                      have hf42 : iv (-2147483648) 2147483647 f42 := sg_sp_now hf42 (iv_c 1 (a := 1) (b := 1) (by decide +kernel)) (by decide +kernel) rfl
                      refine lv_icmp_ne (tgt := 138) X.1 X.2.1 dX12_openings_131 (by decide) (fun c43 => ?_) (fun c43 => ?_)
                      · exact B36_138 _ _ hS (lv_sub hl [0, 1, 2, 3, 4, 5] rfl)
                      · refine lv_iconst (v := 1) X.1 X.2.1 dX12_openings_134 (by decide +kernel) ?_
                        refine lv_goto (tgt := 139) X.1 X.2.1 dX12_openings_135 (by decide) ?_
                        exact B27_139 _ _ 1 hS (lv_sub hl [0, 1, 2, 3, 4, 5] rfl) (iv_of (iv_c 1 (a := 1) (b := 1) (by decide +kernel)) (a' := 0) (b' := 1) (by decide +kernel))
            exact B16_66 _ _ _ 1 0 hS (lv_sub hl [2, 3, 4, 5, 1, 0] rfl) (iv_of (iv_c 1 (a := 1) (b := 1) (by decide +kernel)) (a' := 0) (b' := 1) (by decide +kernel)) (iv_of (iv_c 0 (a := 0) (b := 0) (by decide +kernel)) (a' := 0) (b' := 8) (by decide +kernel)) (Nat.le_refl _)
          · refine lv_goto (tgt := 193) X.1 X.2.1 dX12_openings_57 (by decide) ?_
            exact B14_193 _ _ z9_2 hS (lv_sub hl [0, 1, 2, 3] rfl)
    exact B9_41 _ _ _ 0 0 hS (lv_sub hl [3, 2, 1, 0] rfl) (iv_of (iv_c 0 (a := 0) (b := 0) (by decide +kernel)) (a' := 0) (b' := 30) (by decide +kernel)) (Nat.le_refl _)
  · exact ((iv_no (a := 1) (b := 0) (iv_eqm c3 hf2 (iv_c 0 (a := 0) (b := 0) (by decide +kernel)) (by decide +kernel)) (by decide +kernel))).elim

theorem ca_X12_openings_1   (X : CallFix p m c cc nL s args sg_tbl own) (hK : va_K D vwCl tys s) (hG : sgG (KT P) D vwCl (fun q : Nat => base ≤ q) tys ad ks H) (hC : sgC base s) (hS : va_S (fun q : Nat => base ≤ q) s.heap H locs) (hb : base ≤ s.heap.size) (hp4 : P.2.2.2.2.1 = true) (a0 : Nat) (h0 : isK ad ks 12 a0) (hl : Cond.methodLink own index yX12_openings ∈ sg_tbl) (hsize : ls.size = nL) (hst : st0 = [].reverse ++ .ref a0 :: rest) (hW : (rest.map fun v => v.category).sum ≤ 8) (hR : 36 ≤ R.frames ∧ 845 ≤ R.locals) (hf : cells ≤ R.cells ∧ slots ≤ R.slots) (hdg : decode cc pc = .ok (.invokevirtual index, 3)) (kk : ∀ (r : Int32) (H1 : Heap) (locs1 : List Loc), (fun r : Int32 => True) r → sgG (KT P) D vwCl (fun q : Nat => base ≤ q) tys ad ks H1 → va_S (fun q : Nat => base ≤ q) s.heap H1 locs1 → W p l e R s m args below meth c H1 locs1 cells slots Q (F0 m (pc + 3) ls (.int r :: rest))) : W p l e R s m args below meth c H locs cells slots Q (F0 m pc ls st0) :=
  sg_callVi X hK hG hC hS hb (m_X12_openings_1 l hp4 a0 h0) h0 (k := 12) (ci := 12) rfl (C := RX12) (T := TX12) (N := 53) rfl wl_9_123 wl_1_13 wl_9_121 wl_9_122 (n := 0) (by decide +kernel) rfl rfl rfl hl hsize hst hW hR hf hdg kk

set_option maxHeartbeats 8000000 in
set_option maxRecDepth 100000 in
theorem m_X12_where_1 (l : Launch) {D : va_G} {base : Nat} {tys : List (ClassId × FieldType)} {ad ks : List Nat} {P : sgPm} (hp4 : P.2.2.2.2.1 = true) (a0 : Nat) (h0 : isK ad ks 12 a0) (x1 : Int32) : sgMi l (KT P) D vwCl base tys ad ks yX12_where cX12_where 6 (some .int) ({ frames := 35, cells := 0, slots := 0, locals := 819 }) [.ref a0, .int x1] (fun r : Int32 => True) := by
  refine sg_ofW (by decide +kernel) (Nat.le_of_ble_eq_true rfl) (fun p e s m below meth c X hr hlk hb hK hC hG ls hl => ?_)
  have hS : va_S (fun q : Nat => base ≤ q) s.heap s.heap [] := va_S.rf
  have hl : lv_has ls 6 [(0, .ref a0), (1, .int x1)] := hl
  refine lv_aload_n X.1 X.2.1 dX12_where_0 rfl (lv_at hl 0 rfl) ?_
  refine lv_iconst (v := 0) X.1 X.2.1 dX12_where_1 (by decide +kernel) ?_
  refine pf_X12_0 X hK hG hS h0 wl_6_178 ⟨_, rfl, (iv_top _)⟩ dX12_where_2 (fun H locs hG hS ku1 ru1 => ?_)
  refine lv_aload_n X.1 X.2.1 dX12_where_5 rfl (lv_at hl 0 rfl) ?_
  refine gf_X12_23s X hK hG h0 hp4 wl_6_201 dX12_where_6 (fun f2 hf2 kf2 => ?_)
  refine lv_if_eq (tgt := 22) X.1 X.2.1 dX12_where_9 (by decide) (fun c3 => ?_) (fun c3 => ?_)
  · exact ((iv_no (a := 1) (b := 0) (iv_eqm c3 hf2 (iv_c 0 (a := 0) (b := 0) (by decide +kernel)) (by decide +kernel)) (by decide +kernel))).elim
  · refine lv_iload_n X.1 X.2.1 dX12_where_12 rfl (lv_at hl 1 rfl) ?_
    obtain ⟨g4, eg4⟩ : ∃ y : Int64, y = (x1 : Int32).toInt64 := ⟨_, rfl⟩
    refine lv_i2l (v := g4) X.1 X.2.1 dX12_where_13 eg4.symm ?_
    refine lv_lconst (v := 0) X.1 X.2.1 dX12_where_14 (by decide +kernel) ?_
    refine lv_lconst (v := 1) X.1 X.2.1 dX12_where_15 (by decide +kernel) ?_
    refine ca_X12_isIn X hK hG hC (fun _ h => h) hS hb g4 0 1 wl_7_119 hl.1 (rest := []) rfl (Nat.le_of_ble_eq_true rfl) ⟨Nat.le_of_ble_eq_true rfl, Nat.le_of_ble_eq_true rfl⟩ ⟨Nat.le_of_ble_eq_true rfl, Nat.le_of_ble_eq_true rfl⟩ dX12_where_16 (fun f5 locs hf5 hS => ?_)
    refine lv_if_ne (tgt := 24) X.1 X.2.1 dX12_where_19 (by decide) (fun c6 => ?_) (fun c6 => ?_)
    · refine lv_iconst (v := (-1)) X.1 X.2.1 dX12_where_24 (by decide +kernel) ?_
      refine lv_istore_n (lv' := [(2, .int (-1)), (0, .ref a0), (1, .int x1)]) X.1 X.2.1 dX12_where_25 rfl hl (by decide) rfl (fun ls hl => ?_)
      refine lv_iconst (v := 0) X.1 X.2.1 dX12_where_26 (by decide +kernel) ?_
      refine lv_istore_n (lv' := [(3, .int 0), (2, .int (-1)), (0, .ref a0), (1, .int x1)]) X.1 X.2.1 dX12_where_27 rfl hl (by decide) rfl (fun ls hl => ?_)
      refine lv_iconst (v := 0) X.1 X.2.1 dX12_where_28 (by decide +kernel) ?_
      refine lv_istore (lv' := [(4, .int 0), (3, .int 0), (2, .int (-1)), (0, .ref a0), (1, .int x1)]) X.1 X.2.1 dX12_where_29 hl (by decide) rfl (fun ls hl => ?_)
      have B7_31 : ∀ (N : Nat) (H : Heap) (locs : List Loc) (ls : Array Slot) (z7_2 : Int32) (z7_3 : Int32) (z7_4 : Int32), sgG (KT P) D vwCl (fun q : Nat => base ≤ q) tys ad ks H → va_S (fun q : Nat => base ≤ q) s.heap H locs → lv_has ls 6 [(0, .ref a0), (1, .int x1), (2, .int z7_2), (3, .int z7_3), (4, .int z7_4)] → iv (-1) 30 z7_2 → iv 0 63 z7_3 → iv 0 30 z7_4 → (31 - z7_4.toInt).toNat ≤ N → W p l e (headSpec (Cond.code yX12_where cX12_where 6 (some .int) :: sg_tbl) ({ frames := 35, cells := 0, slots := 0, locals := 819 })).room s m #[.ref a0, .int x1] below meth c H locs 0 0 (MQ below (va_Qi (fun r (_ : Unit) => (fun r : Int32 => True) r) (fun _ => sgB (KT P) D vwCl base tys ad ks) (fun q : Nat => base ≤ q)) #[.ref a0, .int x1] s 0 0 (fun q : Nat => base ≤ q)) (F0 m 31 ls []) := by
        intro N; induction N with
        | zero =>
          intro H locs ls z7_2 z7_3 z7_4 hG hS hl hz7_2 hz7_3 hz7_4 hN
          exact absurd hN (by have := iv_up hz7_4; omega)
        | succ N ih7 =>
          intro H locs ls z7_2 z7_3 z7_4 hG hS hl hz7_2 hz7_3 hz7_4 hN7
          refine lv_iload X.1 X.2.1 dX12_where_31 (lv_at hl 4 rfl) ?_
          refine lv_aload_n X.1 X.2.1 dX12_where_33 rfl (lv_at hl 0 rfl) ?_
          refine gf_X12_23s X hK hG h0 hp4 wl_6_201 dX12_where_34 (fun f8 hf8 kf8 => ?_)
          refine lv_icmp_ge (tgt := 127) X.1 X.2.1 dX12_where_37 (by decide) (fun c9 => ?_) (fun c9 => ?_)
          · refine lv_iload_n X.1 X.2.1 dX12_where_127 rfl (lv_at hl 2 rfl) ?_
            refine lv_iconst (v := (-1)) X.1 X.2.1 dX12_where_128 (by decide +kernel) ?_
            refine lv_icmp_ne (tgt := 136) X.1 X.2.1 dX12_where_129 (by decide) (fun c10 => ?_) (fun c10 => ?_)
            · refine lv_iload_n X.1 X.2.1 dX12_where_136 rfl (lv_at hl 1 rfl) ?_
              refine lv_if_ne (tgt := 144) X.1 X.2.1 dX12_where_137 (by decide) (fun c11 => ?_) (fun c11 => ?_)
              · refine lv_iload_n X.1 X.2.1 dX12_where_144 rfl (lv_at hl 3 rfl) ?_
                exact sg_iret X hr hlk hb hK hC hG hS trivial dX12_where_145
              · refine lv_iload_n X.1 X.2.1 dX12_where_140 rfl (lv_at hl 2 rfl) ?_
                refine lv_goto (tgt := 145) X.1 X.2.1 dX12_where_141 (by decide) ?_
                exact sg_iret X hr hlk hb hK hC hG hS trivial dX12_where_145
            · refine lv_iconst (v := (-1)) X.1 X.2.1 dX12_where_132 (by decide +kernel) ?_
              refine lv_goto (tgt := 145) X.1 X.2.1 dX12_where_133 (by decide) ?_
              exact sg_iret X hr hlk hb hK hC hG hS trivial dX12_where_145
          · refine lv_aload_n X.1 X.2.1 dX12_where_40 rfl (lv_at hl 0 rfl) ?_
            refine gf_X12_24 X hK hG h0 wl_6_202 dX12_where_41 (fun f12 hf12 kf12 => ?_)
            refine lv_aload_n X.1 X.2.1 dX12_where_44 rfl (lv_at hl 0 rfl) ?_
            refine gf_X12_32 X hK hG h0 wl_6_210 dX12_where_45 (fun q13 hq13 kq13 => ?_)
            refine lv_iconst (v := 1) X.1 X.2.1 dX12_where_48 (by decide +kernel) ?_
            refine al_54 X hK hG hq13 (iv_vpin (iv_c 1 (a := 1) (b := 1) (by decide +kernel)) (by decide +kernel)) dX12_where_49 (fun f14 hf14 => ?_)
            have hf14 := sg_nw_now hf14
            have of14 := hf14
            have hf14 : iv (-2147483648) 2147483647 f14 := sg_sp_now hf14 (iv_c 1 (a := 1) (b := 1) (by decide +kernel)) (by decide +kernel) rfl
            refine lv_ior X.1 X.2.1 dX12_where_50 ?_
            refine lv_topi (fun f15 ef15 => ?_)
            refine lv_iload X.1 X.2.1 dX12_where_51 (lv_at hl 4 rfl) ?_
            refine ca_X12_has X hK hG hC (fun _ h => h) hS hb f15 z7_4 wl_7_174 hl.1 (rest := []) rfl (Nat.le_of_ble_eq_true rfl) ⟨Nat.le_of_ble_eq_true rfl, Nat.le_of_ble_eq_true rfl⟩ ⟨Nat.le_of_ble_eq_true rfl, Nat.le_of_ble_eq_true rfl⟩ dX12_where_53 (fun f16 locs hf16 hS => ?_)
            have B18_121 : ∀ (H : Heap) (locs : List Loc) (ls : Array Slot) (z18_2 : Int32) (z18_3 : Int32), sgG (KT P) D vwCl (fun q : Nat => base ≤ q) tys ad ks H → va_S (fun q : Nat => base ≤ q) s.heap H locs → lv_has ls 6 [(0, .ref a0), (1, .int x1), (2, .int z18_2), (3, .int z18_3), (4, .int z7_4)] → iv (-1) 30 z18_2 → iv 0 63 z18_3 → W p l e (headSpec (Cond.code yX12_where cX12_where 6 (some .int) :: sg_tbl) ({ frames := 35, cells := 0, slots := 0, locals := 819 })).room s m #[.ref a0, .int x1] below meth c H locs 0 0 (MQ below (va_Qi (fun r (_ : Unit) => (fun r : Int32 => True) r) (fun _ => sgB (KT P) D vwCl base tys ad ks) (fun q : Nat => base ≤ q)) #[.ref a0, .int x1] s 0 0 (fun q : Nat => base ≤ q)) (F0 m 121 ls []) := by
              intro H locs ls z18_2 z18_3 hG hS hl hz18_2 hz18_3
              obtain ⟨y19, ey19⟩ : ∃ y : Int32, y = z7_4 + Int32.ofInt 1 := ⟨_, rfl⟩
              refine lv_iinc (v := y19) (lv' := [(4, .int y19), (0, .ref a0), (1, .int x1), (2, .int z18_2), (3, .int z18_3)]) X.1 X.2.1 dX12_where_121 hl (k := 4) rfl ey19.symm (by decide) rfl (fun ls hl => ?_)
              refine lv_goto (tgt := 31) X.1 X.2.1 dX12_where_124 (by decide) ?_
              exact ih7 H _ _ z18_2 z18_3 y19 hG hS (lv_sub hl [1, 2, 3, 4, 0] rfl) hz18_2 hz18_3 (iv_of (iv_add (a' := 1) (b' := 30) ey19 (iv_lt (b' := 29) (iv_gt_of c9) hz7_4 hf8 (by decide +kernel)) (iv_c _ (a := 1) (b := 1) (by decide +kernel)) (by decide +kernel)) (a' := 0) (b' := 30) (by decide +kernel)) (iv_stepU ey19 (iv_lt (b' := 29) (iv_gt_of c9) hz7_4 hf8 (by decide +kernel)) (by decide +kernel) hN7)
            refine lv_if_eq (tgt := 62) X.1 X.2.1 dX12_where_56 (by decide) (fun c17 => ?_) (fun c17 => ?_)
            · refine lv_aload_n X.1 X.2.1 dX12_where_62 rfl (lv_at hl 0 rfl) ?_
              refine lv_aload_n X.1 X.2.1 dX12_where_63 rfl (lv_at hl 0 rfl) ?_
              refine gg_X12_32 X hK hG h0 wl_6_210 kq13 dX12_where_64 ?_
              refine lv_iconst (v := 0) X.1 X.2.1 dX12_where_67 (by decide +kernel) ?_
              refine al_54 X hK hG hq13 (iv_vpin (iv_c 0 (a := 0) (b := 0) (by decide +kernel)) (by decide +kernel)) dX12_where_68 (fun f20 hf20 => ?_)
              have hf20 := sg_nw_now hf20
              have of20 := hf20
              have hf20 : iv (-2147483648) 2147483647 f20 := sg_sp_now hf20 (iv_c 0 (a := 0) (b := 0) (by decide +kernel)) (by decide +kernel) rfl
              refine lv_iconst (v := 1) X.1 X.2.1 dX12_where_69 (by decide +kernel) ?_
              refine lv_iload X.1 X.2.1 dX12_where_70 (lv_at hl 4 rfl) ?_
              refine lv_ishl X.1 X.2.1 dX12_where_72 ?_
              refine lv_topi (fun f21 ef21 => ?_)
              refine lv_iconst (v := (-1)) X.1 X.2.1 dX12_where_73 (by decide +kernel) ?_
              refine lv_ixor X.1 X.2.1 dX12_where_74 ?_
              refine lv_topi (fun f22 ef22 => ?_)
              refine lv_iand X.1 X.2.1 dX12_where_75 ?_
              refine lv_topi (fun f23 ef23 => ?_)
              refine lv_aload_n X.1 X.2.1 dX12_where_76 rfl (lv_at hl 0 rfl) ?_
              refine gg_X12_32 X hK hG h0 wl_6_210 kq13 dX12_where_77 ?_
              refine lv_iconst (v := 1) X.1 X.2.1 dX12_where_80 (by decide +kernel) ?_
              refine al_54 X hK hG hq13 (iv_vpin (iv_c 1 (a := 1) (b := 1) (by decide +kernel)) (by decide +kernel)) dX12_where_81 (fun f24 hf24 => ?_)
              have hf24 := sg_nw_now hf24
              have of24 := hf24
              have hf24 : iv (-2147483648) 2147483647 f24 := sg_sp_now hf24 (iv_c 1 (a := 1) (b := 1) (by decide +kernel)) (by decide +kernel) rfl
              refine lv_iconst (v := 1) X.1 X.2.1 dX12_where_82 (by decide +kernel) ?_
              refine lv_iload X.1 X.2.1 dX12_where_83 (lv_at hl 4 rfl) ?_
              refine lv_ishl X.1 X.2.1 dX12_where_85 ?_
              refine lv_topi (fun f25 ef25 => ?_)
              refine lv_ior X.1 X.2.1 dX12_where_86 ?_
              refine lv_topi (fun f26 ef26 => ?_)
              refine lv_aload_n X.1 X.2.1 dX12_where_87 rfl (lv_at hl 0 rfl) ?_
              refine gg_X12_32 X hK hG h0 wl_6_210 kq13 dX12_where_88 ?_
              refine lv_iconst (v := 4) X.1 X.2.1 dX12_where_91 (by decide +kernel) ?_
              refine al_54 X hK hG hq13 (iv_vpin (iv_c 4 (a := 4) (b := 4) (by decide +kernel)) (by decide +kernel)) dX12_where_92 (fun f27 hf27 => ?_)
              have hf27 := sg_nw_now hf27
              have of27 := hf27
              have hf27 : iv 0 1000000000 f27 := sg_day hf27 (iv_c 4 (a := 4) (b := 4) (by decide +kernel))
              refine ca_X12_threatsIn_1 X hK hG hC hS hb hp4 a0 h0 f23 f26 f27 (iv_of hf27 (a' := 0) (b' := 2147483647) (by decide +kernel)) wl_8_106 hl.1 (rest := []) rfl (Nat.le_of_ble_eq_true rfl) ⟨Nat.le_of_ble_eq_true rfl, Nat.le_of_ble_eq_true rfl⟩ ⟨Nat.le_of_ble_eq_true rfl, Nat.le_of_ble_eq_true rfl⟩ dX12_where_93 (fun f28 H locs hf28 hG hS => ?_)
              refine ca_J6_bitCount_0f7a4 X hK hG hC (fun _ h => h) hS hb f28 wl_8_68 hl.1 (rest := []) rfl (Nat.le_of_ble_eq_true rfl) ⟨Nat.le_of_ble_eq_true rfl, Nat.le_of_ble_eq_true rfl⟩ ⟨Nat.le_of_ble_eq_true rfl, Nat.le_of_ble_eq_true rfl⟩ dX12_where_96 (fun f29 locs hf29 hS => ?_)
              refine lv_istore (lv' := [(5, .int f29), (0, .ref a0), (1, .int x1), (2, .int z7_2), (3, .int z7_3), (4, .int z7_4)]) X.1 X.2.1 dX12_where_99 hl (by decide) rfl (fun ls hl => ?_)
              refine lv_iload_n X.1 X.2.1 dX12_where_101 rfl (lv_at hl 3 rfl) ?_
              refine lv_iconst (v := (-1)) X.1 X.2.1 dX12_where_102 (by decide +kernel) ?_
              have B31_115 : ∀ (locs : List Loc) (ls : Array Slot), va_S (fun q : Nat => base ≤ q) s.heap H locs → lv_has ls 6 [(0, .ref a0), (1, .int x1), (4, .int z7_4), (5, .int f29)] → W p l e (headSpec (Cond.code yX12_where cX12_where 6 (some .int) :: sg_tbl) ({ frames := 35, cells := 0, slots := 0, locals := 819 })).room s m #[.ref a0, .int x1] below meth c H locs 0 0 (MQ below (va_Qi (fun r (_ : Unit) => (fun r : Int32 => True) r) (fun _ => sgB (KT P) D vwCl base tys ad ks) (fun q : Nat => base ≤ q)) #[.ref a0, .int x1] s 0 0 (fun q : Nat => base ≤ q)) (F0 m 115 ls []) := by
                intro locs ls hS hl
                refine lv_iload X.1 X.2.1 dX12_where_115 (lv_at hl 2 rfl) ?_
                refine lv_istore_n (lv' := [(2, .int z7_4), (0, .ref a0), (1, .int x1), (4, .int z7_4), (5, .int f29)]) X.1 X.2.1 dX12_where_117 rfl hl (by decide) rfl (fun ls hl => ?_)
                refine lv_iload X.1 X.2.1 dX12_where_118 (lv_at hl 4 rfl) ?_
                refine lv_istore_n (lv' := [(3, .int f29), (2, .int z7_4), (0, .ref a0), (1, .int x1), (4, .int z7_4), (5, .int f29)]) X.1 X.2.1 dX12_where_120 rfl hl (by decide) rfl (fun ls hl => ?_)
                exact B18_121 H _ _ z7_4 f29 hG hS (lv_sub hl [2, 3, 1, 0, 4] rfl) (iv_of (iv_lt (b' := 29) (iv_gt_of c9) hz7_4 hf8 (by decide +kernel)) (a' := (-1)) (b' := 30) (by decide +kernel)) hf29
              refine lv_icmp_eq (tgt := 115) X.1 X.2.1 dX12_where_103 (by decide) (fun c30 => ?_) (fun c30 => ?_)
              · exact B31_115 _ _ hS (lv_sub hl [1, 2, 5, 0] rfl)
              · refine lv_iload X.1 X.2.1 dX12_where_106 (lv_at hl 0 rfl) ?_
                refine lv_iload_n X.1 X.2.1 dX12_where_108 rfl (lv_at hl 4 rfl) ?_
                refine lv_icmp_lt (tgt := 115) X.1 X.2.1 dX12_where_109 (by decide) (fun c32 => ?_) (fun c32 => ?_)
                · exact B31_115 _ _ hS (lv_sub hl [1, 2, 5, 0] rfl)
                · refine lv_goto (tgt := 121) X.1 X.2.1 dX12_where_112 (by decide) ?_
                  exact B18_121 H _ _ z7_2 z7_3 hG hS (lv_sub hl [1, 2, 3, 4, 5] rfl) (iv_of (iv_ne_lo (a' := 0) c30 hz7_2 (by decide +kernel)) (a' := (-1)) (b' := 30) (by decide +kernel)) hz7_3
            · refine lv_goto (tgt := 121) X.1 X.2.1 dX12_where_59 (by decide) ?_
              exact B18_121 H _ _ z7_2 z7_3 hG hS (lv_sub hl [0, 1, 2, 3, 4] rfl) hz7_2 hz7_3
      exact B7_31 _ H _ _ (-1) 0 0 hG hS (lv_sub hl [3, 4, 2, 1, 0] rfl) (iv_of (iv_c (-1) (a := (-1)) (b := (-1)) (by decide +kernel)) (a' := (-1)) (b' := 30) (by decide +kernel)) (iv_of (iv_c 0 (a := 0) (b := 0) (by decide +kernel)) (a' := 0) (b' := 63) (by decide +kernel)) (iv_of (iv_c 0 (a := 0) (b := 0) (by decide +kernel)) (a' := 0) (b' := 30) (by decide +kernel)) (Nat.le_refl _)
    · refine lv_iconst (v := (-1)) X.1 X.2.1 dX12_where_22 (by decide +kernel) ?_
      exact sg_iret X hr hlk hb hK hC hG hS trivial dX12_where_23

theorem ca_X12_where_1   (X : CallFix p m c cc nL s args sg_tbl own) (hK : va_K D vwCl tys s) (hG : sgG (KT P) D vwCl (fun q : Nat => base ≤ q) tys ad ks H) (hC : sgC base s) (hS : va_S (fun q : Nat => base ≤ q) s.heap H locs) (hb : base ≤ s.heap.size) (hp4 : P.2.2.2.2.1 = true) (a0 : Nat) (h0 : isK ad ks 12 a0) (x1 : Int32) (hl : Cond.methodLink own index yX12_where ∈ sg_tbl) (hsize : ls.size = nL) (hst : st0 = [.int x1].reverse ++ .ref a0 :: rest) (hW : (rest.map fun v => v.category).sum ≤ 8) (hR : 36 ≤ R.frames ∧ 844 ≤ R.locals) (hf : cells ≤ R.cells ∧ slots ≤ R.slots) (hdg : decode cc pc = .ok (.invokevirtual index, 3)) (kk : ∀ (r : Int32) (H1 : Heap) (locs1 : List Loc), (fun r : Int32 => True) r → sgG (KT P) D vwCl (fun q : Nat => base ≤ q) tys ad ks H1 → va_S (fun q : Nat => base ≤ q) s.heap H1 locs1 → W p l e R s m args below meth c H1 locs1 cells slots Q (F0 m (pc + 3) ls (.int r :: rest))) : W p l e R s m args below meth c H locs cells slots Q (F0 m pc ls st0) :=
  sg_callVi X hK hG hC hS hb (m_X12_where_1 l hp4 a0 h0 x1) h0 (k := 12) (ci := 12) rfl (C := RX12) (T := TX12) (N := 53) rfl wl_9_141 wl_1_13 wl_9_139 wl_9_140 (n := 1) (by decide +kernel) rfl rfl rfl hl hsize hst hW hR hf hdg kk

set_option maxHeartbeats 8000000 in
set_option maxRecDepth 100000 in
theorem m_X12_lowest_1 (l : Launch) {D : va_G} {base : Nat} {tys : List (ClassId × FieldType)} {ad ks : List Nat} {P : sgPm} (hp4 : P.2.2.2.2.1 = true) (a0 : Nat) (h0 : isK ad ks 12 a0) (a1 : Nat) (h1 : isK ad ks 54 a1) : sgMi l (KT P) D vwCl base tys ad ks yX12_lowest cX12_lowest 3 (some .int) ({ frames := 35, cells := 0, slots := 0, locals := 819 }) [.ref a0, .ref a1] (fun r : Int32 => True) := by
  refine sg_ofW (by decide +kernel) (Nat.le_of_ble_eq_true rfl) (fun p e s m below meth c X hr hlk hb hK hC hG ls hl => ?_)
  have hS : va_S (fun q : Nat => base ≤ q) s.heap s.heap [] := va_S.rf
  have hl : lv_has ls 3 [(0, .ref a0), (1, .ref a1)] := hl
  refine lv_aload_n X.1 X.2.1 dX12_lowest_0 rfl (lv_at hl 0 rfl) ?_
  refine lv_aload_n X.1 X.2.1 dX12_lowest_1 rfl (lv_at hl 1 rfl) ?_
  refine ca_X12_isOpen_1 X hK hG hC (fun _ h => h) hS hb hp4 a0 h0 a1 h1 wl_8_94 hl.1 (rest := []) rfl (Nat.le_of_ble_eq_true rfl) ⟨Nat.le_of_ble_eq_true rfl, Nat.le_of_ble_eq_true rfl⟩ ⟨Nat.le_of_ble_eq_true rfl, Nat.le_of_ble_eq_true rfl⟩ dX12_lowest_2 (fun f1 locs hf1 hS => ?_)
  have B3_31 : ∀ (H : Heap) (locs : List Loc) (ls : Array Slot) (w3_0 : Int32), sgG (KT P) D vwCl (fun q : Nat => base ≤ q) tys ad ks H → va_S (fun q : Nat => base ≤ q) s.heap H locs → lv_has ls 3 [] → W p l e (headSpec (Cond.code yX12_lowest cX12_lowest 3 (some .int) :: sg_tbl) ({ frames := 35, cells := 0, slots := 0, locals := 819 })).room s m #[.ref a0, .ref a1] below meth c H locs 0 0 (MQ below (va_Qi (fun r (_ : Unit) => (fun r : Int32 => True) r) (fun _ => sgB (KT P) D vwCl base tys ad ks) (fun q : Nat => base ≤ q)) #[.ref a0, .ref a1] s 0 0 (fun q : Nat => base ≤ q)) (F0 m 31 ls [.int w3_0]) := by
    intro H locs ls w3_0 hG hS hl
    refine lv_istore_n (lv' := [(2, .int w3_0)]) X.1 X.2.1 dX12_lowest_31 rfl hl (by decide) rfl (fun ls hl => ?_)
    refine lv_iload_n X.1 X.2.1 dX12_lowest_32 rfl (lv_at hl 0 rfl) ?_
    refine lv_if_ne (tgt := 40) X.1 X.2.1 dX12_lowest_33 (by decide) (fun c4 => ?_) (fun c4 => ?_)
    · refine lv_iload_n X.1 X.2.1 dX12_lowest_40 rfl (lv_at hl 0 rfl) ?_
      refine ca_J6_numberOfTrailingZeros_0f7a4 X hK hG hC (fun _ h => h) hS hb w3_0 wl_8_214 hl.1 (rest := []) rfl (Nat.le_of_ble_eq_true rfl) ⟨Nat.le_of_ble_eq_true rfl, Nat.le_of_ble_eq_true rfl⟩ ⟨Nat.le_of_ble_eq_true rfl, Nat.le_of_ble_eq_true rfl⟩ dX12_lowest_41 (fun f5 locs hf5 hS => ?_)
      exact sg_iret X hr hlk hb hK hC hG hS trivial dX12_lowest_44
    · refine lv_iconst (v := (-1)) X.1 X.2.1 dX12_lowest_36 (by decide +kernel) ?_
      refine lv_goto (tgt := 44) X.1 X.2.1 dX12_lowest_37 (by decide) ?_
      exact sg_iret X hr hlk hb hK hC hG hS trivial dX12_lowest_44
  have B6_30 : ∀ (locs : List Loc) (ls : Array Slot), va_S (fun q : Nat => base ≤ q) s.heap s.heap locs → lv_has ls 3 [] → W p l e (headSpec (Cond.code yX12_lowest cX12_lowest 3 (some .int) :: sg_tbl) ({ frames := 35, cells := 0, slots := 0, locals := 819 })).room s m #[.ref a0, .ref a1] below meth c s.heap locs 0 0 (MQ below (va_Qi (fun r (_ : Unit) => (fun r : Int32 => True) r) (fun _ => sgB (KT P) D vwCl base tys ad ks) (fun q : Nat => base ≤ q)) #[.ref a0, .ref a1] s 0 0 (fun q : Nat => base ≤ q)) (F0 m 30 ls []) := by
    intro locs ls hS hl
    refine lv_iconst (v := 0) X.1 X.2.1 dX12_lowest_30 (by decide +kernel) ?_
    exact B3_31 s.heap _ _ 0 hG hS (lv_sub hl [] rfl)
  refine lv_if_eq (tgt := 30) X.1 X.2.1 dX12_lowest_5 (by decide) (fun c2 => ?_) (fun c2 => ?_)
  · exact B6_30 _ _ hS (lv_sub hl [] rfl)
  · refine lv_aload_n X.1 X.2.1 dX12_lowest_8 rfl (lv_at hl 1 rfl) ?_
    refine lv_iconst (v := 2) X.1 X.2.1 dX12_lowest_9 (by decide +kernel) ?_
    refine al_54 X hK hG h1 (iv_vpin (iv_c 2 (a := 2) (b := 2) (by decide +kernel)) (by decide +kernel)) dX12_lowest_10 (fun f7 hf7 => ?_)
    have hf7 := sg_nw_now hf7
    have of7 := hf7
    have hf7 : iv 0 1 f7 := sg_sp_now hf7 (iv_c 2 (a := 2) (b := 2) (by decide +kernel)) (by decide +kernel) rfl
    refine lv_if_ne (tgt := 30) X.1 X.2.1 dX12_lowest_11 (by decide) (fun c8 => ?_) (fun c8 => ?_)
    · exact B6_30 _ _ hS (lv_sub hl [] rfl)
    · refine lv_aload_n X.1 X.2.1 dX12_lowest_14 rfl (lv_at hl 0 rfl) ?_
      refine lv_aload_n X.1 X.2.1 dX12_lowest_15 rfl (lv_at hl 1 rfl) ?_
      refine lv_iconst (v := 0) X.1 X.2.1 dX12_lowest_16 (by decide +kernel) ?_
      refine al_54 X hK hG h1 (iv_vpin (iv_c 0 (a := 0) (b := 0) (by decide +kernel)) (by decide +kernel)) dX12_lowest_17 (fun f9 hf9 => ?_)
      have hf9 := sg_nw_now hf9
      have of9 := hf9
      have hf9 : iv (-2147483648) 2147483647 f9 := sg_sp_now hf9 (iv_c 0 (a := 0) (b := 0) (by decide +kernel)) (by decide +kernel) rfl
      refine lv_aload_n X.1 X.2.1 dX12_lowest_18 rfl (lv_at hl 1 rfl) ?_
      refine lv_iconst (v := 1) X.1 X.2.1 dX12_lowest_19 (by decide +kernel) ?_
      refine al_54 X hK hG h1 (iv_vpin (iv_c 1 (a := 1) (b := 1) (by decide +kernel)) (by decide +kernel)) dX12_lowest_20 (fun f10 hf10 => ?_)
      have hf10 := sg_nw_now hf10
      have of10 := hf10
      have hf10 : iv (-2147483648) 2147483647 f10 := sg_sp_now hf10 (iv_c 1 (a := 1) (b := 1) (by decide +kernel)) (by decide +kernel) rfl
      refine lv_aload_n X.1 X.2.1 dX12_lowest_21 rfl (lv_at hl 1 rfl) ?_
      refine lv_iconst (v := 4) X.1 X.2.1 dX12_lowest_22 (by decide +kernel) ?_
      refine al_54 X hK hG h1 (iv_vpin (iv_c 4 (a := 4) (b := 4) (by decide +kernel)) (by decide +kernel)) dX12_lowest_23 (fun f11 hf11 => ?_)
      have hf11 := sg_nw_now hf11
      have of11 := hf11
      have hf11 : iv 0 1000000000 f11 := sg_day hf11 (iv_c 4 (a := 4) (b := 4) (by decide +kernel))
      refine ca_X12_freeIn_1 X hK hG hC hS hb hp4 a0 h0 f9 f10 f11 (iv_of hf11 (a' := 0) (b' := 2147483647) (by decide +kernel)) wl_8_162 hl.1 (rest := []) rfl (Nat.le_of_ble_eq_true rfl) ⟨Nat.le_of_ble_eq_true rfl, Nat.le_of_ble_eq_true rfl⟩ ⟨Nat.le_of_ble_eq_true rfl, Nat.le_of_ble_eq_true rfl⟩ dX12_lowest_24 (fun f12 H locs hf12 hG hS => ?_)
      refine lv_goto (tgt := 31) X.1 X.2.1 dX12_lowest_27 (by decide) ?_
      exact B3_31 H _ _ f12 hG hS (lv_sub hl [] rfl)

theorem ca_X12_lowest_1   (X : CallFix p m c cc nL s args sg_tbl own) (hK : va_K D vwCl tys s) (hG : sgG (KT P) D vwCl (fun q : Nat => base ≤ q) tys ad ks H) (hC : sgC base s) (hS : va_S (fun q : Nat => base ≤ q) s.heap H locs) (hb : base ≤ s.heap.size) (hp4 : P.2.2.2.2.1 = true) (a0 : Nat) (h0 : isK ad ks 12 a0) (a1 : Nat) (h1 : isK ad ks 54 a1) (hl : Cond.methodLink own index yX12_lowest ∈ sg_tbl) (hsize : ls.size = nL) (hst : st0 = [.ref a1].reverse ++ .ref a0 :: rest) (hW : (rest.map fun v => v.category).sum ≤ 8) (hR : 36 ≤ R.frames ∧ 841 ≤ R.locals) (hf : cells ≤ R.cells ∧ slots ≤ R.slots) (hdg : decode cc pc = .ok (.invokevirtual index, 3)) (kk : ∀ (r : Int32) (H1 : Heap) (locs1 : List Loc), (fun r : Int32 => True) r → sgG (KT P) D vwCl (fun q : Nat => base ≤ q) tys ad ks H1 → va_S (fun q : Nat => base ≤ q) s.heap H1 locs1 → W p l e R s m args below meth c H1 locs1 cells slots Q (F0 m (pc + 3) ls (.int r :: rest))) : W p l e R s m args below meth c H locs cells slots Q (F0 m pc ls st0) :=
  sg_callVi X hK hG hC hS hb (m_X12_lowest_1 l hp4 a0 h0 a1 h1) h0 (k := 12) (ci := 12) rfl (C := RX12) (T := TX12) (N := 53) rfl wl_8_213 wl_1_13 wl_8_212 wl_0_93 (n := 1) (by decide +kernel) rfl rfl rfl hl hsize hst hW hR hf hdg kk

set_option maxHeartbeats 8000000 in
set_option maxRecDepth 100000 in
theorem m_X12_cellOf_1 (l : Launch) {D : va_G} {base : Nat} {tys : List (ClassId × FieldType)} {ad ks : List Nat} {P : sgPm} (hp4 : P.2.2.2.2.1 = true) (a0 : Nat) (h0 : isK ad ks 12 a0) (a1 : Nat) (h1 : isK ad ks 54 a1) (x2 : Int32) (h2 : iv 0 316 x2) : sgMi l (KT P) D vwCl base tys ad ks yX12_cellOf cX12_cellOf 3 (some .int) ({ frames := 36, cells := 0, slots := 0, locals := 841 }) [.ref a0, .ref a1, .int x2] (fun r : Int32 => True) := by
  refine sg_ofW (by decide +kernel) (Nat.le_of_ble_eq_true rfl) (fun p e s m below meth c X hr hlk hb hK hC hG ls hl => ?_)
  have hS : va_S (fun q : Nat => base ≤ q) s.heap s.heap [] := va_S.rf
  have hl : lv_has ls 3 [(0, .ref a0), (1, .ref a1), (2, .int x2)] := hl
  refine lv_aload_n X.1 X.2.1 dX12_cellOf_0 rfl (lv_at hl 0 rfl) ?_
  refine gf_X12_21 X hK hG h0 wl_6_199 dX12_cellOf_1 (fun q1 hq1 kq1 => ?_)
  refine lv_iload_n X.1 X.2.1 dX12_cellOf_4 rfl (lv_at hl 2 rfl) ?_
  refine al_52 X hK hG hq1 (iv_vpin h2 (by decide +kernel)) dX12_cellOf_5 (fun f2 hf2 => ?_)
  have of2 := hf2
  have hf2 : iv (-2147483648) 2147483647 f2 := iv_top f2
  have B4_29 : ∀ (locs : List Loc) (ls : Array Slot), va_S (fun q : Nat => base ≤ q) s.heap s.heap locs → lv_has ls 3 [(0, .ref a0), (2, .int x2)] → W p l e (headSpec (Cond.code yX12_cellOf cX12_cellOf 3 (some .int) :: sg_tbl) ({ frames := 36, cells := 0, slots := 0, locals := 841 })).room s m #[.ref a0, .ref a1, .int x2] below meth c s.heap locs 0 0 (MQ below (va_Qi (fun r (_ : Unit) => (fun r : Int32 => True) r) (fun _ => sgB (KT P) D vwCl base tys ad ks) (fun q : Nat => base ≤ q)) #[.ref a0, .ref a1, .int x2] s 0 0 (fun q : Nat => base ≤ q)) (F0 m 29 ls []) := by
    intro locs ls hS hl
    refine lv_aload_n X.1 X.2.1 dX12_cellOf_29 rfl (lv_at hl 0 rfl) ?_
    refine gg_X12_21 X hK hG h0 wl_6_199 kq1 dX12_cellOf_30 ?_
    refine lv_iload_n X.1 X.2.1 dX12_cellOf_33 rfl (lv_at hl 1 rfl) ?_
    refine lv_iconst (v := 1) X.1 X.2.1 dX12_cellOf_34 (by decide +kernel) ?_
    refine lv_iadd X.1 X.2.1 dX12_cellOf_35 ?_
    refine lv_topi (fun f5 ef5 => ?_)
    refine al_52 X hK hG hq1 (iv_vpin (iv_add (a' := 1) (b' := 317) ef5 h2 (iv_c 1 (a := 1) (b := 1) (by decide +kernel)) (by decide +kernel)) (by decide +kernel)) dX12_cellOf_36 (fun f6 hf6 => ?_)
    have of6 := hf6
    have hf6 : iv (-2147483648) 2147483647 f6 := iv_top f6
    exact sg_iret X hr hlk hb hK hC hG hS trivial dX12_cellOf_37
  refine lv_if_ne (tgt := 29) X.1 X.2.1 dX12_cellOf_6 (by decide) (fun c3 => ?_) (fun c3 => ?_)
  · exact B4_29 _ _ hS (lv_sub hl [0, 2] rfl)
  · refine lv_aload_n X.1 X.2.1 dX12_cellOf_9 rfl (lv_at hl 0 rfl) ?_
    refine gg_X12_21 X hK hG h0 wl_6_199 kq1 dX12_cellOf_10 ?_
    refine lv_iload_n X.1 X.2.1 dX12_cellOf_13 rfl (lv_at hl 2 rfl) ?_
    refine lv_iconst (v := 1) X.1 X.2.1 dX12_cellOf_14 (by decide +kernel) ?_
    refine lv_iadd X.1 X.2.1 dX12_cellOf_15 ?_
    refine lv_topi (fun f7 ef7 => ?_)
    refine al_52 X hK hG hq1 (iv_vpin (iv_add (a' := 1) (b' := 317) ef7 h2 (iv_c 1 (a := 1) (b := 1) (by decide +kernel)) (by decide +kernel)) (by decide +kernel)) dX12_cellOf_16 (fun f8 hf8 => ?_)
    have of8 := hf8
    have hf8 : iv (-2147483648) 2147483647 f8 := iv_top f8
    refine lv_iconst (v := (-1)) X.1 X.2.1 dX12_cellOf_17 (by decide +kernel) ?_
    refine lv_icmp_ne (tgt := 29) X.1 X.2.1 dX12_cellOf_18 (by decide) (fun c9 => ?_) (fun c9 => ?_)
    · exact B4_29 _ _ hS (lv_sub hl [0, 2] rfl)
    · refine lv_aload_n X.1 X.2.1 dX12_cellOf_21 rfl (lv_at hl 0 rfl) ?_
      refine lv_aload_n X.1 X.2.1 dX12_cellOf_22 rfl (lv_at hl 1 rfl) ?_
      refine ca_X12_lowest_1 X hK hG hC hS hb hp4 a0 h0 a1 h1 wl_8_210 hl.1 (rest := []) rfl (Nat.le_of_ble_eq_true rfl) ⟨Nat.le_of_ble_eq_true rfl, Nat.le_of_ble_eq_true rfl⟩ ⟨Nat.le_of_ble_eq_true rfl, Nat.le_of_ble_eq_true rfl⟩ dX12_cellOf_23 (fun f10 H locs hf10 hG hS => ?_)
      refine lv_goto (tgt := 37) X.1 X.2.1 dX12_cellOf_26 (by decide) ?_
      exact sg_iret X hr hlk hb hK hC hG hS trivial dX12_cellOf_37

theorem ca_X12_cellOf_1   (X : CallFix p m c cc nL s args sg_tbl own) (hK : va_K D vwCl tys s) (hG : sgG (KT P) D vwCl (fun q : Nat => base ≤ q) tys ad ks H) (hC : sgC base s) (hS : va_S (fun q : Nat => base ≤ q) s.heap H locs) (hb : base ≤ s.heap.size) (hp4 : P.2.2.2.2.1 = true) (a0 : Nat) (h0 : isK ad ks 12 a0) (a1 : Nat) (h1 : isK ad ks 54 a1) (x2 : Int32) (h2 : iv 0 316 x2) (hl : Cond.methodLink own index yX12_cellOf ∈ sg_tbl) (hsize : ls.size = nL) (hst : st0 = [.ref a1, .int x2].reverse ++ .ref a0 :: rest) (hW : (rest.map fun v => v.category).sum ≤ 8) (hR : 37 ≤ R.frames ∧ 863 ≤ R.locals) (hf : cells ≤ R.cells ∧ slots ≤ R.slots) (hdg : decode cc pc = .ok (.invokevirtual index, 3)) (kk : ∀ (r : Int32) (H1 : Heap) (locs1 : List Loc), (fun r : Int32 => True) r → sgG (KT P) D vwCl (fun q : Nat => base ≤ q) tys ad ks H1 → va_S (fun q : Nat => base ≤ q) s.heap H1 locs1 → W p l e R s m args below meth c H1 locs1 cells slots Q (F0 m (pc + 3) ls (.int r :: rest))) : W p l e R s m args below meth c H locs cells slots Q (F0 m pc ls st0) :=
  sg_callVi X hK hG hC hS hb (m_X12_cellOf_1 l hp4 a0 h0 a1 h1 x2 h2) h0 (k := 12) (ci := 12) rfl (C := RX12) (T := TX12) (N := 53) rfl wl_8_209 wl_1_13 wl_8_208 wl_0_92 (n := 2) (by decide +kernel) rfl rfl rfl hl hsize hst hW hR hf hdg kk

set_option maxHeartbeats 8000000 in
set_option maxRecDepth 100000 in
theorem m_X12_canMove_1 (l : Launch) {D : va_G} {base : Nat} {tys : List (ClassId × FieldType)} {ad ks : List Nat} {P : sgPm} (hp4 : P.2.2.2.2.1 = true) (a0 : Nat) (h0 : isK ad ks 12 a0) (a1 : Nat) (h1 : isK ad ks 54 a1) (x2 : Int32) (h2 : iv 0 316 x2) (x3 : Int32) : sgMi l (KT P) D vwCl base tys ad ks yX12_canMove cX12_canMove 4 (some .boolean) ({ frames := 35, cells := 0, slots := 0, locals := 816 }) [.ref a0, .ref a1, .int x2, .int x3] (fun r : Int32 => iv 0 1 r) := by
  refine sg_ofW (by decide +kernel) (Nat.le_of_ble_eq_true rfl) (fun p e s m below meth c X hr hlk hb hK hC hG ls hl => ?_)
  have hS : va_S (fun q : Nat => base ≤ q) s.heap s.heap [] := va_S.rf
  have hl : lv_has ls 4 [(0, .ref a0), (1, .ref a1), (2, .int x2), (3, .int x3)] := hl
  refine lv_aload_n X.1 X.2.1 dX12_canMove_0 rfl (lv_at hl 0 rfl) ?_
  refine gf_X12_21 X hK hG h0 wl_6_199 dX12_canMove_1 (fun q1 hq1 kq1 => ?_)
  refine lv_iload_n X.1 X.2.1 dX12_canMove_4 rfl (lv_at hl 2 rfl) ?_
  refine al_52 X hK hG hq1 (iv_vpin h2 (by decide +kernel)) dX12_canMove_5 (fun f2 hf2 => ?_)
  have of2 := hf2
  have hf2 : iv (-2147483648) 2147483647 f2 := iv_top f2
  by_cases c3 : f2 = 0
  · refine lv_tableIn (tgt := 32) (off := 26) X.1 X.2.1 dX12_canMove_6 (by rw [c3]; decide +kernel) (by rw [c3]; decide +kernel) (by rw [c3]; rfl) (by decide) ?_
    refine lv_aload_n X.1 X.2.1 dX12_canMove_32 rfl (lv_at hl 0 rfl) ?_
    refine lv_aload_n X.1 X.2.1 dX12_canMove_33 rfl (lv_at hl 1 rfl) ?_
    refine lv_iload_n X.1 X.2.1 dX12_canMove_34 rfl (lv_at hl 3 rfl) ?_
    refine ca_X12_canGrow_1 X hK hG hC hS hb hp4 a0 h0 a1 h1 x3 wl_8_90 hl.1 (rest := []) rfl (Nat.le_of_ble_eq_true rfl) ⟨Nat.le_of_ble_eq_true rfl, Nat.le_of_ble_eq_true rfl⟩ ⟨Nat.le_of_ble_eq_true rfl, Nat.le_of_ble_eq_true rfl⟩ dX12_canMove_35 (fun f4 H locs hf4 hG hS => ?_)
    exact sg_zret X hr (sg_zn hf4) hlk hb hK hC hG hS hf4 dX12_canMove_38
  by_cases c5 : f2 = 1
  · refine lv_tableIn (tgt := 39) (off := 33) X.1 X.2.1 dX12_canMove_6 (by rw [c5]; decide +kernel) (by rw [c5]; decide +kernel) (by rw [c5]; rfl) (by decide) ?_
    refine lv_aload_n X.1 X.2.1 dX12_canMove_39 rfl (lv_at hl 0 rfl) ?_
    refine lv_aload_n X.1 X.2.1 dX12_canMove_40 rfl (lv_at hl 1 rfl) ?_
    refine lv_iload_n X.1 X.2.1 dX12_canMove_41 rfl (lv_at hl 3 rfl) ?_
    refine lv_aload_n X.1 X.2.1 dX12_canMove_42 rfl (lv_at hl 0 rfl) ?_
    refine gg_X12_21 X hK hG h0 wl_6_199 kq1 dX12_canMove_43 ?_
    refine lv_iload_n X.1 X.2.1 dX12_canMove_46 rfl (lv_at hl 2 rfl) ?_
    refine lv_iconst (v := 2) X.1 X.2.1 dX12_canMove_47 (by decide +kernel) ?_
    refine lv_iadd X.1 X.2.1 dX12_canMove_48 ?_
    refine lv_topi (fun f6 ef6 => ?_)
    refine al_52 X hK hG hq1 (iv_vpin (iv_add (a' := 2) (b' := 318) ef6 h2 (iv_c 2 (a := 2) (b := 2) (by decide +kernel)) (by decide +kernel)) (by decide +kernel)) dX12_canMove_49 (fun f7 hf7 => ?_)
    have of7 := hf7
    have hf7 : iv (-2147483648) 2147483647 f7 := iv_top f7
    refine lv_aload_n X.1 X.2.1 dX12_canMove_50 rfl (lv_at hl 0 rfl) ?_
    refine gg_X12_21 X hK hG h0 wl_6_199 kq1 dX12_canMove_51 ?_
    refine lv_iload_n X.1 X.2.1 dX12_canMove_54 rfl (lv_at hl 2 rfl) ?_
    refine lv_iconst (v := 3) X.1 X.2.1 dX12_canMove_55 (by decide +kernel) ?_
    refine lv_iadd X.1 X.2.1 dX12_canMove_56 ?_
    refine lv_topi (fun f8 ef8 => ?_)
    refine al_52 X hK hG hq1 (iv_vpin (iv_add (a' := 3) (b' := 319) ef8 h2 (iv_c 3 (a := 3) (b := 3) (by decide +kernel)) (by decide +kernel)) (by decide +kernel)) dX12_canMove_57 (fun f9 hf9 => ?_)
    have of9 := hf9
    have hf9 : iv (-2147483648) 2147483647 f9 := iv_top f9
    refine ca_X12_canCut_1 X hK hG hC (fun _ h => h) hS hb hp4 a0 h0 a1 h1 x3 f7 f9 wl_8_117 hl.1 (rest := []) rfl (Nat.le_of_ble_eq_true rfl) ⟨Nat.le_of_ble_eq_true rfl, Nat.le_of_ble_eq_true rfl⟩ ⟨Nat.le_of_ble_eq_true rfl, Nat.le_of_ble_eq_true rfl⟩ dX12_canMove_58 (fun f10 locs hf10 hS => ?_)
    exact sg_zret X hr (sg_zn hf10) hlk hb hK hC hG hS hf10 dX12_canMove_61
  by_cases c11 : f2 = 2
  · refine lv_tableIn (tgt := 62) (off := 56) X.1 X.2.1 dX12_canMove_6 (by rw [c11]; decide +kernel) (by rw [c11]; decide +kernel) (by rw [c11]; rfl) (by decide) ?_
    refine lv_aload_n X.1 X.2.1 dX12_canMove_62 rfl (lv_at hl 0 rfl) ?_
    refine lv_aload_n X.1 X.2.1 dX12_canMove_63 rfl (lv_at hl 1 rfl) ?_
    refine lv_iload_n X.1 X.2.1 dX12_canMove_64 rfl (lv_at hl 3 rfl) ?_
    refine ca_X12_canDig_1 X hK hG hC (fun _ h => h) hS hb hp4 a0 h0 a1 h1 x3 wl_8_140 hl.1 (rest := []) rfl (Nat.le_of_ble_eq_true rfl) ⟨Nat.le_of_ble_eq_true rfl, Nat.le_of_ble_eq_true rfl⟩ ⟨Nat.le_of_ble_eq_true rfl, Nat.le_of_ble_eq_true rfl⟩ dX12_canMove_65 (fun f12 locs hf12 hS => ?_)
    exact sg_zret X hr (sg_zn hf12) hlk hb hK hC hG hS hf12 dX12_canMove_68
  refine lv_tableOut (tgt := 69) X.1 X.2.1 dX12_canMove_6 (by have tc3 := iv_nt 0 c3 (by decide +kernel); have tc5 := iv_nt 1 c5 (by decide +kernel); have tc11 := iv_nt 2 c11 (by decide +kernel); have b1 := ((iv_top f2)).1; have b2 := ((iv_top f2)).2; omega) (by decide) ?_
  refine lv_aload_n X.1 X.2.1 dX12_canMove_69 rfl (lv_at hl 0 rfl) ?_
  refine lv_aload_n X.1 X.2.1 dX12_canMove_70 rfl (lv_at hl 1 rfl) ?_
  refine ca_X12_isOpen_1 X hK hG hC (fun _ h => h) hS hb hp4 a0 h0 a1 h1 wl_8_94 hl.1 (rest := []) rfl (Nat.le_of_ble_eq_true rfl) ⟨Nat.le_of_ble_eq_true rfl, Nat.le_of_ble_eq_true rfl⟩ ⟨Nat.le_of_ble_eq_true rfl, Nat.le_of_ble_eq_true rfl⟩ dX12_canMove_71 (fun f13 locs hf13 hS => ?_)
  exact sg_zret X hr (sg_zn hf13) hlk hb hK hC hG hS hf13 dX12_canMove_74

theorem ca_X12_canMove_1   (X : CallFix p m c cc nL s args sg_tbl own) (hK : va_K D vwCl tys s) (hG : sgG (KT P) D vwCl (fun q : Nat => base ≤ q) tys ad ks H) (hC : sgC base s) (hS : va_S (fun q : Nat => base ≤ q) s.heap H locs) (hb : base ≤ s.heap.size) (hp4 : P.2.2.2.2.1 = true) (a0 : Nat) (h0 : isK ad ks 12 a0) (a1 : Nat) (h1 : isK ad ks 54 a1) (x2 : Int32) (h2 : iv 0 316 x2) (x3 : Int32) (hl : Cond.methodLink own index yX12_canMove ∈ sg_tbl) (hsize : ls.size = nL) (hst : st0 = [.ref a1, .int x2, .int x3].reverse ++ .ref a0 :: rest) (hW : (rest.map fun v => v.category).sum ≤ 8) (hR : 36 ≤ R.frames ∧ 839 ≤ R.locals) (hf : cells ≤ R.cells ∧ slots ≤ R.slots) (hdg : decode cc pc = .ok (.invokevirtual index, 3)) (kk : ∀ (r : Int32) (H1 : Heap) (locs1 : List Loc), (fun r : Int32 => iv 0 1 r) r → sgG (KT P) D vwCl (fun q : Nat => base ≤ q) tys ad ks H1 → va_S (fun q : Nat => base ≤ q) s.heap H1 locs1 → W p l e R s m args below meth c H1 locs1 cells slots Q (F0 m (pc + 3) ls (.int r :: rest))) : W p l e R s m args below meth c H locs cells slots Q (F0 m pc ls st0) :=
  sg_callVi X hK hG hC hS hb (m_X12_canMove_1 l hp4 a0 h0 a1 h1 x2 h2 x3) h0 (k := 12) (ci := 12) rfl (C := RX12) (T := TX12) (N := 53) rfl wl_8_218 wl_1_13 wl_8_217 wl_0_94 (n := 3) (by decide +kernel) rfl rfl rfl hl hsize hst hW hR hf hdg kk

set_option maxHeartbeats 8000000 in
set_option maxRecDepth 100000 in
theorem m_X12_moves_1 (l : Launch) {D : va_G} {base : Nat} {tys : List (ClassId × FieldType)} {ad ks : List Nat} {P : sgPm} (hp4 : P.2.2.2.2.1 = true) (hp10 : sgPin P = none) (a0 : Nat) (h0 : isK ad ks 12 a0) (a1 : Nat) (h1 : isK ad ks 54 a1) (x2 : Int32) (h2 : iv 0 316 x2) (x3 : Int32) (hN : sgN P + 1 ≤ 1000000000) : Met l yX12_moves (Cond.code yX12_moves cX12_moves 5 none :: sg_tbl) ({ frames := 36, cells := 0, slots := 0, locals := 842 }) (va_Pc [.ref a0, .ref a1, .int x2, .int x3] (sgB (KT P) D vwCl base tys ad ks)) (va_Qv (fun (_ : Unit) => True) (fun _ => sgB (KT (sgAt P (sgN P + 1))) D vwCl base tys ad ks) (fun q : Nat => base ≤ q)) 0 0 (fun q : Nat => base ≤ q) := by
  refine sg_ofW (by decide +kernel) (Nat.le_of_ble_eq_true rfl) (fun p e s m below meth c X hr hlk hb hK hC hG ls hl => ?_)
  have hS : va_S (fun q : Nat => base ≤ q) s.heap s.heap [] := va_S.rf
  have hl : lv_has ls 5 [(0, .ref a0), (1, .ref a1), (2, .int x2), (3, .int x3)] := hl
  refine lv_aload_n X.1 X.2.1 dX12_moves_0 rfl (lv_at hl 0 rfl) ?_
  refine gf_X12_21 X hK hG h0 wl_6_199 dX12_moves_1 (fun q1 hq1 kq1 => ?_)
  refine lv_iload_n X.1 X.2.1 dX12_moves_4 rfl (lv_at hl 2 rfl) ?_
  refine al_52 X hK hG hq1 (iv_vpin h2 (by decide +kernel)) dX12_moves_5 (fun f2 hf2 => ?_)
  have of2 := hf2
  have hf2 : iv (-2147483648) 2147483647 f2 := iv_top f2
  by_cases c3 : f2 = 0
  · refine lv_tableIn (tgt := 32) (off := 26) X.1 X.2.1 dX12_moves_6 (by rw [c3]; decide +kernel) (by rw [c3]; decide +kernel) (by rw [c3]; rfl) (by decide) ?_
    refine lv_aload_n X.1 X.2.1 dX12_moves_32 rfl (lv_at hl 0 rfl) ?_
    refine lv_aload_n X.1 X.2.1 dX12_moves_33 rfl (lv_at hl 1 rfl) ?_
    refine lv_iload_n X.1 X.2.1 dX12_moves_34 rfl (lv_at hl 3 rfl) ?_
    refine ca_X12_grows_1 X hK hG hC hS hb hp4 hp10 a0 h0 a1 h1 x3 wl_8_102 hl.1 (rest := []) rfl (Nat.le_of_ble_eq_true rfl) ⟨Nat.le_of_ble_eq_true rfl, Nat.le_of_ble_eq_true rfl⟩ ⟨Nat.le_of_ble_eq_true rfl, Nat.le_of_ble_eq_true rfl⟩ dX12_moves_35 (fun H locs hG hS => ?_)
    refine lv_goto (tgt := 80) X.1 X.2.1 dX12_moves_38 (by decide) ?_
    have bq5 : 0 ≤ x2.toInt ∧ x2.toInt ≤ 316 := h2
    have hG : sgG (KT (sgAt P (sgN P + 1))) D vwCl _ tys ad ks _ := sg_moreN (P := P) (show (sgN P) ≤ (sgN P + 1) from by omega) hG
    exact sg_vret2 X hr hlk hS (fun t ht hW => sg_post hb hK hC hG hS ht hW) dX12_moves_80
  by_cases c6 : f2 = 1
  · refine lv_tableIn (tgt := 41) (off := 35) X.1 X.2.1 dX12_moves_6 (by rw [c6]; decide +kernel) (by rw [c6]; decide +kernel) (by rw [c6]; rfl) (by decide) ?_
    refine lv_aload_n X.1 X.2.1 dX12_moves_41 rfl (lv_at hl 0 rfl) ?_
    refine lv_aload_n X.1 X.2.1 dX12_moves_42 rfl (lv_at hl 1 rfl) ?_
    refine lv_iload_n X.1 X.2.1 dX12_moves_43 rfl (lv_at hl 3 rfl) ?_
    refine lv_aload_n X.1 X.2.1 dX12_moves_44 rfl (lv_at hl 0 rfl) ?_
    refine gg_X12_21 X hK hG h0 wl_6_199 kq1 dX12_moves_45 ?_
    refine lv_iload_n X.1 X.2.1 dX12_moves_48 rfl (lv_at hl 2 rfl) ?_
    refine lv_iconst (v := 2) X.1 X.2.1 dX12_moves_49 (by decide +kernel) ?_
    refine lv_iadd X.1 X.2.1 dX12_moves_50 ?_
    refine lv_topi (fun f7 ef7 => ?_)
    refine al_52 X hK hG hq1 (iv_vpin (iv_add (a' := 2) (b' := 318) ef7 h2 (iv_c 2 (a := 2) (b := 2) (by decide +kernel)) (by decide +kernel)) (by decide +kernel)) dX12_moves_51 (fun f8 hf8 => ?_)
    have of8 := hf8
    have hf8 : iv (-2147483648) 2147483647 f8 := iv_top f8
    refine lv_aload_n X.1 X.2.1 dX12_moves_52 rfl (lv_at hl 0 rfl) ?_
    refine gg_X12_21 X hK hG h0 wl_6_199 kq1 dX12_moves_53 ?_
    refine lv_iload_n X.1 X.2.1 dX12_moves_56 rfl (lv_at hl 2 rfl) ?_
    refine lv_iconst (v := 3) X.1 X.2.1 dX12_moves_57 (by decide +kernel) ?_
    refine lv_iadd X.1 X.2.1 dX12_moves_58 ?_
    refine lv_topi (fun f9 ef9 => ?_)
    refine al_52 X hK hG hq1 (iv_vpin (iv_add (a' := 3) (b' := 319) ef9 h2 (iv_c 3 (a := 3) (b := 3) (by decide +kernel)) (by decide +kernel)) (by decide +kernel)) dX12_moves_59 (fun f10 hf10 => ?_)
    have of10 := hf10
    have hf10 : iv (-2147483648) 2147483647 f10 := iv_top f10
    refine ca_X12_mows_1 X hK hG hC hS hb hp4 hp10 a0 h0 a1 h1 x3 f8 f10 (show sgN P + 1 ≤ 1000000000 from by omega) wl_8_125 hl.1 (rest := []) rfl (Nat.le_of_ble_eq_true rfl) ⟨Nat.le_of_ble_eq_true rfl, Nat.le_of_ble_eq_true rfl⟩ ⟨Nat.le_of_ble_eq_true rfl, Nat.le_of_ble_eq_true rfl⟩ dX12_moves_60 (fun tg11 H locs htg11 hWg11 hS => ?_)
    have hG : sgG (KT (sgAt P (sgN P + 1))) D vwCl _ tys ad ks _ := hWg11.2.2.2
    rw [htg11] at hG
    refine lv_goto (tgt := 80) X.1 X.2.1 dX12_moves_63 (by decide) ?_
    have bq12 : 0 ≤ x2.toInt ∧ x2.toInt ≤ 316 := h2
    have hG : sgG (KT (sgAt P (sgN P + 1))) D vwCl _ tys ad ks _ := sg_moreN (P := (sgAt P (sgN P + 1))) (show (sgN P + 1) ≤ (sgN P + 1) from by omega) hG
    exact sg_vret2 X hr hlk hS (fun t ht hW => sg_post hb hK hC hG hS ht hW) dX12_moves_80
  by_cases c13 : f2 = 2
  · refine lv_tableIn (tgt := 66) (off := 60) X.1 X.2.1 dX12_moves_6 (by rw [c13]; decide +kernel) (by rw [c13]; decide +kernel) (by rw [c13]; rfl) (by decide) ?_
    refine lv_aload_n X.1 X.2.1 dX12_moves_66 rfl (lv_at hl 1 rfl) ?_
    refine lv_iload_n X.1 X.2.1 dX12_moves_67 rfl (lv_at hl 3 rfl) ?_
    refine ca_X12_digs_1 X hK hG hC hS hb hp10 a1 h1 x3 wl_8_144 hl.1 (rest := []) rfl (Nat.le_of_ble_eq_true rfl) ⟨Nat.le_of_ble_eq_true rfl, Nat.le_of_ble_eq_true rfl⟩ ⟨Nat.le_of_ble_eq_true rfl, Nat.le_of_ble_eq_true rfl⟩ dX12_moves_68 (fun H locs hG hS => ?_)
    refine lv_goto (tgt := 80) X.1 X.2.1 dX12_moves_71 (by decide) ?_
    have bq15 : 0 ≤ x2.toInt ∧ x2.toInt ≤ 316 := h2
    have hG : sgG (KT (sgAt P (sgN P + 1))) D vwCl _ tys ad ks _ := sg_moreN (P := P) (show (sgN P) ≤ (sgN P + 1) from by omega) hG
    exact sg_vret2 X hr hlk hS (fun t ht hW => sg_post hb hK hC hG hS ht hW) dX12_moves_80
  refine lv_tableOut (tgt := 74) X.1 X.2.1 dX12_moves_6 (by have tc3 := iv_nt 0 c3 (by decide +kernel); have tc6 := iv_nt 1 c6 (by decide +kernel); have tc13 := iv_nt 2 c13 (by decide +kernel); have b1 := ((iv_top f2)).1; have b2 := ((iv_top f2)).2; omega) (by decide) ?_
  refine lv_aload_n X.1 X.2.1 dX12_moves_74 rfl (lv_at hl 1 rfl) ?_
  refine ca_X12_sits_1 X hK hG hC hS hb a1 h1 (show sgN P + 1 ≤ 1000000000 from by omega) wl_8_133 hl.1 (rest := []) rfl (Nat.le_of_ble_eq_true rfl) ⟨Nat.le_of_ble_eq_true rfl, Nat.le_of_ble_eq_true rfl⟩ ⟨Nat.le_of_ble_eq_true rfl, Nat.le_of_ble_eq_true rfl⟩ dX12_moves_75 (fun f16 tf16 H locs htf16 hf16 hWf16 hS => ?_)
  have hG : sgG (KT (sgAt P (sgN P + 1))) D vwCl _ tys ad ks _ := hWf16.2.2.2
  rw [htf16] at hG
  refine lv_istore (lv' := [(4, .int f16), (0, .ref a0), (1, .ref a1), (2, .int x2), (3, .int x3)]) X.1 X.2.1 dX12_moves_78 hl (by decide) rfl (fun ls hl => ?_)
  have bq17 : 0 ≤ x2.toInt ∧ x2.toInt ≤ 316 := h2
  have hG : sgG (KT (sgAt P (sgN P + 1))) D vwCl _ tys ad ks _ := sg_moreN (P := (sgAt P (sgN P + 1))) (show (sgN P + 1) ≤ (sgN P + 1) from by omega) hG
  exact sg_vret2 X hr hlk hS (fun t ht hW => sg_post hb hK hC hG hS ht hW) dX12_moves_80

theorem ca_X12_moves_1   (X : CallFix p m c cc nL s args sg_tbl own) (hK : va_K D vwCl tys s) (hG : sgG (KT P) D vwCl (fun q : Nat => base ≤ q) tys ad ks H) (hC : sgC base s) (hS : va_S (fun q : Nat => base ≤ q) s.heap H locs) (hb : base ≤ s.heap.size) (hp4 : P.2.2.2.2.1 = true) (hp10 : sgPin P = none) (a0 : Nat) (h0 : isK ad ks 12 a0) (a1 : Nat) (h1 : isK ad ks 54 a1) (x2 : Int32) (h2 : iv 0 316 x2) (x3 : Int32) (hN : sgN P + 1 ≤ 1000000000) (hl : Cond.methodLink own index yX12_moves ∈ sg_tbl) (hsize : ls.size = nL) (hst : st0 = [.ref a1, .int x2, .int x3].reverse ++ .ref a0 :: rest) (hW : (rest.map fun v => v.category).sum ≤ 8) (hR : 37 ≤ R.frames ∧ 866 ≤ R.locals) (hf : cells ≤ R.cells ∧ slots ≤ R.slots) (hdg : decode cc pc = .ok (.invokevirtual index, 3)) (kk : ∀ (t : State) (H1 : Heap) (locs1 : List Loc), t.heap = H1 → (sgB (KT (sgAt P (sgN P + 1))) D vwCl base tys ad ks t) → va_S (fun q : Nat => base ≤ q) s.heap H1 locs1 → W p l e R s m args below meth c H1 locs1 cells slots Q (F0 m (pc + 3) ls rest)) : W p l e R s m args below meth c H locs cells slots Q (F0 m pc ls st0) :=
  sg_callV2v X hK hG hC hS hb (m_X12_moves_1 l hp4 hp10 a0 h0 a1 h1 x2 h2 x3 hN) h0 (k := 12) (ci := 12) rfl (C := RX12) (T := TX12) (N := 53) rfl wl_8_222 wl_1_13 wl_8_221 wl_0_95 (n := 3) (by decide +kernel) rfl rfl rfl hl hsize hst hW hR hf hdg kk

set_option maxHeartbeats 8000000 in
set_option maxRecDepth 100000 in
theorem m_X12_lowest_1_t (l : Launch) {D : va_G} {base : Nat} {tys : List (ClassId × FieldType)} {ad ks : List Nat} {P : sgPm} (hp4 : P.2.2.2.2.1 = true) (a0 : Nat) (h0 : isK ad ks 12 a0) (a1 : Nat) (h1 : isK ad ks 55 a1) : sgMi l (KT P) D vwCl base tys ad ks yX12_lowest cX12_lowest 3 (some .int) ({ frames := 35, cells := 0, slots := 0, locals := 819 }) [.ref a0, .ref a1] (fun r : Int32 => True) := by
  refine sg_ofW (by decide +kernel) (Nat.le_of_ble_eq_true rfl) (fun p e s m below meth c X hr hlk hb hK hC hG ls hl => ?_)
  have hS : va_S (fun q : Nat => base ≤ q) s.heap s.heap [] := va_S.rf
  have hl : lv_has ls 3 [(0, .ref a0), (1, .ref a1)] := hl
  refine lv_aload_n X.1 X.2.1 dX12_lowest_0 rfl (lv_at hl 0 rfl) ?_
  refine lv_aload_n X.1 X.2.1 dX12_lowest_1 rfl (lv_at hl 1 rfl) ?_
  refine ca_X12_isOpen_1_t X hK hG hC (fun _ h => h) hS hb hp4 a0 h0 a1 h1 wl_8_94 hl.1 (rest := []) rfl (Nat.le_of_ble_eq_true rfl) ⟨Nat.le_of_ble_eq_true rfl, Nat.le_of_ble_eq_true rfl⟩ ⟨Nat.le_of_ble_eq_true rfl, Nat.le_of_ble_eq_true rfl⟩ dX12_lowest_2 (fun f1 locs hf1 hS => ?_)
  have B3_31 : ∀ (H : Heap) (locs : List Loc) (ls : Array Slot) (w3_0 : Int32), sgG (KT P) D vwCl (fun q : Nat => base ≤ q) tys ad ks H → va_S (fun q : Nat => base ≤ q) s.heap H locs → lv_has ls 3 [] → W p l e (headSpec (Cond.code yX12_lowest cX12_lowest 3 (some .int) :: sg_tbl) ({ frames := 35, cells := 0, slots := 0, locals := 819 })).room s m #[.ref a0, .ref a1] below meth c H locs 0 0 (MQ below (va_Qi (fun r (_ : Unit) => (fun r : Int32 => True) r) (fun _ => sgB (KT P) D vwCl base tys ad ks) (fun q : Nat => base ≤ q)) #[.ref a0, .ref a1] s 0 0 (fun q : Nat => base ≤ q)) (F0 m 31 ls [.int w3_0]) := by
    intro H locs ls w3_0 hG hS hl
    refine lv_istore_n (lv' := [(2, .int w3_0)]) X.1 X.2.1 dX12_lowest_31 rfl hl (by decide) rfl (fun ls hl => ?_)
    refine lv_iload_n X.1 X.2.1 dX12_lowest_32 rfl (lv_at hl 0 rfl) ?_
    refine lv_if_ne (tgt := 40) X.1 X.2.1 dX12_lowest_33 (by decide) (fun c4 => ?_) (fun c4 => ?_)
    · refine lv_iload_n X.1 X.2.1 dX12_lowest_40 rfl (lv_at hl 0 rfl) ?_
      refine ca_J6_numberOfTrailingZeros_0f7a4 X hK hG hC (fun _ h => h) hS hb w3_0 wl_8_214 hl.1 (rest := []) rfl (Nat.le_of_ble_eq_true rfl) ⟨Nat.le_of_ble_eq_true rfl, Nat.le_of_ble_eq_true rfl⟩ ⟨Nat.le_of_ble_eq_true rfl, Nat.le_of_ble_eq_true rfl⟩ dX12_lowest_41 (fun f5 locs hf5 hS => ?_)
      exact sg_iret X hr hlk hb hK hC hG hS trivial dX12_lowest_44
    · refine lv_iconst (v := (-1)) X.1 X.2.1 dX12_lowest_36 (by decide +kernel) ?_
      refine lv_goto (tgt := 44) X.1 X.2.1 dX12_lowest_37 (by decide) ?_
      exact sg_iret X hr hlk hb hK hC hG hS trivial dX12_lowest_44
  have B6_30 : ∀ (locs : List Loc) (ls : Array Slot), va_S (fun q : Nat => base ≤ q) s.heap s.heap locs → lv_has ls 3 [] → W p l e (headSpec (Cond.code yX12_lowest cX12_lowest 3 (some .int) :: sg_tbl) ({ frames := 35, cells := 0, slots := 0, locals := 819 })).room s m #[.ref a0, .ref a1] below meth c s.heap locs 0 0 (MQ below (va_Qi (fun r (_ : Unit) => (fun r : Int32 => True) r) (fun _ => sgB (KT P) D vwCl base tys ad ks) (fun q : Nat => base ≤ q)) #[.ref a0, .ref a1] s 0 0 (fun q : Nat => base ≤ q)) (F0 m 30 ls []) := by
    intro locs ls hS hl
    refine lv_iconst (v := 0) X.1 X.2.1 dX12_lowest_30 (by decide +kernel) ?_
    exact B3_31 s.heap _ _ 0 hG hS (lv_sub hl [] rfl)
  refine lv_if_eq (tgt := 30) X.1 X.2.1 dX12_lowest_5 (by decide) (fun c2 => ?_) (fun c2 => ?_)
  · exact B6_30 _ _ hS (lv_sub hl [] rfl)
  · refine lv_aload_n X.1 X.2.1 dX12_lowest_8 rfl (lv_at hl 1 rfl) ?_
    refine lv_iconst (v := 2) X.1 X.2.1 dX12_lowest_9 (by decide +kernel) ?_
    refine al_55 X hK hG h1 (iv_vpin (iv_c 2 (a := 2) (b := 2) (by decide +kernel)) (by decide +kernel)) dX12_lowest_10 (fun f7 hf7 => ?_)
    have of7 := hf7
    have hf7 : iv 0 1 f7 := sg_sp_now hf7 (iv_c 2 (a := 2) (b := 2) (by decide +kernel)) (by decide +kernel) rfl
    refine lv_if_ne (tgt := 30) X.1 X.2.1 dX12_lowest_11 (by decide) (fun c8 => ?_) (fun c8 => ?_)
    · exact B6_30 _ _ hS (lv_sub hl [] rfl)
    · refine lv_aload_n X.1 X.2.1 dX12_lowest_14 rfl (lv_at hl 0 rfl) ?_
      refine lv_aload_n X.1 X.2.1 dX12_lowest_15 rfl (lv_at hl 1 rfl) ?_
      refine lv_iconst (v := 0) X.1 X.2.1 dX12_lowest_16 (by decide +kernel) ?_
      refine al_55 X hK hG h1 (iv_vpin (iv_c 0 (a := 0) (b := 0) (by decide +kernel)) (by decide +kernel)) dX12_lowest_17 (fun f9 hf9 => ?_)
      have of9 := hf9
      have hf9 : iv (-2147483648) 2147483647 f9 := sg_sp_now hf9 (iv_c 0 (a := 0) (b := 0) (by decide +kernel)) (by decide +kernel) rfl
      refine lv_aload_n X.1 X.2.1 dX12_lowest_18 rfl (lv_at hl 1 rfl) ?_
      refine lv_iconst (v := 1) X.1 X.2.1 dX12_lowest_19 (by decide +kernel) ?_
      refine al_55 X hK hG h1 (iv_vpin (iv_c 1 (a := 1) (b := 1) (by decide +kernel)) (by decide +kernel)) dX12_lowest_20 (fun f10 hf10 => ?_)
      have of10 := hf10
      have hf10 : iv (-2147483648) 2147483647 f10 := sg_sp_now hf10 (iv_c 1 (a := 1) (b := 1) (by decide +kernel)) (by decide +kernel) rfl
      refine lv_aload_n X.1 X.2.1 dX12_lowest_21 rfl (lv_at hl 1 rfl) ?_
      refine lv_iconst (v := 4) X.1 X.2.1 dX12_lowest_22 (by decide +kernel) ?_
      refine al_55 X hK hG h1 (iv_vpin (iv_c 4 (a := 4) (b := 4) (by decide +kernel)) (by decide +kernel)) dX12_lowest_23 (fun f11 hf11 => ?_)
      have of11 := hf11
      have hf11 : iv 0 1000000000 f11 := sg_day hf11 (iv_c 4 (a := 4) (b := 4) (by decide +kernel))
      refine ca_X12_freeIn_1 X hK hG hC hS hb hp4 a0 h0 f9 f10 f11 (iv_of hf11 (a' := 0) (b' := 2147483647) (by decide +kernel)) wl_8_162 hl.1 (rest := []) rfl (Nat.le_of_ble_eq_true rfl) ⟨Nat.le_of_ble_eq_true rfl, Nat.le_of_ble_eq_true rfl⟩ ⟨Nat.le_of_ble_eq_true rfl, Nat.le_of_ble_eq_true rfl⟩ dX12_lowest_24 (fun f12 H locs hf12 hG hS => ?_)
      refine lv_goto (tgt := 31) X.1 X.2.1 dX12_lowest_27 (by decide) ?_
      exact B3_31 H _ _ f12 hG hS (lv_sub hl [] rfl)

theorem ca_X12_lowest_1_t   (X : CallFix p m c cc nL s args sg_tbl own) (hK : va_K D vwCl tys s) (hG : sgG (KT P) D vwCl (fun q : Nat => base ≤ q) tys ad ks H) (hC : sgC base s) (hS : va_S (fun q : Nat => base ≤ q) s.heap H locs) (hb : base ≤ s.heap.size) (hp4 : P.2.2.2.2.1 = true) (a0 : Nat) (h0 : isK ad ks 12 a0) (a1 : Nat) (h1 : isK ad ks 55 a1) (hl : Cond.methodLink own index yX12_lowest ∈ sg_tbl) (hsize : ls.size = nL) (hst : st0 = [.ref a1].reverse ++ .ref a0 :: rest) (hW : (rest.map fun v => v.category).sum ≤ 8) (hR : 36 ≤ R.frames ∧ 841 ≤ R.locals) (hf : cells ≤ R.cells ∧ slots ≤ R.slots) (hdg : decode cc pc = .ok (.invokevirtual index, 3)) (kk : ∀ (r : Int32) (H1 : Heap) (locs1 : List Loc), (fun r : Int32 => True) r → sgG (KT P) D vwCl (fun q : Nat => base ≤ q) tys ad ks H1 → va_S (fun q : Nat => base ≤ q) s.heap H1 locs1 → W p l e R s m args below meth c H1 locs1 cells slots Q (F0 m (pc + 3) ls (.int r :: rest))) : W p l e R s m args below meth c H locs cells slots Q (F0 m pc ls st0) :=
  sg_callVi X hK hG hC hS hb (m_X12_lowest_1_t l hp4 a0 h0 a1 h1) h0 (k := 12) (ci := 12) rfl (C := RX12) (T := TX12) (N := 53) rfl wl_8_213 wl_1_13 wl_8_212 wl_0_93 (n := 1) (by decide +kernel) rfl rfl rfl hl hsize hst hW hR hf hdg kk

set_option maxHeartbeats 8000000 in
set_option maxRecDepth 100000 in
theorem m_X12_cellOf_1_t (l : Launch) {D : va_G} {base : Nat} {tys : List (ClassId × FieldType)} {ad ks : List Nat} {P : sgPm} (hp4 : P.2.2.2.2.1 = true) (a0 : Nat) (h0 : isK ad ks 12 a0) (a1 : Nat) (h1 : isK ad ks 55 a1) (x2 : Int32) (h2 : iv 0 316 x2) : sgMi l (KT P) D vwCl base tys ad ks yX12_cellOf cX12_cellOf 3 (some .int) ({ frames := 36, cells := 0, slots := 0, locals := 841 }) [.ref a0, .ref a1, .int x2] (fun r : Int32 => True) := by
  refine sg_ofW (by decide +kernel) (Nat.le_of_ble_eq_true rfl) (fun p e s m below meth c X hr hlk hb hK hC hG ls hl => ?_)
  have hS : va_S (fun q : Nat => base ≤ q) s.heap s.heap [] := va_S.rf
  have hl : lv_has ls 3 [(0, .ref a0), (1, .ref a1), (2, .int x2)] := hl
  refine lv_aload_n X.1 X.2.1 dX12_cellOf_0 rfl (lv_at hl 0 rfl) ?_
  refine gf_X12_21 X hK hG h0 wl_6_199 dX12_cellOf_1 (fun q1 hq1 kq1 => ?_)
  refine lv_iload_n X.1 X.2.1 dX12_cellOf_4 rfl (lv_at hl 2 rfl) ?_
  refine al_52 X hK hG hq1 (iv_vpin h2 (by decide +kernel)) dX12_cellOf_5 (fun f2 hf2 => ?_)
  have of2 := hf2
  have hf2 : iv (-2147483648) 2147483647 f2 := iv_top f2
  have B4_29 : ∀ (locs : List Loc) (ls : Array Slot), va_S (fun q : Nat => base ≤ q) s.heap s.heap locs → lv_has ls 3 [(0, .ref a0), (2, .int x2)] → W p l e (headSpec (Cond.code yX12_cellOf cX12_cellOf 3 (some .int) :: sg_tbl) ({ frames := 36, cells := 0, slots := 0, locals := 841 })).room s m #[.ref a0, .ref a1, .int x2] below meth c s.heap locs 0 0 (MQ below (va_Qi (fun r (_ : Unit) => (fun r : Int32 => True) r) (fun _ => sgB (KT P) D vwCl base tys ad ks) (fun q : Nat => base ≤ q)) #[.ref a0, .ref a1, .int x2] s 0 0 (fun q : Nat => base ≤ q)) (F0 m 29 ls []) := by
    intro locs ls hS hl
    refine lv_aload_n X.1 X.2.1 dX12_cellOf_29 rfl (lv_at hl 0 rfl) ?_
    refine gg_X12_21 X hK hG h0 wl_6_199 kq1 dX12_cellOf_30 ?_
    refine lv_iload_n X.1 X.2.1 dX12_cellOf_33 rfl (lv_at hl 1 rfl) ?_
    refine lv_iconst (v := 1) X.1 X.2.1 dX12_cellOf_34 (by decide +kernel) ?_
    refine lv_iadd X.1 X.2.1 dX12_cellOf_35 ?_
    refine lv_topi (fun f5 ef5 => ?_)
    refine al_52 X hK hG hq1 (iv_vpin (iv_add (a' := 1) (b' := 317) ef5 h2 (iv_c 1 (a := 1) (b := 1) (by decide +kernel)) (by decide +kernel)) (by decide +kernel)) dX12_cellOf_36 (fun f6 hf6 => ?_)
    have of6 := hf6
    have hf6 : iv (-2147483648) 2147483647 f6 := iv_top f6
    exact sg_iret X hr hlk hb hK hC hG hS trivial dX12_cellOf_37
  refine lv_if_ne (tgt := 29) X.1 X.2.1 dX12_cellOf_6 (by decide) (fun c3 => ?_) (fun c3 => ?_)
  · exact B4_29 _ _ hS (lv_sub hl [0, 2] rfl)
  · refine lv_aload_n X.1 X.2.1 dX12_cellOf_9 rfl (lv_at hl 0 rfl) ?_
    refine gg_X12_21 X hK hG h0 wl_6_199 kq1 dX12_cellOf_10 ?_
    refine lv_iload_n X.1 X.2.1 dX12_cellOf_13 rfl (lv_at hl 2 rfl) ?_
    refine lv_iconst (v := 1) X.1 X.2.1 dX12_cellOf_14 (by decide +kernel) ?_
    refine lv_iadd X.1 X.2.1 dX12_cellOf_15 ?_
    refine lv_topi (fun f7 ef7 => ?_)
    refine al_52 X hK hG hq1 (iv_vpin (iv_add (a' := 1) (b' := 317) ef7 h2 (iv_c 1 (a := 1) (b := 1) (by decide +kernel)) (by decide +kernel)) (by decide +kernel)) dX12_cellOf_16 (fun f8 hf8 => ?_)
    have of8 := hf8
    have hf8 : iv (-2147483648) 2147483647 f8 := iv_top f8
    refine lv_iconst (v := (-1)) X.1 X.2.1 dX12_cellOf_17 (by decide +kernel) ?_
    refine lv_icmp_ne (tgt := 29) X.1 X.2.1 dX12_cellOf_18 (by decide) (fun c9 => ?_) (fun c9 => ?_)
    · exact B4_29 _ _ hS (lv_sub hl [0, 2] rfl)
    · refine lv_aload_n X.1 X.2.1 dX12_cellOf_21 rfl (lv_at hl 0 rfl) ?_
      refine lv_aload_n X.1 X.2.1 dX12_cellOf_22 rfl (lv_at hl 1 rfl) ?_
      refine ca_X12_lowest_1_t X hK hG hC hS hb hp4 a0 h0 a1 h1 wl_8_210 hl.1 (rest := []) rfl (Nat.le_of_ble_eq_true rfl) ⟨Nat.le_of_ble_eq_true rfl, Nat.le_of_ble_eq_true rfl⟩ ⟨Nat.le_of_ble_eq_true rfl, Nat.le_of_ble_eq_true rfl⟩ dX12_cellOf_23 (fun f10 H locs hf10 hG hS => ?_)
      refine lv_goto (tgt := 37) X.1 X.2.1 dX12_cellOf_26 (by decide) ?_
      exact sg_iret X hr hlk hb hK hC hG hS trivial dX12_cellOf_37

theorem ca_X12_cellOf_1_t   (X : CallFix p m c cc nL s args sg_tbl own) (hK : va_K D vwCl tys s) (hG : sgG (KT P) D vwCl (fun q : Nat => base ≤ q) tys ad ks H) (hC : sgC base s) (hS : va_S (fun q : Nat => base ≤ q) s.heap H locs) (hb : base ≤ s.heap.size) (hp4 : P.2.2.2.2.1 = true) (a0 : Nat) (h0 : isK ad ks 12 a0) (a1 : Nat) (h1 : isK ad ks 55 a1) (x2 : Int32) (h2 : iv 0 316 x2) (hl : Cond.methodLink own index yX12_cellOf ∈ sg_tbl) (hsize : ls.size = nL) (hst : st0 = [.ref a1, .int x2].reverse ++ .ref a0 :: rest) (hW : (rest.map fun v => v.category).sum ≤ 8) (hR : 37 ≤ R.frames ∧ 863 ≤ R.locals) (hf : cells ≤ R.cells ∧ slots ≤ R.slots) (hdg : decode cc pc = .ok (.invokevirtual index, 3)) (kk : ∀ (r : Int32) (H1 : Heap) (locs1 : List Loc), (fun r : Int32 => True) r → sgG (KT P) D vwCl (fun q : Nat => base ≤ q) tys ad ks H1 → va_S (fun q : Nat => base ≤ q) s.heap H1 locs1 → W p l e R s m args below meth c H1 locs1 cells slots Q (F0 m (pc + 3) ls (.int r :: rest))) : W p l e R s m args below meth c H locs cells slots Q (F0 m pc ls st0) :=
  sg_callVi X hK hG hC hS hb (m_X12_cellOf_1_t l hp4 a0 h0 a1 h1 x2 h2) h0 (k := 12) (ci := 12) rfl (C := RX12) (T := TX12) (N := 53) rfl wl_8_209 wl_1_13 wl_8_208 wl_0_92 (n := 2) (by decide +kernel) rfl rfl rfl hl hsize hst hW hR hf hdg kk

set_option maxHeartbeats 8000000 in
set_option maxRecDepth 100000 in
theorem m_X12_canMove_1_t (l : Launch) {D : va_G} {base : Nat} {tys : List (ClassId × FieldType)} {ad ks : List Nat} {P : sgPm} (hp4 : P.2.2.2.2.1 = true) (a0 : Nat) (h0 : isK ad ks 12 a0) (a1 : Nat) (h1 : isK ad ks 55 a1) (x2 : Int32) (h2 : iv 0 316 x2) (x3 : Int32) : sgMi l (KT P) D vwCl base tys ad ks yX12_canMove cX12_canMove 4 (some .boolean) ({ frames := 35, cells := 0, slots := 0, locals := 816 }) [.ref a0, .ref a1, .int x2, .int x3] (fun r : Int32 => iv 0 1 r) := by
  refine sg_ofW (by decide +kernel) (Nat.le_of_ble_eq_true rfl) (fun p e s m below meth c X hr hlk hb hK hC hG ls hl => ?_)
  have hS : va_S (fun q : Nat => base ≤ q) s.heap s.heap [] := va_S.rf
  have hl : lv_has ls 4 [(0, .ref a0), (1, .ref a1), (2, .int x2), (3, .int x3)] := hl
  refine lv_aload_n X.1 X.2.1 dX12_canMove_0 rfl (lv_at hl 0 rfl) ?_
  refine gf_X12_21 X hK hG h0 wl_6_199 dX12_canMove_1 (fun q1 hq1 kq1 => ?_)
  refine lv_iload_n X.1 X.2.1 dX12_canMove_4 rfl (lv_at hl 2 rfl) ?_
  refine al_52 X hK hG hq1 (iv_vpin h2 (by decide +kernel)) dX12_canMove_5 (fun f2 hf2 => ?_)
  have of2 := hf2
  have hf2 : iv (-2147483648) 2147483647 f2 := iv_top f2
  by_cases c3 : f2 = 0
  · refine lv_tableIn (tgt := 32) (off := 26) X.1 X.2.1 dX12_canMove_6 (by rw [c3]; decide +kernel) (by rw [c3]; decide +kernel) (by rw [c3]; rfl) (by decide) ?_
    refine lv_aload_n X.1 X.2.1 dX12_canMove_32 rfl (lv_at hl 0 rfl) ?_
    refine lv_aload_n X.1 X.2.1 dX12_canMove_33 rfl (lv_at hl 1 rfl) ?_
    refine lv_iload_n X.1 X.2.1 dX12_canMove_34 rfl (lv_at hl 3 rfl) ?_
    refine ca_X12_canGrow_1_t X hK hG hC hS hb hp4 a0 h0 a1 h1 x3 wl_8_90 hl.1 (rest := []) rfl (Nat.le_of_ble_eq_true rfl) ⟨Nat.le_of_ble_eq_true rfl, Nat.le_of_ble_eq_true rfl⟩ ⟨Nat.le_of_ble_eq_true rfl, Nat.le_of_ble_eq_true rfl⟩ dX12_canMove_35 (fun f4 H locs hf4 hG hS => ?_)
    exact sg_zret X hr (sg_zn hf4) hlk hb hK hC hG hS hf4 dX12_canMove_38
  by_cases c5 : f2 = 1
  · refine lv_tableIn (tgt := 39) (off := 33) X.1 X.2.1 dX12_canMove_6 (by rw [c5]; decide +kernel) (by rw [c5]; decide +kernel) (by rw [c5]; rfl) (by decide) ?_
    refine lv_aload_n X.1 X.2.1 dX12_canMove_39 rfl (lv_at hl 0 rfl) ?_
    refine lv_aload_n X.1 X.2.1 dX12_canMove_40 rfl (lv_at hl 1 rfl) ?_
    refine lv_iload_n X.1 X.2.1 dX12_canMove_41 rfl (lv_at hl 3 rfl) ?_
    refine lv_aload_n X.1 X.2.1 dX12_canMove_42 rfl (lv_at hl 0 rfl) ?_
    refine gg_X12_21 X hK hG h0 wl_6_199 kq1 dX12_canMove_43 ?_
    refine lv_iload_n X.1 X.2.1 dX12_canMove_46 rfl (lv_at hl 2 rfl) ?_
    refine lv_iconst (v := 2) X.1 X.2.1 dX12_canMove_47 (by decide +kernel) ?_
    refine lv_iadd X.1 X.2.1 dX12_canMove_48 ?_
    refine lv_topi (fun f6 ef6 => ?_)
    refine al_52 X hK hG hq1 (iv_vpin (iv_add (a' := 2) (b' := 318) ef6 h2 (iv_c 2 (a := 2) (b := 2) (by decide +kernel)) (by decide +kernel)) (by decide +kernel)) dX12_canMove_49 (fun f7 hf7 => ?_)
    have of7 := hf7
    have hf7 : iv (-2147483648) 2147483647 f7 := iv_top f7
    refine lv_aload_n X.1 X.2.1 dX12_canMove_50 rfl (lv_at hl 0 rfl) ?_
    refine gg_X12_21 X hK hG h0 wl_6_199 kq1 dX12_canMove_51 ?_
    refine lv_iload_n X.1 X.2.1 dX12_canMove_54 rfl (lv_at hl 2 rfl) ?_
    refine lv_iconst (v := 3) X.1 X.2.1 dX12_canMove_55 (by decide +kernel) ?_
    refine lv_iadd X.1 X.2.1 dX12_canMove_56 ?_
    refine lv_topi (fun f8 ef8 => ?_)
    refine al_52 X hK hG hq1 (iv_vpin (iv_add (a' := 3) (b' := 319) ef8 h2 (iv_c 3 (a := 3) (b := 3) (by decide +kernel)) (by decide +kernel)) (by decide +kernel)) dX12_canMove_57 (fun f9 hf9 => ?_)
    have of9 := hf9
    have hf9 : iv (-2147483648) 2147483647 f9 := iv_top f9
    refine ca_X12_canCut_1_t X hK hG hC (fun _ h => h) hS hb hp4 a0 h0 a1 h1 x3 f7 f9 wl_8_117 hl.1 (rest := []) rfl (Nat.le_of_ble_eq_true rfl) ⟨Nat.le_of_ble_eq_true rfl, Nat.le_of_ble_eq_true rfl⟩ ⟨Nat.le_of_ble_eq_true rfl, Nat.le_of_ble_eq_true rfl⟩ dX12_canMove_58 (fun f10 locs hf10 hS => ?_)
    exact sg_zret X hr (sg_zn hf10) hlk hb hK hC hG hS hf10 dX12_canMove_61
  by_cases c11 : f2 = 2
  · refine lv_tableIn (tgt := 62) (off := 56) X.1 X.2.1 dX12_canMove_6 (by rw [c11]; decide +kernel) (by rw [c11]; decide +kernel) (by rw [c11]; rfl) (by decide) ?_
    refine lv_aload_n X.1 X.2.1 dX12_canMove_62 rfl (lv_at hl 0 rfl) ?_
    refine lv_aload_n X.1 X.2.1 dX12_canMove_63 rfl (lv_at hl 1 rfl) ?_
    refine lv_iload_n X.1 X.2.1 dX12_canMove_64 rfl (lv_at hl 3 rfl) ?_
    refine ca_X12_canDig_1_t X hK hG hC (fun _ h => h) hS hb hp4 a0 h0 a1 h1 x3 wl_8_140 hl.1 (rest := []) rfl (Nat.le_of_ble_eq_true rfl) ⟨Nat.le_of_ble_eq_true rfl, Nat.le_of_ble_eq_true rfl⟩ ⟨Nat.le_of_ble_eq_true rfl, Nat.le_of_ble_eq_true rfl⟩ dX12_canMove_65 (fun f12 locs hf12 hS => ?_)
    exact sg_zret X hr (sg_zn hf12) hlk hb hK hC hG hS hf12 dX12_canMove_68
  refine lv_tableOut (tgt := 69) X.1 X.2.1 dX12_canMove_6 (by have tc3 := iv_nt 0 c3 (by decide +kernel); have tc5 := iv_nt 1 c5 (by decide +kernel); have tc11 := iv_nt 2 c11 (by decide +kernel); have b1 := ((iv_top f2)).1; have b2 := ((iv_top f2)).2; omega) (by decide) ?_
  refine lv_aload_n X.1 X.2.1 dX12_canMove_69 rfl (lv_at hl 0 rfl) ?_
  refine lv_aload_n X.1 X.2.1 dX12_canMove_70 rfl (lv_at hl 1 rfl) ?_
  refine ca_X12_isOpen_1_t X hK hG hC (fun _ h => h) hS hb hp4 a0 h0 a1 h1 wl_8_94 hl.1 (rest := []) rfl (Nat.le_of_ble_eq_true rfl) ⟨Nat.le_of_ble_eq_true rfl, Nat.le_of_ble_eq_true rfl⟩ ⟨Nat.le_of_ble_eq_true rfl, Nat.le_of_ble_eq_true rfl⟩ dX12_canMove_71 (fun f13 locs hf13 hS => ?_)
  exact sg_zret X hr (sg_zn hf13) hlk hb hK hC hG hS hf13 dX12_canMove_74

theorem ca_X12_canMove_1_t   (X : CallFix p m c cc nL s args sg_tbl own) (hK : va_K D vwCl tys s) (hG : sgG (KT P) D vwCl (fun q : Nat => base ≤ q) tys ad ks H) (hC : sgC base s) (hS : va_S (fun q : Nat => base ≤ q) s.heap H locs) (hb : base ≤ s.heap.size) (hp4 : P.2.2.2.2.1 = true) (a0 : Nat) (h0 : isK ad ks 12 a0) (a1 : Nat) (h1 : isK ad ks 55 a1) (x2 : Int32) (h2 : iv 0 316 x2) (x3 : Int32) (hl : Cond.methodLink own index yX12_canMove ∈ sg_tbl) (hsize : ls.size = nL) (hst : st0 = [.ref a1, .int x2, .int x3].reverse ++ .ref a0 :: rest) (hW : (rest.map fun v => v.category).sum ≤ 8) (hR : 36 ≤ R.frames ∧ 839 ≤ R.locals) (hf : cells ≤ R.cells ∧ slots ≤ R.slots) (hdg : decode cc pc = .ok (.invokevirtual index, 3)) (kk : ∀ (r : Int32) (H1 : Heap) (locs1 : List Loc), (fun r : Int32 => iv 0 1 r) r → sgG (KT P) D vwCl (fun q : Nat => base ≤ q) tys ad ks H1 → va_S (fun q : Nat => base ≤ q) s.heap H1 locs1 → W p l e R s m args below meth c H1 locs1 cells slots Q (F0 m (pc + 3) ls (.int r :: rest))) : W p l e R s m args below meth c H locs cells slots Q (F0 m pc ls st0) :=
  sg_callVi X hK hG hC hS hb (m_X12_canMove_1_t l hp4 a0 h0 a1 h1 x2 h2 x3) h0 (k := 12) (ci := 12) rfl (C := RX12) (T := TX12) (N := 53) rfl wl_8_218 wl_1_13 wl_8_217 wl_0_94 (n := 3) (by decide +kernel) rfl rfl rfl hl hsize hst hW hR hf hdg kk

set_option maxHeartbeats 8000000 in
set_option maxRecDepth 100000 in
theorem m_X12_moves_1_t (l : Launch) {D : va_G} {base : Nat} {tys : List (ClassId × FieldType)} {ad ks : List Nat} {P : sgPm} (hp4 : P.2.2.2.2.1 = true) (a0 : Nat) (h0 : isK ad ks 12 a0) (a1 : Nat) (h1 : isK ad ks 55 a1) (x2 : Int32) (h2 : iv 0 316 x2) (x3 : Int32) (hN : sgN P + 1 ≤ 1000000000) : Met l yX12_moves (Cond.code yX12_moves cX12_moves 5 none :: sg_tbl) ({ frames := 36, cells := 0, slots := 0, locals := 842 }) (va_Pc [.ref a0, .ref a1, .int x2, .int x3] (sgB (KT P) D vwCl base tys ad ks)) (va_Qv (fun (_ : Unit) => True) (fun _ => sgB (KT (sgAt P (sgN P + 1))) D vwCl base tys ad ks) (fun q : Nat => base ≤ q)) 0 0 (fun q : Nat => base ≤ q) := by
  refine sg_ofW (by decide +kernel) (Nat.le_of_ble_eq_true rfl) (fun p e s m below meth c X hr hlk hb hK hC hG ls hl => ?_)
  have hS : va_S (fun q : Nat => base ≤ q) s.heap s.heap [] := va_S.rf
  have hl : lv_has ls 5 [(0, .ref a0), (1, .ref a1), (2, .int x2), (3, .int x3)] := hl
  refine lv_aload_n X.1 X.2.1 dX12_moves_0 rfl (lv_at hl 0 rfl) ?_
  refine gf_X12_21 X hK hG h0 wl_6_199 dX12_moves_1 (fun q1 hq1 kq1 => ?_)
  refine lv_iload_n X.1 X.2.1 dX12_moves_4 rfl (lv_at hl 2 rfl) ?_
  refine al_52 X hK hG hq1 (iv_vpin h2 (by decide +kernel)) dX12_moves_5 (fun f2 hf2 => ?_)
  have of2 := hf2
  have hf2 : iv (-2147483648) 2147483647 f2 := iv_top f2
  by_cases c3 : f2 = 0
  · refine lv_tableIn (tgt := 32) (off := 26) X.1 X.2.1 dX12_moves_6 (by rw [c3]; decide +kernel) (by rw [c3]; decide +kernel) (by rw [c3]; rfl) (by decide) ?_
    refine lv_aload_n X.1 X.2.1 dX12_moves_32 rfl (lv_at hl 0 rfl) ?_
    refine lv_aload_n X.1 X.2.1 dX12_moves_33 rfl (lv_at hl 1 rfl) ?_
    refine lv_iload_n X.1 X.2.1 dX12_moves_34 rfl (lv_at hl 3 rfl) ?_
    refine ca_X12_grows_1_t X hK hG hC hS hb hp4 a0 h0 a1 h1 x3 wl_8_102 hl.1 (rest := []) rfl (Nat.le_of_ble_eq_true rfl) ⟨Nat.le_of_ble_eq_true rfl, Nat.le_of_ble_eq_true rfl⟩ ⟨Nat.le_of_ble_eq_true rfl, Nat.le_of_ble_eq_true rfl⟩ dX12_moves_35 (fun H locs hG hS => ?_)
    refine lv_goto (tgt := 80) X.1 X.2.1 dX12_moves_38 (by decide) ?_
    have bq5 : 0 ≤ x2.toInt ∧ x2.toInt ≤ 316 := h2
    have hG : sgG (KT (sgAt P (sgN P + 1))) D vwCl _ tys ad ks _ := sg_moreN (P := P) (show (sgN P) ≤ (sgN P + 1) from by omega) hG
    exact sg_vret2 X hr hlk hS (fun t ht hW => sg_post hb hK hC hG hS ht hW) dX12_moves_80
  by_cases c6 : f2 = 1
  · refine lv_tableIn (tgt := 41) (off := 35) X.1 X.2.1 dX12_moves_6 (by rw [c6]; decide +kernel) (by rw [c6]; decide +kernel) (by rw [c6]; rfl) (by decide) ?_
    refine lv_aload_n X.1 X.2.1 dX12_moves_41 rfl (lv_at hl 0 rfl) ?_
    refine lv_aload_n X.1 X.2.1 dX12_moves_42 rfl (lv_at hl 1 rfl) ?_
    refine lv_iload_n X.1 X.2.1 dX12_moves_43 rfl (lv_at hl 3 rfl) ?_
    refine lv_aload_n X.1 X.2.1 dX12_moves_44 rfl (lv_at hl 0 rfl) ?_
    refine gg_X12_21 X hK hG h0 wl_6_199 kq1 dX12_moves_45 ?_
    refine lv_iload_n X.1 X.2.1 dX12_moves_48 rfl (lv_at hl 2 rfl) ?_
    refine lv_iconst (v := 2) X.1 X.2.1 dX12_moves_49 (by decide +kernel) ?_
    refine lv_iadd X.1 X.2.1 dX12_moves_50 ?_
    refine lv_topi (fun f7 ef7 => ?_)
    refine al_52 X hK hG hq1 (iv_vpin (iv_add (a' := 2) (b' := 318) ef7 h2 (iv_c 2 (a := 2) (b := 2) (by decide +kernel)) (by decide +kernel)) (by decide +kernel)) dX12_moves_51 (fun f8 hf8 => ?_)
    have of8 := hf8
    have hf8 : iv (-2147483648) 2147483647 f8 := iv_top f8
    refine lv_aload_n X.1 X.2.1 dX12_moves_52 rfl (lv_at hl 0 rfl) ?_
    refine gg_X12_21 X hK hG h0 wl_6_199 kq1 dX12_moves_53 ?_
    refine lv_iload_n X.1 X.2.1 dX12_moves_56 rfl (lv_at hl 2 rfl) ?_
    refine lv_iconst (v := 3) X.1 X.2.1 dX12_moves_57 (by decide +kernel) ?_
    refine lv_iadd X.1 X.2.1 dX12_moves_58 ?_
    refine lv_topi (fun f9 ef9 => ?_)
    refine al_52 X hK hG hq1 (iv_vpin (iv_add (a' := 3) (b' := 319) ef9 h2 (iv_c 3 (a := 3) (b := 3) (by decide +kernel)) (by decide +kernel)) (by decide +kernel)) dX12_moves_59 (fun f10 hf10 => ?_)
    have of10 := hf10
    have hf10 : iv (-2147483648) 2147483647 f10 := iv_top f10
    refine ca_X12_mows_1_t X hK hG hC hS hb hp4 a0 h0 a1 h1 x3 f8 f10 (show sgN P + 1 ≤ 1000000000 from by omega) wl_8_125 hl.1 (rest := []) rfl (Nat.le_of_ble_eq_true rfl) ⟨Nat.le_of_ble_eq_true rfl, Nat.le_of_ble_eq_true rfl⟩ ⟨Nat.le_of_ble_eq_true rfl, Nat.le_of_ble_eq_true rfl⟩ dX12_moves_60 (fun tg11 H locs htg11 hWg11 hS => ?_)
    have hG : sgG (KT (sgAt P (sgN P + 1))) D vwCl _ tys ad ks _ := hWg11.2.2.2
    rw [htg11] at hG
    refine lv_goto (tgt := 80) X.1 X.2.1 dX12_moves_63 (by decide) ?_
    have bq12 : 0 ≤ x2.toInt ∧ x2.toInt ≤ 316 := h2
    have hG : sgG (KT (sgAt P (sgN P + 1))) D vwCl _ tys ad ks _ := sg_moreN (P := (sgAt P (sgN P + 1))) (show (sgN P + 1) ≤ (sgN P + 1) from by omega) hG
    exact sg_vret2 X hr hlk hS (fun t ht hW => sg_post hb hK hC hG hS ht hW) dX12_moves_80
  by_cases c13 : f2 = 2
  · refine lv_tableIn (tgt := 66) (off := 60) X.1 X.2.1 dX12_moves_6 (by rw [c13]; decide +kernel) (by rw [c13]; decide +kernel) (by rw [c13]; rfl) (by decide) ?_
    refine lv_aload_n X.1 X.2.1 dX12_moves_66 rfl (lv_at hl 1 rfl) ?_
    refine lv_iload_n X.1 X.2.1 dX12_moves_67 rfl (lv_at hl 3 rfl) ?_
    refine ca_X12_digs_1_t X hK hG hC hS hb a1 h1 x3 wl_8_144 hl.1 (rest := []) rfl (Nat.le_of_ble_eq_true rfl) ⟨Nat.le_of_ble_eq_true rfl, Nat.le_of_ble_eq_true rfl⟩ ⟨Nat.le_of_ble_eq_true rfl, Nat.le_of_ble_eq_true rfl⟩ dX12_moves_68 (fun H locs hG hS => ?_)
    refine lv_goto (tgt := 80) X.1 X.2.1 dX12_moves_71 (by decide) ?_
    have bq15 : 0 ≤ x2.toInt ∧ x2.toInt ≤ 316 := h2
    have hG : sgG (KT (sgAt P (sgN P + 1))) D vwCl _ tys ad ks _ := sg_moreN (P := P) (show (sgN P) ≤ (sgN P + 1) from by omega) hG
    exact sg_vret2 X hr hlk hS (fun t ht hW => sg_post hb hK hC hG hS ht hW) dX12_moves_80
  refine lv_tableOut (tgt := 74) X.1 X.2.1 dX12_moves_6 (by have tc3 := iv_nt 0 c3 (by decide +kernel); have tc6 := iv_nt 1 c6 (by decide +kernel); have tc13 := iv_nt 2 c13 (by decide +kernel); have b1 := ((iv_top f2)).1; have b2 := ((iv_top f2)).2; omega) (by decide) ?_
  refine lv_aload_n X.1 X.2.1 dX12_moves_74 rfl (lv_at hl 1 rfl) ?_
  refine ca_X12_sits_1_t X hK hG hC hS hb a1 h1 (show sgN P + 1 ≤ 1000000000 from by omega) wl_8_133 hl.1 (rest := []) rfl (Nat.le_of_ble_eq_true rfl) ⟨Nat.le_of_ble_eq_true rfl, Nat.le_of_ble_eq_true rfl⟩ ⟨Nat.le_of_ble_eq_true rfl, Nat.le_of_ble_eq_true rfl⟩ dX12_moves_75 (fun f16 tf16 H locs htf16 hf16 hWf16 hS => ?_)
  have hG : sgG (KT (sgAt P (sgN P + 1))) D vwCl _ tys ad ks _ := hWf16.2.2.2
  rw [htf16] at hG
  refine lv_istore (lv' := [(4, .int f16), (0, .ref a0), (1, .ref a1), (2, .int x2), (3, .int x3)]) X.1 X.2.1 dX12_moves_78 hl (by decide) rfl (fun ls hl => ?_)
  have bq17 : 0 ≤ x2.toInt ∧ x2.toInt ≤ 316 := h2
  have hG : sgG (KT (sgAt P (sgN P + 1))) D vwCl _ tys ad ks _ := sg_moreN (P := (sgAt P (sgN P + 1))) (show (sgN P + 1) ≤ (sgN P + 1) from by omega) hG
  exact sg_vret2 X hr hlk hS (fun t ht hW => sg_post hb hK hC hG hS ht hW) dX12_moves_80

theorem ca_X12_moves_1_t   (X : CallFix p m c cc nL s args sg_tbl own) (hK : va_K D vwCl tys s) (hG : sgG (KT P) D vwCl (fun q : Nat => base ≤ q) tys ad ks H) (hC : sgC base s) (hS : va_S (fun q : Nat => base ≤ q) s.heap H locs) (hb : base ≤ s.heap.size) (hp4 : P.2.2.2.2.1 = true) (a0 : Nat) (h0 : isK ad ks 12 a0) (a1 : Nat) (h1 : isK ad ks 55 a1) (x2 : Int32) (h2 : iv 0 316 x2) (x3 : Int32) (hN : sgN P + 1 ≤ 1000000000) (hl : Cond.methodLink own index yX12_moves ∈ sg_tbl) (hsize : ls.size = nL) (hst : st0 = [.ref a1, .int x2, .int x3].reverse ++ .ref a0 :: rest) (hW : (rest.map fun v => v.category).sum ≤ 8) (hR : 37 ≤ R.frames ∧ 866 ≤ R.locals) (hf : cells ≤ R.cells ∧ slots ≤ R.slots) (hdg : decode cc pc = .ok (.invokevirtual index, 3)) (kk : ∀ (t : State) (H1 : Heap) (locs1 : List Loc), t.heap = H1 → (sgB (KT (sgAt P (sgN P + 1))) D vwCl base tys ad ks t) → va_S (fun q : Nat => base ≤ q) s.heap H1 locs1 → W p l e R s m args below meth c H1 locs1 cells slots Q (F0 m (pc + 3) ls rest)) : W p l e R s m args below meth c H locs cells slots Q (F0 m pc ls st0) :=
  sg_callV2v X hK hG hC hS hb (m_X12_moves_1_t l hp4 a0 h0 a1 h1 x2 h2 x3 hN) h0 (k := 12) (ci := 12) rfl (C := RX12) (T := TX12) (N := 53) rfl wl_8_222 wl_1_13 wl_8_221 wl_0_95 (n := 3) (by decide +kernel) rfl rfl rfl hl hsize hst hW hR hf hdg kk
end
