abbrev cX0_oddsOf : ByteArray := prog_2_method_7_code
def yX0_oddsOf : MethodName := ⟨RX0, "oddsOf", "(LLawnAhead$State;II)J"⟩
abbrev cX11_act : ByteArray := prog_1_method_20_code
def yX11_act : MethodName := ⟨RX11, "act", "(IIII)Z"⟩
abbrev cX11_cut : ByteArray := prog_1_method_17_code
def yX11_cut : MethodName := ⟨RX11, "cut", "(III)I"⟩
abbrev cX11_draw : ByteArray := prog_1_method_23_code
def yX11_draw : MethodName := ⟨RX11, "draw", "(I)I"⟩
abbrev cX11_games : ByteArray := prog_1_method_21_code
def yX11_games : MethodName := ⟨RX11, "games", "(IJ)I"⟩
abbrev cX11_grow : ByteArray := prog_1_method_16_code
def yX11_grow : MethodName := ⟨RX11, "grow", "(I)I"⟩
abbrev cX11_log : ByteArray := prog_1_method_26_code
def yX11_log : MethodName := ⟨RX11, "log", "(II)I"⟩
abbrev cX11_mole : ByteArray := prog_1_method_19_code
def yX11_mole : MethodName := ⟨RX11, "mole", "(I)I"⟩
abbrev cX11_playNight : ByteArray := prog_1_method_22_code
def yX11_playNight : MethodName := ⟨RX11, "playNight", "()V"⟩
abbrev cX11_rule : ByteArray := prog_1_method_11_code
def yX11_rule : MethodName := ⟨RX11, "rule", "(I)I"⟩
abbrev cX11_sit : ByteArray := prog_1_method_18_code
def yX11_sit : MethodName := ⟨RX11, "sit", "()I"⟩
abbrev cX11_undo : ByteArray := prog_1_method_25_code
def yX11_undo : MethodName := ⟨RX11, "undo", "()I"⟩
theorem dX0_oddsOf_0 : decode cX0_oddsOf 0 = .ok (.aload_n 0, 1) := by decide +kernel
theorem dX0_oddsOf_1 : decode cX0_oddsOf 1 = .ok (.aload_n 1, 1) := by decide +kernel
theorem dX0_oddsOf_2 : decode cX0_oddsOf 2 = .ok (.getfield 34, 3) := by decide +kernel
theorem dX0_oddsOf_5 : decode cX0_oddsOf 5 = .ok (.putfield 85, 3) := by decide +kernel
theorem dX0_oddsOf_8 : decode cX0_oddsOf 8 = .ok (.aload_n 0, 1) := by decide +kernel
theorem dX0_oddsOf_9 : decode cX0_oddsOf 9 = .ok (.iload_n 3, 1) := by decide +kernel
theorem dX0_oddsOf_10 : decode cX0_oddsOf 10 = .ok (.putfield 86, 3) := by decide +kernel
theorem dX0_oddsOf_13 : decode cX0_oddsOf 13 = .ok (.aload_n 0, 1) := by decide +kernel
theorem dX0_oddsOf_14 : decode cX0_oddsOf 14 = .ok (.aload_n 1, 1) := by decide +kernel
theorem dX0_oddsOf_15 : decode cX0_oddsOf 15 = .ok (.getfield 15, 3) := by decide +kernel
theorem dX0_oddsOf_18 : decode cX0_oddsOf 18 = .ok (.aload_n 1, 1) := by decide +kernel
theorem dX0_oddsOf_19 : decode cX0_oddsOf 19 = .ok (.getfield 37, 3) := by decide +kernel
theorem dX0_oddsOf_22 : decode cX0_oddsOf 22 = .ok (.aload_n 1, 1) := by decide +kernel
theorem dX0_oddsOf_23 : decode cX0_oddsOf 23 = .ok (.getfield 89, 3) := by decide +kernel
theorem dX0_oddsOf_26 : decode cX0_oddsOf 26 = .ok (.iadd, 1) := by decide +kernel
theorem dX0_oddsOf_27 : decode cX0_oddsOf 27 = .ok (.iload_n 2, 1) := by decide +kernel
theorem dX0_oddsOf_28 : decode cX0_oddsOf 28 = .ok (.ldc2_w 92, 3) := by decide +kernel
theorem dX0_oddsOf_31 : decode cX0_oddsOf 31 = .ok (.invokevirtual 94, 3) := by decide +kernel
theorem dX0_oddsOf_34 : decode cX0_oddsOf 34 = .ok (.lreturn, 1) := by decide +kernel
theorem dX11_act_0 : decode cX11_act 0 = .ok (.aload_n 0, 1) := by decide +kernel
theorem dX11_act_1 : decode cX11_act 1 = .ok (.getfield 68, 3) := by decide +kernel
theorem dX11_act_4 : decode cX11_act 4 = .ok (.aload_n 0, 1) := by decide +kernel
theorem dX11_act_5 : decode cX11_act 5 = .ok (.getfield 33, 3) := by decide +kernel
theorem dX11_act_8 : decode cX11_act 8 = .ok (.iload_n 1, 1) := by decide +kernel
theorem dX11_act_9 : decode cX11_act 9 = .ok (.iload_n 2, 1) := by decide +kernel
theorem dX11_act_10 : decode cX11_act 10 = .ok (.iload_n 3, 1) := by decide +kernel
theorem dX11_act_11 : decode cX11_act 11 = .ok (.iload 4, 2) := by decide +kernel
theorem dX11_act_13 : decode cX11_act 13 = .ok (.invokevirtual 211, 3) := by decide +kernel
theorem dX11_act_16 : decode cX11_act 16 = .ok (.ifCond .ne 5, 3) := by decide +kernel
theorem dX11_act_19 : decode cX11_act 19 = .ok (.iconst 0, 1) := by decide +kernel
theorem dX11_act_20 : decode cX11_act 20 = .ok (.ireturn, 1) := by decide +kernel
theorem dX11_act_21 : decode cX11_act 21 = .ok (.iload_n 1, 1) := by decide +kernel
theorem dX11_act_22 : decode cX11_act 22 = .ok (.ifCond .ne 38, 3) := by decide +kernel
theorem dX11_act_25 : decode cX11_act 25 = .ok (.aload_n 0, 1) := by decide +kernel
theorem dX11_act_26 : decode cX11_act 26 = .ok (.getfield 59, 3) := by decide +kernel
theorem dX11_act_29 : decode cX11_act 29 = .ok (.aload_n 0, 1) := by decide +kernel
theorem dX11_act_30 : decode cX11_act 30 = .ok (.getfield 33, 3) := by decide +kernel
theorem dX11_act_33 : decode cX11_act 33 = .ok (.getfield 169, 3) := by decide +kernel
theorem dX11_act_36 : decode cX11_act 36 = .ok (.aload_n 0, 1) := by decide +kernel
theorem dX11_act_37 : decode cX11_act 37 = .ok (.getfield 33, 3) := by decide +kernel
theorem dX11_act_40 : decode cX11_act 40 = .ok (.getfield 174, 3) := by decide +kernel
theorem dX11_act_43 : decode cX11_act 43 = .ok (.aload_n 0, 1) := by decide +kernel
theorem dX11_act_44 : decode cX11_act 44 = .ok (.getfield 33, 3) := by decide +kernel
theorem dX11_act_47 : decode cX11_act 47 = .ok (.getfield 177, 3) := by decide +kernel
theorem dX11_act_50 : decode cX11_act 50 = .ok (.invokevirtual 215, 3) := by decide +kernel
theorem dX11_act_53 : decode cX11_act 53 = .ok (.ifCond .eq 7, 3) := by decide +kernel
theorem dX11_act_56 : decode cX11_act 56 = .ok (.iconst 1, 1) := by decide +kernel
theorem dX11_act_57 : decode cX11_act 57 = .ok (.goto 4, 3) := by decide +kernel
theorem dX11_act_60 : decode cX11_act 60 = .ok (.iconst 0, 1) := by decide +kernel
theorem dX11_act_61 : decode cX11_act 61 = .ok (.istore 5, 2) := by decide +kernel
theorem dX11_act_63 : decode cX11_act 63 = .ok (.aload_n 0, 1) := by decide +kernel
theorem dX11_act_64 : decode cX11_act 64 = .ok (.getfield 40, 3) := by decide +kernel
theorem dX11_act_67 : decode cX11_act 67 = .ok (.aload_n 0, 1) := by decide +kernel
theorem dX11_act_68 : decode cX11_act 68 = .ok (.getfield 33, 3) := by decide +kernel
theorem dX11_act_71 : decode cX11_act 71 = .ok (.iload_n 1, 1) := by decide +kernel
theorem dX11_act_72 : decode cX11_act 72 = .ok (.iload_n 2, 1) := by decide +kernel
theorem dX11_act_73 : decode cX11_act 73 = .ok (.iload 4, 2) := by decide +kernel
theorem dX11_act_75 : decode cX11_act 75 = .ok (.iconst 1, 1) := by decide +kernel
theorem dX11_act_76 : decode cX11_act 76 = .ok (.if_icmp .ne 7, 3) := by decide +kernel
theorem dX11_act_79 : decode cX11_act 79 = .ok (.iconst 0, 1) := by decide +kernel
theorem dX11_act_80 : decode cX11_act 80 = .ok (.goto 4, 3) := by decide +kernel
theorem dX11_act_83 : decode cX11_act 83 = .ok (.iload_n 3, 1) := by decide +kernel
theorem dX11_act_84 : decode cX11_act 84 = .ok (.iload 4, 2) := by decide +kernel
theorem dX11_act_86 : decode cX11_act 86 = .ok (.invokestatic 219, 3) := by decide +kernel
theorem dX11_act_89 : decode cX11_act 89 = .ok (.invokevirtual 223, 3) := by decide +kernel
theorem dX11_act_92 : decode cX11_act 92 = .ok (.aload_n 0, 1) := by decide +kernel
theorem dX11_act_93 : decode cX11_act 93 = .ok (.getfield 68, 3) := by decide +kernel
theorem dX11_act_96 : decode cX11_act 96 = .ok (.aload_n 0, 1) := by decide +kernel
theorem dX11_act_97 : decode cX11_act 97 = .ok (.getfield 33, 3) := by decide +kernel
theorem dX11_act_100 : decode cX11_act 100 = .ok (.iload_n 1, 1) := by decide +kernel
theorem dX11_act_101 : decode cX11_act 101 = .ok (.iload_n 2, 1) := by decide +kernel
theorem dX11_act_102 : decode cX11_act 102 = .ok (.iload_n 3, 1) := by decide +kernel
theorem dX11_act_103 : decode cX11_act 103 = .ok (.iload 4, 2) := by decide +kernel
theorem dX11_act_105 : decode cX11_act 105 = .ok (.invokevirtual 227, 3) := by decide +kernel
theorem dX11_act_108 : decode cX11_act 108 = .ok (.iload 5, 2) := by decide +kernel
theorem dX11_act_110 : decode cX11_act 110 = .ok (.ifCond .eq 26, 3) := by decide +kernel
theorem dX11_act_113 : decode cX11_act 113 = .ok (.aload_n 0, 1) := by decide +kernel
theorem dX11_act_114 : decode cX11_act 114 = .ok (.getfield 33, 3) := by decide +kernel
theorem dX11_act_117 : decode cX11_act 117 = .ok (.getfield 193, 3) := by decide +kernel
theorem dX11_act_120 : decode cX11_act 120 = .ok (.ifCond .ne 16, 3) := by decide +kernel
theorem dX11_act_123 : decode cX11_act 123 = .ok (.aload_n 0, 1) := by decide +kernel
theorem dX11_act_124 : decode cX11_act 124 = .ok (.getfield 33, 3) := by decide +kernel
theorem dX11_act_127 : decode cX11_act 127 = .ok (.dup, 1) := by decide +kernel
theorem dX11_act_128 : decode cX11_act 128 = .ok (.getfield 231, 3) := by decide +kernel
theorem dX11_act_131 : decode cX11_act 131 = .ok (.iconst 1, 1) := by decide +kernel
theorem dX11_act_132 : decode cX11_act 132 = .ok (.iadd, 1) := by decide +kernel
theorem dX11_act_133 : decode cX11_act 133 = .ok (.putfield 231, 3) := by decide +kernel
theorem dX11_act_136 : decode cX11_act 136 = .ok (.iconst 1, 1) := by decide +kernel
theorem dX11_act_137 : decode cX11_act 137 = .ok (.ireturn, 1) := by decide +kernel
theorem dX11_cut_0 : decode cX11_cut 0 = .ok (.aload_n 0, 1) := by decide +kernel
theorem dX11_cut_1 : decode cX11_cut 1 = .ok (.iconst 1, 1) := by decide +kernel
theorem dX11_cut_2 : decode cX11_cut 2 = .ok (.iload_n 1, 1) := by decide +kernel
theorem dX11_cut_3 : decode cX11_cut 3 = .ok (.iload_n 2, 1) := by decide +kernel
theorem dX11_cut_4 : decode cX11_cut 4 = .ok (.iload_n 3, 1) := by decide +kernel
theorem dX11_cut_5 : decode cX11_cut 5 = .ok (.invokevirtual 190, 3) := by decide +kernel
theorem dX11_cut_8 : decode cX11_cut 8 = .ok (.ifCond .eq 13, 3) := by decide +kernel
theorem dX11_cut_11 : decode cX11_cut 11 = .ok (.aload_n 0, 1) := by decide +kernel
theorem dX11_cut_12 : decode cX11_cut 12 = .ok (.getfield 33, 3) := by decide +kernel
theorem dX11_cut_15 : decode cX11_cut 15 = .ok (.getfield 177, 3) := by decide +kernel
theorem dX11_cut_18 : decode cX11_cut 18 = .ok (.goto 4, 3) := by decide +kernel
theorem dX11_cut_21 : decode cX11_cut 21 = .ok (.iconst (-1), 1) := by decide +kernel
theorem dX11_cut_22 : decode cX11_cut 22 = .ok (.ireturn, 1) := by decide +kernel
theorem dX11_draw_0 : decode cX11_draw 0 = .ok (.aload_n 0, 1) := by decide +kernel
theorem dX11_draw_1 : decode cX11_draw 1 = .ok (.aload_n 0, 1) := by decide +kernel
theorem dX11_draw_2 : decode cX11_draw 2 = .ok (.getfield 234, 3) := by decide +kernel
theorem dX11_draw_5 : decode cX11_draw 5 = .ok (.ldc2_w 258, 3) := by decide +kernel
theorem dX11_draw_8 : decode cX11_draw 8 = .ok (.lmul, 1) := by decide +kernel
theorem dX11_draw_9 : decode cX11_draw 9 = .ok (.ldc2_w 260, 3) := by decide +kernel
theorem dX11_draw_12 : decode cX11_draw 12 = .ok (.ladd, 1) := by decide +kernel
theorem dX11_draw_13 : decode cX11_draw 13 = .ok (.putfield 234, 3) := by decide +kernel
theorem dX11_draw_16 : decode cX11_draw 16 = .ok (.iload_n 1, 1) := by decide +kernel
theorem dX11_draw_17 : decode cX11_draw 17 = .ok (.iconst 1, 1) := by decide +kernel
theorem dX11_draw_18 : decode cX11_draw 18 = .ok (.if_icmp .ge 7, 3) := by decide +kernel
theorem dX11_draw_21 : decode cX11_draw 21 = .ok (.iconst 0, 1) := by decide +kernel
theorem dX11_draw_22 : decode cX11_draw 22 = .ok (.goto 14, 3) := by decide +kernel
theorem dX11_draw_25 : decode cX11_draw 25 = .ok (.aload_n 0, 1) := by decide +kernel
theorem dX11_draw_26 : decode cX11_draw 26 = .ok (.getfield 234, 3) := by decide +kernel
theorem dX11_draw_29 : decode cX11_draw 29 = .ok (.bipush 33, 2) := by decide +kernel
theorem dX11_draw_31 : decode cX11_draw 31 = .ok (.lushr, 1) := by decide +kernel
theorem dX11_draw_32 : decode cX11_draw 32 = .ok (.iload_n 1, 1) := by decide +kernel
theorem dX11_draw_33 : decode cX11_draw 33 = .ok (.i2l, 1) := by decide +kernel
theorem dX11_draw_34 : decode cX11_draw 34 = .ok (.lrem, 1) := by decide +kernel
theorem dX11_draw_35 : decode cX11_draw 35 = .ok (.l2i, 1) := by decide +kernel
theorem dX11_draw_36 : decode cX11_draw 36 = .ok (.ireturn, 1) := by decide +kernel
theorem dX11_games_0 : decode cX11_games 0 = .ok (.aload_n 0, 1) := by decide +kernel
theorem dX11_games_1 : decode cX11_games 1 = .ok (.invokevirtual 155, 3) := by decide +kernel
theorem dX11_games_4 : decode cX11_games 4 = .ok (.ifCond .ne 24, 3) := by decide +kernel
theorem dX11_games_7 : decode cX11_games 7 = .ok (.aload_n 0, 1) := by decide +kernel
theorem dX11_games_8 : decode cX11_games 8 = .ok (.getfield 33, 3) := by decide +kernel
theorem dX11_games_11 : decode cX11_games 11 = .ok (.getfield 193, 3) := by decide +kernel
theorem dX11_games_14 : decode cX11_games 14 = .ok (.ifCond .ne 14, 3) := by decide +kernel
theorem dX11_games_17 : decode cX11_games 17 = .ok (.iload_n 1, 1) := by decide +kernel
theorem dX11_games_18 : decode cX11_games 18 = .ok (.iconst 1, 1) := by decide +kernel
theorem dX11_games_19 : decode cX11_games 19 = .ok (.if_icmp .lt 9, 3) := by decide +kernel
theorem dX11_games_22 : decode cX11_games 22 = .ok (.iload_n 1, 1) := by decide +kernel
theorem dX11_games_23 : decode cX11_games 23 = .ok (.bipush 30, 2) := by decide +kernel
theorem dX11_games_25 : decode cX11_games 25 = .ok (.if_icmp .le 5, 3) := by decide +kernel
theorem dX11_games_28 : decode cX11_games 28 = .ok (.iconst (-1), 1) := by decide +kernel
theorem dX11_games_29 : decode cX11_games 29 = .ok (.ireturn, 1) := by decide +kernel
theorem dX11_games_30 : decode cX11_games 30 = .ok (.aload_n 0, 1) := by decide +kernel
theorem dX11_games_31 : decode cX11_games 31 = .ok (.lload_n 2, 1) := by decide +kernel
theorem dX11_games_32 : decode cX11_games 32 = .ok (.putfield 234, 3) := by decide +kernel
theorem dX11_games_35 : decode cX11_games 35 = .ok (.iconst 0, 1) := by decide +kernel
theorem dX11_games_36 : decode cX11_games 36 = .ok (.istore 4, 2) := by decide +kernel
theorem dX11_games_38 : decode cX11_games 38 = .ok (.iload 4, 2) := by decide +kernel
theorem dX11_games_40 : decode cX11_games 40 = .ok (.iload_n 1, 1) := by decide +kernel
theorem dX11_games_41 : decode cX11_games 41 = .ok (.if_icmp .ge 23, 3) := by decide +kernel
theorem dX11_games_44 : decode cX11_games 44 = .ok (.aload_n 0, 1) := by decide +kernel
theorem dX11_games_45 : decode cX11_games 45 = .ok (.getfield 33, 3) := by decide +kernel
theorem dX11_games_48 : decode cX11_games 48 = .ok (.getfield 193, 3) := by decide +kernel
theorem dX11_games_51 : decode cX11_games 51 = .ok (.ifCond .ne 13, 3) := by decide +kernel
theorem dX11_games_54 : decode cX11_games 54 = .ok (.aload_n 0, 1) := by decide +kernel
theorem dX11_games_55 : decode cX11_games 55 = .ok (.invokevirtual 238, 3) := by decide +kernel
theorem dX11_games_58 : decode cX11_games 58 = .ok (.iinc 4 1, 3) := by decide +kernel
theorem dX11_games_61 : decode cX11_games 61 = .ok (.goto (-23), 3) := by decide +kernel
theorem dX11_games_64 : decode cX11_games 64 = .ok (.aload_n 0, 1) := by decide +kernel
theorem dX11_games_65 : decode cX11_games 65 = .ok (.getfield 33, 3) := by decide +kernel
theorem dX11_games_68 : decode cX11_games 68 = .ok (.getfield 177, 3) := by decide +kernel
theorem dX11_games_71 : decode cX11_games 71 = .ok (.ireturn, 1) := by decide +kernel
theorem dX11_grow_0 : decode cX11_grow 0 = .ok (.aload_n 0, 1) := by decide +kernel
theorem dX11_grow_1 : decode cX11_grow 1 = .ok (.iconst 0, 1) := by decide +kernel
theorem dX11_grow_2 : decode cX11_grow 2 = .ok (.iload_n 1, 1) := by decide +kernel
theorem dX11_grow_3 : decode cX11_grow 3 = .ok (.iconst 0, 1) := by decide +kernel
theorem dX11_grow_4 : decode cX11_grow 4 = .ok (.iconst 0, 1) := by decide +kernel
theorem dX11_grow_5 : decode cX11_grow 5 = .ok (.invokevirtual 190, 3) := by decide +kernel
theorem dX11_grow_8 : decode cX11_grow 8 = .ok (.ifCond .ne 5, 3) := by decide +kernel
theorem dX11_grow_11 : decode cX11_grow 11 = .ok (.iconst (-1), 1) := by decide +kernel
theorem dX11_grow_12 : decode cX11_grow 12 = .ok (.ireturn, 1) := by decide +kernel
theorem dX11_grow_13 : decode cX11_grow 13 = .ok (.aload_n 0, 1) := by decide +kernel
theorem dX11_grow_14 : decode cX11_grow 14 = .ok (.getfield 33, 3) := by decide +kernel
theorem dX11_grow_17 : decode cX11_grow 17 = .ok (.getfield 193, 3) := by decide +kernel
theorem dX11_grow_20 : decode cX11_grow 20 = .ok (.ifCond .eq 7, 3) := by decide +kernel
theorem dX11_grow_23 : decode cX11_grow 23 = .ok (.iconst 1, 1) := by decide +kernel
theorem dX11_grow_24 : decode cX11_grow 24 = .ok (.goto 4, 3) := by decide +kernel
theorem dX11_grow_27 : decode cX11_grow 27 = .ok (.iconst 0, 1) := by decide +kernel
theorem dX11_grow_28 : decode cX11_grow 28 = .ok (.ireturn, 1) := by decide +kernel
theorem dX11_log_0 : decode cX11_log 0 = .ok (.iload_n 1, 1) := by decide +kernel
theorem dX11_log_1 : decode cX11_log 1 = .ok (.ifCond .lt 23, 3) := by decide +kernel
theorem dX11_log_4 : decode cX11_log 4 = .ok (.iload_n 1, 1) := by decide +kernel
theorem dX11_log_5 : decode cX11_log 5 = .ok (.aload_n 0, 1) := by decide +kernel
theorem dX11_log_6 : decode cX11_log 6 = .ok (.getfield 40, 3) := by decide +kernel
theorem dX11_log_9 : decode cX11_log 9 = .ok (.invokevirtual 268, 3) := by decide +kernel
theorem dX11_log_12 : decode cX11_log 12 = .ok (.if_icmp .ge 12, 3) := by decide +kernel
theorem dX11_log_15 : decode cX11_log 15 = .ok (.iload_n 2, 1) := by decide +kernel
theorem dX11_log_16 : decode cX11_log 16 = .ok (.ifCond .lt 8, 3) := by decide +kernel
theorem dX11_log_19 : decode cX11_log 19 = .ok (.iload_n 2, 1) := by decide +kernel
theorem dX11_log_20 : decode cX11_log 20 = .ok (.iconst 3, 1) := by decide +kernel
theorem dX11_log_21 : decode cX11_log 21 = .ok (.if_icmp .le 7, 3) := by decide +kernel
theorem dX11_log_24 : decode cX11_log 24 = .ok (.ldc_w 271, 3) := by decide +kernel
theorem dX11_log_27 : decode cX11_log 27 = .ok (.ireturn, 1) := by decide +kernel
theorem dX11_log_28 : decode cX11_log 28 = .ok (.aload_n 0, 1) := by decide +kernel
theorem dX11_log_29 : decode cX11_log 29 = .ok (.getfield 40, 3) := by decide +kernel
theorem dX11_log_32 : decode cX11_log 32 = .ok (.iload_n 1, 1) := by decide +kernel
theorem dX11_log_33 : decode cX11_log 33 = .ok (.invokevirtual 272, 3) := by decide +kernel
theorem dX11_log_36 : decode cX11_log 36 = .ok (.iload_n 2, 1) := by decide +kernel
theorem dX11_log_37 : decode cX11_log 37 = .ok (.invokestatic 275, 3) := by decide +kernel
theorem dX11_log_40 : decode cX11_log 40 = .ok (.ireturn, 1) := by decide +kernel
theorem dX11_mole_0 : decode cX11_mole 0 = .ok (.aload_n 0, 1) := by decide +kernel
theorem dX11_mole_1 : decode cX11_mole 1 = .ok (.iconst 2, 1) := by decide +kernel
theorem dX11_mole_2 : decode cX11_mole 2 = .ok (.iload_n 1, 1) := by decide +kernel
theorem dX11_mole_3 : decode cX11_mole 3 = .ok (.iconst 0, 1) := by decide +kernel
theorem dX11_mole_4 : decode cX11_mole 4 = .ok (.iconst 0, 1) := by decide +kernel
theorem dX11_mole_5 : decode cX11_mole 5 = .ok (.invokevirtual 190, 3) := by decide +kernel
theorem dX11_mole_8 : decode cX11_mole 8 = .ok (.ifCond .eq 16, 3) := by decide +kernel
theorem dX11_mole_11 : decode cX11_mole 11 = .ok (.aload_n 0, 1) := by decide +kernel
theorem dX11_mole_12 : decode cX11_mole 12 = .ok (.getfield 33, 3) := by decide +kernel
theorem dX11_mole_15 : decode cX11_mole 15 = .ok (.getfield 169, 3) := by decide +kernel
theorem dX11_mole_18 : decode cX11_mole 18 = .ok (.invokestatic 206, 3) := by decide +kernel
theorem dX11_mole_21 : decode cX11_mole 21 = .ok (.goto 4, 3) := by decide +kernel
theorem dX11_mole_24 : decode cX11_mole 24 = .ok (.iconst (-1), 1) := by decide +kernel
theorem dX11_mole_25 : decode cX11_mole 25 = .ok (.ireturn, 1) := by decide +kernel
theorem dX11_playNight_0 : decode cX11_playNight 0 = .ok (.aload_n 0, 1) := by decide +kernel
theorem dX11_playNight_1 : decode cX11_playNight 1 = .ok (.getfield 33, 3) := by decide +kernel
theorem dX11_playNight_4 : decode cX11_playNight 4 = .ok (.getfield 197, 3) := by decide +kernel
theorem dX11_playNight_7 : decode cX11_playNight 7 = .ok (.iconst 1, 1) := by decide +kernel
theorem dX11_playNight_8 : decode cX11_playNight 8 = .ok (.if_icmp .ne 12, 3) := by decide +kernel
theorem dX11_playNight_11 : decode cX11_playNight 11 = .ok (.aload_n 0, 1) := by decide +kernel
theorem dX11_playNight_12 : decode cX11_playNight 12 = .ok (.iconst 3, 1) := by decide +kernel
theorem dX11_playNight_13 : decode cX11_playNight 13 = .ok (.iconst (-1), 1) := by decide +kernel
theorem dX11_playNight_14 : decode cX11_playNight 14 = .ok (.iconst 0, 1) := by decide +kernel
theorem dX11_playNight_15 : decode cX11_playNight 15 = .ok (.iconst 0, 1) := by decide +kernel
theorem dX11_playNight_16 : decode cX11_playNight 16 = .ok (.invokevirtual 190, 3) := by decide +kernel
theorem dX11_playNight_19 : decode cX11_playNight 19 = .ok (.pop, 1) := by decide +kernel
theorem dX11_playNight_20 : decode cX11_playNight 20 = .ok (.aload_n 0, 1) := by decide +kernel
theorem dX11_playNight_21 : decode cX11_playNight 21 = .ok (.bipush 100, 2) := by decide +kernel
theorem dX11_playNight_23 : decode cX11_playNight 23 = .ok (.invokevirtual 241, 3) := by decide +kernel
theorem dX11_playNight_26 : decode cX11_playNight 26 = .ok (.aload_n 0, 1) := by decide +kernel
theorem dX11_playNight_27 : decode cX11_playNight 27 = .ok (.getfield 187, 3) := by decide +kernel
theorem dX11_playNight_30 : decode cX11_playNight 30 = .ok (.if_icmp .ge 7, 3) := by decide +kernel
theorem dX11_playNight_33 : decode cX11_playNight 33 = .ok (.iconst 1, 1) := by decide +kernel
theorem dX11_playNight_34 : decode cX11_playNight 34 = .ok (.goto 4, 3) := by decide +kernel
theorem dX11_playNight_37 : decode cX11_playNight 37 = .ok (.iconst 0, 1) := by decide +kernel
theorem dX11_playNight_38 : decode cX11_playNight 38 = .ok (.istore_n 1, 1) := by decide +kernel
theorem dX11_playNight_39 : decode cX11_playNight 39 = .ok (.aload_n 0, 1) := by decide +kernel
theorem dX11_playNight_40 : decode cX11_playNight 40 = .ok (.getfield 59, 3) := by decide +kernel
theorem dX11_playNight_43 : decode cX11_playNight 43 = .ok (.aload_n 0, 1) := by decide +kernel
theorem dX11_playNight_44 : decode cX11_playNight 44 = .ok (.getfield 33, 3) := by decide +kernel
theorem dX11_playNight_47 : decode cX11_playNight 47 = .ok (.getfield 169, 3) := by decide +kernel
theorem dX11_playNight_50 : decode cX11_playNight 50 = .ok (.aload_n 0, 1) := by decide +kernel
theorem dX11_playNight_51 : decode cX11_playNight 51 = .ok (.getfield 33, 3) := by decide +kernel
theorem dX11_playNight_54 : decode cX11_playNight 54 = .ok (.getfield 174, 3) := by decide +kernel
theorem dX11_playNight_57 : decode cX11_playNight 57 = .ok (.aload_n 0, 1) := by decide +kernel
theorem dX11_playNight_58 : decode cX11_playNight 58 = .ok (.getfield 33, 3) := by decide +kernel
theorem dX11_playNight_61 : decode cX11_playNight 61 = .ok (.getfield 177, 3) := by decide +kernel
theorem dX11_playNight_64 : decode cX11_playNight 64 = .ok (.invokevirtual 244, 3) := by decide +kernel
theorem dX11_playNight_67 : decode cX11_playNight 67 = .ok (.istore_n 2, 1) := by decide +kernel
theorem dX11_playNight_68 : decode cX11_playNight 68 = .ok (.iload_n 1, 1) := by decide +kernel
theorem dX11_playNight_69 : decode cX11_playNight 69 = .ok (.ifCond .ne 7, 3) := by decide +kernel
theorem dX11_playNight_72 : decode cX11_playNight 72 = .ok (.iload_n 2, 1) := by decide +kernel
theorem dX11_playNight_73 : decode cX11_playNight 73 = .ok (.ifCond .ne 15, 3) := by decide +kernel
theorem dX11_playNight_76 : decode cX11_playNight 76 = .ok (.aload_n 0, 1) := by decide +kernel
theorem dX11_playNight_77 : decode cX11_playNight 77 = .ok (.iconst 3, 1) := by decide +kernel
theorem dX11_playNight_78 : decode cX11_playNight 78 = .ok (.iconst (-1), 1) := by decide +kernel
theorem dX11_playNight_79 : decode cX11_playNight 79 = .ok (.iconst 0, 1) := by decide +kernel
theorem dX11_playNight_80 : decode cX11_playNight 80 = .ok (.iconst 0, 1) := by decide +kernel
theorem dX11_playNight_81 : decode cX11_playNight 81 = .ok (.invokevirtual 190, 3) := by decide +kernel
theorem dX11_playNight_84 : decode cX11_playNight 84 = .ok (.pop, 1) := by decide +kernel
theorem dX11_playNight_85 : decode cX11_playNight 85 = .ok (.goto 23, 3) := by decide +kernel
theorem dX11_playNight_88 : decode cX11_playNight 88 = .ok (.aload_n 0, 1) := by decide +kernel
theorem dX11_playNight_89 : decode cX11_playNight 89 = .ok (.iconst 0, 1) := by decide +kernel
theorem dX11_playNight_90 : decode cX11_playNight 90 = .ok (.iload_n 2, 1) := by decide +kernel
theorem dX11_playNight_91 : decode cX11_playNight 91 = .ok (.aload_n 0, 1) := by decide +kernel
theorem dX11_playNight_92 : decode cX11_playNight 92 = .ok (.iload_n 2, 1) := by decide +kernel
theorem dX11_playNight_93 : decode cX11_playNight 93 = .ok (.invokestatic 206, 3) := by decide +kernel
theorem dX11_playNight_96 : decode cX11_playNight 96 = .ok (.invokevirtual 241, 3) := by decide +kernel
theorem dX11_playNight_99 : decode cX11_playNight 99 = .ok (.invokestatic 248, 3) := by decide +kernel
theorem dX11_playNight_102 : decode cX11_playNight 102 = .ok (.iconst 0, 1) := by decide +kernel
theorem dX11_playNight_103 : decode cX11_playNight 103 = .ok (.iconst 0, 1) := by decide +kernel
theorem dX11_playNight_104 : decode cX11_playNight 104 = .ok (.invokevirtual 190, 3) := by decide +kernel
theorem dX11_playNight_107 : decode cX11_playNight 107 = .ok (.pop, 1) := by decide +kernel
theorem dX11_playNight_108 : decode cX11_playNight 108 = .ok (.aload_n 0, 1) := by decide +kernel
theorem dX11_playNight_109 : decode cX11_playNight 109 = .ok (.getfield 33, 3) := by decide +kernel
theorem dX11_playNight_112 : decode cX11_playNight 112 = .ok (.getfield 193, 3) := by decide +kernel
theorem dX11_playNight_115 : decode cX11_playNight 115 = .ok (.ifCond .eq 4, 3) := by decide +kernel
theorem dX11_playNight_118 : decode cX11_playNight 118 = .ok (.return_, 1) := by decide +kernel
theorem dX11_playNight_119 : decode cX11_playNight 119 = .ok (.aload_n 0, 1) := by decide +kernel
theorem dX11_playNight_120 : decode cX11_playNight 120 = .ok (.getfield 75, 3) := by decide +kernel
theorem dX11_playNight_123 : decode cX11_playNight 123 = .ok (.aload_n 0, 1) := by decide +kernel
theorem dX11_playNight_124 : decode cX11_playNight 124 = .ok (.getfield 33, 3) := by decide +kernel
theorem dX11_playNight_127 : decode cX11_playNight 127 = .ok (.invokevirtual 251, 3) := by decide +kernel
theorem dX11_playNight_130 : decode cX11_playNight 130 = .ok (.ifCond .eq 35, 3) := by decide +kernel
theorem dX11_playNight_133 : decode cX11_playNight 133 = .ok (.aload_n 0, 1) := by decide +kernel
theorem dX11_playNight_134 : decode cX11_playNight 134 = .ok (.getfield 75, 3) := by decide +kernel
theorem dX11_playNight_137 : decode cX11_playNight 137 = .ok (.getfield 255, 3) := by decide +kernel
theorem dX11_playNight_140 : decode cX11_playNight 140 = .ok (.istore_n 3, 1) := by decide +kernel
theorem dX11_playNight_141 : decode cX11_playNight 141 = .ok (.aload_n 0, 1) := by decide +kernel
theorem dX11_playNight_142 : decode cX11_playNight 142 = .ok (.iconst 1, 1) := by decide +kernel
theorem dX11_playNight_143 : decode cX11_playNight 143 = .ok (.iload_n 3, 1) := by decide +kernel
theorem dX11_playNight_144 : decode cX11_playNight 144 = .ok (.bipush 100, 2) := by decide +kernel
theorem dX11_playNight_146 : decode cX11_playNight 146 = .ok (.idiv, 1) := by decide +kernel
theorem dX11_playNight_147 : decode cX11_playNight 147 = .ok (.iload_n 3, 1) := by decide +kernel
theorem dX11_playNight_148 : decode cX11_playNight 148 = .ok (.bipush 10, 2) := by decide +kernel
theorem dX11_playNight_150 : decode cX11_playNight 150 = .ok (.idiv, 1) := by decide +kernel
theorem dX11_playNight_151 : decode cX11_playNight 151 = .ok (.bipush 10, 2) := by decide +kernel
theorem dX11_playNight_153 : decode cX11_playNight 153 = .ok (.irem, 1) := by decide +kernel
theorem dX11_playNight_154 : decode cX11_playNight 154 = .ok (.iload_n 3, 1) := by decide +kernel
theorem dX11_playNight_155 : decode cX11_playNight 155 = .ok (.bipush 10, 2) := by decide +kernel
theorem dX11_playNight_157 : decode cX11_playNight 157 = .ok (.irem, 1) := by decide +kernel
theorem dX11_playNight_158 : decode cX11_playNight 158 = .ok (.invokevirtual 190, 3) := by decide +kernel
theorem dX11_playNight_161 : decode cX11_playNight 161 = .ok (.pop, 1) := by decide +kernel
theorem dX11_playNight_162 : decode cX11_playNight 162 = .ok (.goto 12, 3) := by decide +kernel
theorem dX11_playNight_165 : decode cX11_playNight 165 = .ok (.aload_n 0, 1) := by decide +kernel
theorem dX11_playNight_166 : decode cX11_playNight 166 = .ok (.iconst 3, 1) := by decide +kernel
theorem dX11_playNight_167 : decode cX11_playNight 167 = .ok (.iconst (-1), 1) := by decide +kernel
theorem dX11_playNight_168 : decode cX11_playNight 168 = .ok (.iconst 0, 1) := by decide +kernel
theorem dX11_playNight_169 : decode cX11_playNight 169 = .ok (.iconst 0, 1) := by decide +kernel
theorem dX11_playNight_170 : decode cX11_playNight 170 = .ok (.invokevirtual 190, 3) := by decide +kernel
theorem dX11_playNight_173 : decode cX11_playNight 173 = .ok (.pop, 1) := by decide +kernel
theorem dX11_playNight_174 : decode cX11_playNight 174 = .ok (.return_, 1) := by decide +kernel
theorem dX11_rule_0 : decode cX11_rule 0 = .ok (.aload_n 0, 1) := by decide +kernel
theorem dX11_rule_1 : decode cX11_rule 1 = .ok (.invokevirtual 155, 3) := by decide +kernel
theorem dX11_rule_4 : decode cX11_rule 4 = .ok (.ifCond .ne 13, 3) := by decide +kernel
theorem dX11_rule_7 : decode cX11_rule 7 = .ok (.iload_n 1, 1) := by decide +kernel
theorem dX11_rule_8 : decode cX11_rule 8 = .ok (.ifCond .lt 9, 3) := by decide +kernel
theorem dX11_rule_11 : decode cX11_rule 11 = .ok (.iload_n 1, 1) := by decide +kernel
theorem dX11_rule_12 : decode cX11_rule 12 = .ok (.bipush 6, 2) := by decide +kernel
theorem dX11_rule_14 : decode cX11_rule 14 = .ok (.if_icmp .lt 5, 3) := by decide +kernel
theorem dX11_rule_17 : decode cX11_rule 17 = .ok (.iconst (-1), 1) := by decide +kernel
theorem dX11_rule_18 : decode cX11_rule 18 = .ok (.ireturn, 1) := by decide +kernel
theorem dX11_rule_19 : decode cX11_rule 19 = .ok (.aload_n 0, 1) := by decide +kernel
theorem dX11_rule_20 : decode cX11_rule 20 = .ok (.getfield 47, 3) := by decide +kernel
theorem dX11_rule_23 : decode cX11_rule 23 = .ok (.getfield 130, 3) := by decide +kernel
theorem dX11_rule_26 : decode cX11_rule 26 = .ok (.iload_n 1, 1) := by decide +kernel
theorem dX11_rule_27 : decode cX11_rule 27 = .ok (.iaload, 1) := by decide +kernel
theorem dX11_rule_28 : decode cX11_rule 28 = .ok (.ireturn, 1) := by decide +kernel
theorem dX11_sit_0 : decode cX11_sit 0 = .ok (.aload_n 0, 1) := by decide +kernel
theorem dX11_sit_1 : decode cX11_sit 1 = .ok (.getfield 33, 3) := by decide +kernel
theorem dX11_sit_4 : decode cX11_sit 4 = .ok (.getfield 197, 3) := by decide +kernel
theorem dX11_sit_7 : decode cX11_sit 7 = .ok (.ifCond .ne 7, 3) := by decide +kernel
theorem dX11_sit_10 : decode cX11_sit 10 = .ok (.iconst 1, 1) := by decide +kernel
theorem dX11_sit_11 : decode cX11_sit 11 = .ok (.goto 4, 3) := by decide +kernel
theorem dX11_sit_14 : decode cX11_sit 14 = .ok (.iconst 0, 1) := by decide +kernel
theorem dX11_sit_15 : decode cX11_sit 15 = .ok (.istore_n 1, 1) := by decide +kernel
theorem dX11_sit_16 : decode cX11_sit 16 = .ok (.aload_n 0, 1) := by decide +kernel
theorem dX11_sit_17 : decode cX11_sit 17 = .ok (.iconst 3, 1) := by decide +kernel
theorem dX11_sit_18 : decode cX11_sit 18 = .ok (.iconst (-1), 1) := by decide +kernel
theorem dX11_sit_19 : decode cX11_sit 19 = .ok (.iconst 0, 1) := by decide +kernel
theorem dX11_sit_20 : decode cX11_sit 20 = .ok (.iconst 0, 1) := by decide +kernel
theorem dX11_sit_21 : decode cX11_sit 21 = .ok (.invokevirtual 190, 3) := by decide +kernel
theorem dX11_sit_24 : decode cX11_sit 24 = .ok (.ifCond .ne 5, 3) := by decide +kernel
theorem dX11_sit_27 : decode cX11_sit 27 = .ok (.iconst (-1), 1) := by decide +kernel
theorem dX11_sit_28 : decode cX11_sit 28 = .ok (.ireturn, 1) := by decide +kernel
theorem dX11_sit_29 : decode cX11_sit 29 = .ok (.iload_n 1, 1) := by decide +kernel
theorem dX11_sit_30 : decode cX11_sit 30 = .ok (.ifCond .eq 13, 3) := by decide +kernel
theorem dX11_sit_33 : decode cX11_sit 33 = .ok (.aload_n 0, 1) := by decide +kernel
theorem dX11_sit_34 : decode cX11_sit 34 = .ok (.getfield 33, 3) := by decide +kernel
theorem dX11_sit_37 : decode cX11_sit 37 = .ok (.getfield 200, 3) := by decide +kernel
theorem dX11_sit_40 : decode cX11_sit 40 = .ok (.goto 10, 3) := by decide +kernel
theorem dX11_sit_43 : decode cX11_sit 43 = .ok (.aload_n 0, 1) := by decide +kernel
theorem dX11_sit_44 : decode cX11_sit 44 = .ok (.getfield 33, 3) := by decide +kernel
theorem dX11_sit_47 : decode cX11_sit 47 = .ok (.getfield 203, 3) := by decide +kernel
theorem dX11_sit_50 : decode cX11_sit 50 = .ok (.ireturn, 1) := by decide +kernel
theorem dX11_undo_0 : decode cX11_undo 0 = .ok (.aload_n 0, 1) := by decide +kernel
theorem dX11_undo_1 : decode cX11_undo 1 = .ok (.getfield 40, 3) := by decide +kernel
theorem dX11_undo_4 : decode cX11_undo 4 = .ok (.aload_n 0, 1) := by decide +kernel
theorem dX11_undo_5 : decode cX11_undo 5 = .ok (.getfield 33, 3) := by decide +kernel
theorem dX11_undo_8 : decode cX11_undo 8 = .ok (.invokevirtual 262, 3) := by decide +kernel
theorem dX11_undo_11 : decode cX11_undo 11 = .ok (.ifCond .eq 13, 3) := by decide +kernel
theorem dX11_undo_14 : decode cX11_undo 14 = .ok (.aload_n 0, 1) := by decide +kernel
theorem dX11_undo_15 : decode cX11_undo 15 = .ok (.getfield 40, 3) := by decide +kernel
theorem dX11_undo_18 : decode cX11_undo 18 = .ok (.getfield 265, 3) := by decide +kernel
theorem dX11_undo_21 : decode cX11_undo 21 = .ok (.goto 4, 3) := by decide +kernel
theorem dX11_undo_24 : decode cX11_undo 24 = .ok (.iconst (-1), 1) := by decide +kernel
theorem dX11_undo_25 : decode cX11_undo 25 = .ok (.ireturn, 1) := by decide +kernel
theorem wl_6_51 : (.constantLong RX0 92 (1000000000) : Cond) ∈ sg_tbl := tb_6 _ (List.mem_of_getElem? (i := 51) (by decide +kernel)) (by decide +kernel)
theorem wl_1_125 : (.fieldLink RX0 89 "LawnAhead$State" "turn" "I" : Cond) ∈ sg_tbl := tb_1 _ (List.mem_of_getElem? (i := 125) (by decide +kernel)) (by decide +kernel)
theorem wl_4_74 : (.methodLink RX11 155 yX11_noLawn : Cond) ∈ sg_tbl := tb_4 _ (List.mem_of_getElem? (i := 74) (by decide +kernel)) (by decide +kernel)
theorem wl_1_211 : (.fieldLink RX11 130 "LawnAhead$Ground" "rules" "[I" : Cond) ∈ sg_tbl := tb_1 _ (List.mem_of_getElem? (i := 211) (by decide +kernel)) (by decide +kernel)
theorem wl_2_201 : (.fieldLink RX11 68 "LawnAhead" "play" "LLawnAhead$Play;" : Cond) ∈ sg_tbl := tb_2 _ (List.mem_of_getElem? (i := 201) (by decide +kernel)) (by decide +kernel)
theorem wl_4_94 : (.methodLink RX11 211 yX7_allows : Cond) ∈ sg_tbl := tb_4 _ (List.mem_of_getElem? (i := 94) (by decide +kernel)) (by decide +kernel)
theorem wl_2_199 : (.fieldLink RX11 40 "LawnAhead" "history" "LLawnAhead$History;" : Cond) ∈ sg_tbl := tb_2 _ (List.mem_of_getElem? (i := 199) (by decide +kernel)) (by decide +kernel)
theorem wl_4_159 : (.methodLink RX11 219 yX3_packed : Cond) ∈ sg_tbl := tb_4 _ (List.mem_of_getElem? (i := 159) (by decide +kernel)) (by decide +kernel)
theorem wl_4_160 : (.methodLink RX11 223 yX5_keep : Cond) ∈ sg_tbl := tb_4 _ (List.mem_of_getElem? (i := 160) (by decide +kernel)) (by decide +kernel)
theorem wl_4_169 : (.methodLink RX11 227 yX7_apply : Cond) ∈ sg_tbl := tb_4 _ (List.mem_of_getElem? (i := 169) (by decide +kernel)) (by decide +kernel)
theorem wl_1_141 : (.fieldLink RX11 193 "LawnAhead$State" "won" "Z" : Cond) ∈ sg_tbl := tb_1 _ (List.mem_of_getElem? (i := 141) (by decide +kernel)) (by decide +kernel)
theorem wl_1_138 : (.fieldLink RX11 231 "LawnAhead$State" "meant" "I" : Cond) ∈ sg_tbl := tb_1 _ (List.mem_of_getElem? (i := 138) (by decide +kernel)) (by decide +kernel)
theorem wl_2_200 : (.fieldLink RX11 59 "LawnAhead" "sight" "LLawnAhead$Sight;" : Cond) ∈ sg_tbl := tb_2 _ (List.mem_of_getElem? (i := 200) (by decide +kernel)) (by decide +kernel)
theorem wl_1_130 : (.fieldLink RX11 177 "LawnAhead$State" "day" "I" : Cond) ∈ sg_tbl := tb_1 _ (List.mem_of_getElem? (i := 130) (by decide +kernel)) (by decide +kernel)
theorem wl_4_150 : (.methodLink RX11 215 yX8_threatened : Cond) ∈ sg_tbl := tb_4 _ (List.mem_of_getElem? (i := 150) (by decide +kernel)) (by decide +kernel)
theorem wl_4_90 : (.methodLink RX11 190 yX11_act : Cond) ∈ sg_tbl := tb_4 _ (List.mem_of_getElem? (i := 90) (by decide +kernel)) (by decide +kernel)
theorem wl_1_126 : (.fieldLink RX11 197 "LawnAhead$State" "turn" "I" : Cond) ∈ sg_tbl := tb_1 _ (List.mem_of_getElem? (i := 126) (by decide +kernel)) (by decide +kernel)
theorem wl_1_136 : (.fieldLink RX11 203 "LawnAhead$State" "houseThistles" "I" : Cond) ∈ sg_tbl := tb_1 _ (List.mem_of_getElem? (i := 136) (by decide +kernel)) (by decide +kernel)
theorem wl_1_133 : (.fieldLink RX11 200 "LawnAhead$State" "lawnThistles" "I" : Cond) ∈ sg_tbl := tb_1 _ (List.mem_of_getElem? (i := 133) (by decide +kernel)) (by decide +kernel)
theorem wl_4_193 : (.methodLink RX11 206 yJ6_bitCount_0f7a4 : Cond) ∈ sg_tbl := tb_4 _ (List.mem_of_getElem? (i := 193) (by decide +kernel)) (by decide +kernel)
theorem wl_4_206 : (.constantLong RX11 258 (6364136223846793005) : Cond) ∈ sg_tbl := tb_4 _ (List.mem_of_getElem? (i := 206) (by decide +kernel)) (by decide +kernel)
theorem wl_4_207 : (.constantLong RX11 260 (1442695040888963407) : Cond) ∈ sg_tbl := tb_4 _ (List.mem_of_getElem? (i := 207) (by decide +kernel)) (by decide +kernel)
theorem wl_2_211 : (.fieldLink RX11 234 "LawnAhead" "drawn" "J" : Cond) ∈ sg_tbl := tb_2 _ (List.mem_of_getElem? (i := 211) (by decide +kernel)) (by decide +kernel)
theorem wl_4_202 : (.methodLink RX11 241 yX11_draw : Cond) ∈ sg_tbl := tb_4 _ (List.mem_of_getElem? (i := 202) (by decide +kernel)) (by decide +kernel)
theorem wl_2_210 : (.fieldLink RX11 187 "LawnAhead" "dryness" "I" : Cond) ∈ sg_tbl := tb_2 _ (List.mem_of_getElem? (i := 210) (by decide +kernel)) (by decide +kernel)
theorem wl_4_208 : (.methodLink RX11 244 yX8_growing : Cond) ∈ sg_tbl := tb_4 _ (List.mem_of_getElem? (i := 208) (by decide +kernel)) (by decide +kernel)
theorem wl_2_202 : (.fieldLink RX11 75 "LawnAhead" "ahead" "LLawnAhead$Ahead;" : Cond) ∈ sg_tbl := tb_2 _ (List.mem_of_getElem? (i := 202) (by decide +kernel)) (by decide +kernel)
theorem wl_4_215 : (.methodLink RX11 251 yX0_advise : Cond) ∈ sg_tbl := tb_4 _ (List.mem_of_getElem? (i := 215) (by decide +kernel)) (by decide +kernel)
theorem wl_2_124 : (.fieldLink RX11 255 "LawnAhead$Ahead" "bestCode" "I" : Cond) ∈ sg_tbl := tb_2 _ (List.mem_of_getElem? (i := 124) (by decide +kernel)) (by decide +kernel)
theorem wl_4_212 : (.methodLink RX11 248 yX11_nthCell : Cond) ∈ sg_tbl := tb_4 _ (List.mem_of_getElem? (i := 212) (by decide +kernel)) (by decide +kernel)
theorem wl_4_198 : (.methodLink RX11 238 yX11_playNight : Cond) ∈ sg_tbl := tb_4 _ (List.mem_of_getElem? (i := 198) (by decide +kernel)) (by decide +kernel)
theorem wl_4_237 : (.methodLink RX11 262 yX5_takeBack : Cond) ∈ sg_tbl := tb_4 _ (List.mem_of_getElem? (i := 237) (by decide +kernel)) (by decide +kernel)
theorem wl_1_173 : (.fieldLink RX11 265 "LawnAhead$History" "undoable" "I" : Cond) ∈ sg_tbl := tb_1 _ (List.mem_of_getElem? (i := 173) (by decide +kernel)) (by decide +kernel)
theorem wl_5_9 : (.constant RX11 271 (-1000000) : Cond) ∈ sg_tbl := tb_5 _ (List.mem_of_getElem? (i := 9) (by decide +kernel)) (by decide +kernel)
theorem wl_5_5 : (.methodLink RX11 268 yX5_shown : Cond) ∈ sg_tbl := tb_5 _ (List.mem_of_getElem? (i := 5) (by decide +kernel)) (by decide +kernel)
theorem wl_5_10 : (.methodLink RX11 272 yX5_deed : Cond) ∈ sg_tbl := tb_5 _ (List.mem_of_getElem? (i := 10) (by decide +kernel)) (by decide +kernel)
theorem wl_5_14 : (.methodLink RX11 275 yX3_unpacked : Cond) ∈ sg_tbl := tb_5 _ (List.mem_of_getElem? (i := 14) (by decide +kernel)) (by decide +kernel)
theorem wl_6_50 : (.code yX0_oddsOf cX0_oddsOf 4 (some .long) : Cond) ∈ sg_tbl := tb_6 _ (List.mem_of_getElem? (i := 50) (by decide +kernel)) (by decide +kernel)
theorem wl_6_48 : (.instanceMethod yX0_oddsOf : Cond) ∈ sg_tbl := tb_6 _ (List.mem_of_getElem? (i := 48) (by decide +kernel)) (by decide +kernel)
theorem wl_6_49 : (.selects RX0 yX0_oddsOf yX0_oddsOf : Cond) ∈ sg_tbl := tb_6 _ (List.mem_of_getElem? (i := 49) (by decide +kernel)) (by decide +kernel)
theorem wl_4_73 : (.code yX11_rule cX11_rule 2 (some .int) : Cond) ∈ sg_tbl := tb_4 _ (List.mem_of_getElem? (i := 73) (by decide +kernel)) (by decide +kernel)
theorem wl_4_71 : (.instanceMethod yX11_rule : Cond) ∈ sg_tbl := tb_4 _ (List.mem_of_getElem? (i := 71) (by decide +kernel)) (by decide +kernel)
theorem wl_4_72 : (.selects RX11 yX11_rule yX11_rule : Cond) ∈ sg_tbl := tb_4 _ (List.mem_of_getElem? (i := 72) (by decide +kernel)) (by decide +kernel)
theorem wl_4_93 : (.code yX11_act cX11_act 6 (some .boolean) : Cond) ∈ sg_tbl := tb_4 _ (List.mem_of_getElem? (i := 93) (by decide +kernel)) (by decide +kernel)
theorem wl_4_92 : (.instanceMethod yX11_act : Cond) ∈ sg_tbl := tb_4 _ (List.mem_of_getElem? (i := 92) (by decide +kernel)) (by decide +kernel)
theorem wl_0_21 : (.selects RX11 yX11_act yX11_act : Cond) ∈ sg_tbl := tb_0 _ (List.mem_of_getElem? (i := 21) (by decide +kernel)) (by decide +kernel)
theorem wl_4_89 : (.code yX11_grow cX11_grow 2 (some .int) : Cond) ∈ sg_tbl := tb_4 _ (List.mem_of_getElem? (i := 89) (by decide +kernel)) (by decide +kernel)
theorem wl_4_87 : (.instanceMethod yX11_grow : Cond) ∈ sg_tbl := tb_4 _ (List.mem_of_getElem? (i := 87) (by decide +kernel)) (by decide +kernel)
theorem wl_4_88 : (.selects RX11 yX11_grow yX11_grow : Cond) ∈ sg_tbl := tb_4 _ (List.mem_of_getElem? (i := 88) (by decide +kernel)) (by decide +kernel)
theorem wl_4_184 : (.code yX11_cut cX11_cut 4 (some .int) : Cond) ∈ sg_tbl := tb_4 _ (List.mem_of_getElem? (i := 184) (by decide +kernel)) (by decide +kernel)
theorem wl_4_182 : (.instanceMethod yX11_cut : Cond) ∈ sg_tbl := tb_4 _ (List.mem_of_getElem? (i := 182) (by decide +kernel)) (by decide +kernel)
theorem wl_4_183 : (.selects RX11 yX11_cut yX11_cut : Cond) ∈ sg_tbl := tb_4 _ (List.mem_of_getElem? (i := 183) (by decide +kernel)) (by decide +kernel)
theorem wl_4_188 : (.code yX11_sit cX11_sit 2 (some .int) : Cond) ∈ sg_tbl := tb_4 _ (List.mem_of_getElem? (i := 188) (by decide +kernel)) (by decide +kernel)
theorem wl_4_186 : (.instanceMethod yX11_sit : Cond) ∈ sg_tbl := tb_4 _ (List.mem_of_getElem? (i := 186) (by decide +kernel)) (by decide +kernel)
theorem wl_4_187 : (.selects RX11 yX11_sit yX11_sit : Cond) ∈ sg_tbl := tb_4 _ (List.mem_of_getElem? (i := 187) (by decide +kernel)) (by decide +kernel)
theorem wl_4_192 : (.code yX11_mole cX11_mole 2 (some .int) : Cond) ∈ sg_tbl := tb_4 _ (List.mem_of_getElem? (i := 192) (by decide +kernel)) (by decide +kernel)
theorem wl_4_190 : (.instanceMethod yX11_mole : Cond) ∈ sg_tbl := tb_4 _ (List.mem_of_getElem? (i := 190) (by decide +kernel)) (by decide +kernel)
theorem wl_4_191 : (.selects RX11 yX11_mole yX11_mole : Cond) ∈ sg_tbl := tb_4 _ (List.mem_of_getElem? (i := 191) (by decide +kernel)) (by decide +kernel)
theorem wl_4_205 : (.code yX11_draw cX11_draw 2 (some .int) : Cond) ∈ sg_tbl := tb_4 _ (List.mem_of_getElem? (i := 205) (by decide +kernel)) (by decide +kernel)
theorem wl_4_204 : (.instanceMethod yX11_draw : Cond) ∈ sg_tbl := tb_4 _ (List.mem_of_getElem? (i := 204) (by decide +kernel)) (by decide +kernel)
theorem wl_0_26 : (.selects RX11 yX11_draw yX11_draw : Cond) ∈ sg_tbl := tb_0 _ (List.mem_of_getElem? (i := 26) (by decide +kernel)) (by decide +kernel)
theorem wl_4_201 : (.code yX11_playNight cX11_playNight 4 none : Cond) ∈ sg_tbl := tb_4 _ (List.mem_of_getElem? (i := 201) (by decide +kernel)) (by decide +kernel)
theorem wl_4_200 : (.instanceMethod yX11_playNight : Cond) ∈ sg_tbl := tb_4 _ (List.mem_of_getElem? (i := 200) (by decide +kernel)) (by decide +kernel)
theorem wl_0_25 : (.selects RX11 yX11_playNight yX11_playNight : Cond) ∈ sg_tbl := tb_0 _ (List.mem_of_getElem? (i := 25) (by decide +kernel)) (by decide +kernel)
theorem wl_4_197 : (.code yX11_games cX11_games 5 (some .int) : Cond) ∈ sg_tbl := tb_4 _ (List.mem_of_getElem? (i := 197) (by decide +kernel)) (by decide +kernel)
theorem wl_4_195 : (.instanceMethod yX11_games : Cond) ∈ sg_tbl := tb_4 _ (List.mem_of_getElem? (i := 195) (by decide +kernel)) (by decide +kernel)
theorem wl_4_196 : (.selects RX11 yX11_games yX11_games : Cond) ∈ sg_tbl := tb_4 _ (List.mem_of_getElem? (i := 196) (by decide +kernel)) (by decide +kernel)
theorem wl_4_236 : (.code yX11_undo cX11_undo 1 (some .int) : Cond) ∈ sg_tbl := tb_4 _ (List.mem_of_getElem? (i := 236) (by decide +kernel)) (by decide +kernel)
theorem wl_4_234 : (.instanceMethod yX11_undo : Cond) ∈ sg_tbl := tb_4 _ (List.mem_of_getElem? (i := 234) (by decide +kernel)) (by decide +kernel)
theorem wl_4_235 : (.selects RX11 yX11_undo yX11_undo : Cond) ∈ sg_tbl := tb_4 _ (List.mem_of_getElem? (i := 235) (by decide +kernel)) (by decide +kernel)
theorem wl_5_4 : (.code yX11_log cX11_log 3 (some .int) : Cond) ∈ sg_tbl := tb_5 _ (List.mem_of_getElem? (i := 4) (by decide +kernel)) (by decide +kernel)
theorem wl_5_2 : (.instanceMethod yX11_log : Cond) ∈ sg_tbl := tb_5 _ (List.mem_of_getElem? (i := 2) (by decide +kernel)) (by decide +kernel)
theorem wl_5_3 : (.selects RX11 yX11_log yX11_log : Cond) ∈ sg_tbl := tb_5 _ (List.mem_of_getElem? (i := 3) (by decide +kernel)) (by decide +kernel)
section
variable {p : Program} {l : Launch} {e : Env} {R : Room} {s : State} {m : MethodId} {args : Array Value} {below : List Frame} {meth : Method} {c : Code} {H : Heap} {locs : List Loc} {cells slots : Nat} {Q : State → Prop} {cc : ByteArray} {nL pc : Nat} {ls : Array Slot} {rest : List Value} {own : String} {D : va_G} {A : Nat → Prop} {tys : List (ClassId × FieldType)} {ad ks : List Nat} {P : sgPm} {H0 : Heap} {index : Nat} {base : Nat} {st0 : List Value} {a : Nat}
theorem gf_X11_15   (X : CallFix p m c cc nL s args sg_tbl own) (hK : va_K D vwCl tys s) (hG : sgG (KT P) D vwCl A tys ad ks H) (ha : isK ad ks 11 a) (hl : Cond.fieldLink own index "LawnAhead" "dryness" "I" ∈ sg_tbl) (hdg : decode cc pc = .ok (.getfield index, 3)) (kk : ∀ x : Int32, iv P.2.2.2.1 P.2.2.2.1 x → fld D H 11 a 15 (.int x) → W p l e R s m args below meth c H locs cells slots Q (F0 m (pc + 3) ls (.int x :: rest))) : W p l e R s m args below meth c H locs cells slots Q (F0 m pc ls (.ref a :: rest)) :=
  sg_get X hK hG ha (k := 11) (ci := 11) rfl (C := RX11) (T := TX11) (N := 17) rfl inL_X11 15 (by decide) rfl hl (fun _ h => h) hdg (fun v hv hf => by obtain ⟨x, rfl, hx⟩ := hv; exact kk x hx hf)
theorem gf_X11_16   (X : CallFix p m c cc nL s args sg_tbl own) (hK : va_K D vwCl tys s) (hG : sgG (KT P) D vwCl A tys ad ks H) (ha : isK ad ks 11 a) (hl : Cond.fieldLink own index "LawnAhead" "drawn" "J" ∈ sg_tbl) (hdg : decode cc pc = .ok (.getfield index, 3)) (kk : ∀ x : Int64, True → fld D H 11 a 16 (.long x) → W p l e R s m args below meth c H locs cells slots Q (F0 m (pc + 3) ls (.long x :: rest))) : W p l e R s m args below meth c H locs cells slots Q (F0 m pc ls (.ref a :: rest)) :=
  sg_get X hK hG ha (k := 11) (ci := 11) rfl (C := RX11) (T := TX11) (N := 17) rfl inL_X11 16 (by decide) rfl hl (fun _ h => h) hdg (fun v hv hf => by obtain ⟨x, rfl⟩ := hv; exact kk x trivial hf)
theorem gf_X11_4   (X : CallFix p m c cc nL s args sg_tbl own) (hK : va_K D vwCl tys s) (hG : sgG (KT P) D vwCl A tys ad ks H) (ha : isK ad ks 11 a) (hl : Cond.fieldLink own index "LawnAhead" "history" "LLawnAhead$History;" ∈ sg_tbl) (hdg : decode cc pc = .ok (.getfield index, 3)) (kk : ∀ x : Nat, isK ad ks 5 x → fld D H 11 a 4 (.ref x) → W p l e R s m args below meth c H locs cells slots Q (F0 m (pc + 3) ls (.ref x :: rest))) : W p l e R s m args below meth c H locs cells slots Q (F0 m pc ls (.ref a :: rest)) :=
  sg_get X hK hG ha (k := 11) (ci := 11) rfl (C := RX11) (T := TX11) (N := 17) rfl inL_X11 4 (by decide) rfl hl (fun _ h => h) hdg (fun v hv hf => by
    obtain ⟨h1, -⟩ | ⟨x, rfl, hx⟩ := hv
    · cases h1
    · exact kk x hx hf)
theorem gf_X11_5   (X : CallFix p m c cc nL s args sg_tbl own) (hK : va_K D vwCl tys s) (hG : sgG (KT P) D vwCl A tys ad ks H) (ha : isK ad ks 11 a) (hl : Cond.fieldLink own index "LawnAhead" "sight" "LLawnAhead$Sight;" ∈ sg_tbl) (hdg : decode cc pc = .ok (.getfield index, 3)) (kk : ∀ x : Nat, isK ad ks 8 x → fld D H 11 a 5 (.ref x) → W p l e R s m args below meth c H locs cells slots Q (F0 m (pc + 3) ls (.ref x :: rest))) : W p l e R s m args below meth c H locs cells slots Q (F0 m pc ls (.ref a :: rest)) :=
  sg_get X hK hG ha (k := 11) (ci := 11) rfl (C := RX11) (T := TX11) (N := 17) rfl inL_X11 5 (by decide) rfl hl (fun _ h => h) hdg (fun v hv hf => by
    obtain ⟨h1, -⟩ | ⟨x, rfl, hx⟩ := hv
    · cases h1
    · exact kk x hx hf)
theorem gf_X11_6   (X : CallFix p m c cc nL s args sg_tbl own) (hK : va_K D vwCl tys s) (hG : sgG (KT P) D vwCl A tys ad ks H) (ha : isK ad ks 11 a) (hl : Cond.fieldLink own index "LawnAhead" "play" "LLawnAhead$Play;" ∈ sg_tbl) (hdg : decode cc pc = .ok (.getfield index, 3)) (kk : ∀ x : Nat, isK ad ks 7 x → fld D H 11 a 6 (.ref x) → W p l e R s m args below meth c H locs cells slots Q (F0 m (pc + 3) ls (.ref x :: rest))) : W p l e R s m args below meth c H locs cells slots Q (F0 m pc ls (.ref a :: rest)) :=
  sg_get X hK hG ha (k := 11) (ci := 11) rfl (C := RX11) (T := TX11) (N := 17) rfl inL_X11 6 (by decide) rfl hl (fun _ h => h) hdg (fun v hv hf => by
    obtain ⟨h1, -⟩ | ⟨x, rfl, hx⟩ := hv
    · cases h1
    · exact kk x hx hf)
theorem gf_X11_7   (X : CallFix p m c cc nL s args sg_tbl own) (hK : va_K D vwCl tys s) (hG : sgG (KT P) D vwCl A tys ad ks H) (ha : isK ad ks 11 a) (hl : Cond.fieldLink own index "LawnAhead" "ahead" "LLawnAhead$Ahead;" ∈ sg_tbl) (hdg : decode cc pc = .ok (.getfield index, 3)) (kk : ∀ x : Nat, isK ad ks 0 x → fld D H 11 a 7 (.ref x) → W p l e R s m args below meth c H locs cells slots Q (F0 m (pc + 3) ls (.ref x :: rest))) : W p l e R s m args below meth c H locs cells slots Q (F0 m pc ls (.ref a :: rest)) :=
  sg_get X hK hG ha (k := 11) (ci := 11) rfl (C := RX11) (T := TX11) (N := 17) rfl inL_X11 7 (by decide) rfl hl (fun _ h => h) hdg (fun v hv hf => by
    obtain ⟨h1, -⟩ | ⟨x, rfl, hx⟩ := hv
    · cases h1
    · exact kk x hx hf)
theorem gg_X11_16   (X : CallFix p m c cc nL s args sg_tbl own) (hK : va_K D vwCl tys s) (hG : sgG (KT P) D vwCl A tys ad ks H) (ha : isK ad ks 11 a) (hl : Cond.fieldLink own index "LawnAhead" "drawn" "J" ∈ sg_tbl) {v : Value} (hf : fld D H 11 a 16 v) (hdg : decode cc pc = .ok (.getfield index, 3)) (kk : W p l e R s m args below meth c H locs cells slots Q (F0 m (pc + 3) ls (v :: rest))) : W p l e R s m args below meth c H locs cells slots Q (F0 m pc ls (.ref a :: rest)) :=
  sg_getf X hK hG ha (k := 11) (ci := 11) rfl (C := RX11) (T := TX11) (N := 17) rfl inL_X11 16 (by decide) (show 16 < 17 by decide) hl (fun _ h => h) hf hdg kk
theorem gg_X11_4   (X : CallFix p m c cc nL s args sg_tbl own) (hK : va_K D vwCl tys s) (hG : sgG (KT P) D vwCl A tys ad ks H) (ha : isK ad ks 11 a) (hl : Cond.fieldLink own index "LawnAhead" "history" "LLawnAhead$History;" ∈ sg_tbl) {v : Value} (hf : fld D H 11 a 4 v) (hdg : decode cc pc = .ok (.getfield index, 3)) (kk : W p l e R s m args below meth c H locs cells slots Q (F0 m (pc + 3) ls (v :: rest))) : W p l e R s m args below meth c H locs cells slots Q (F0 m pc ls (.ref a :: rest)) :=
  sg_getf X hK hG ha (k := 11) (ci := 11) rfl (C := RX11) (T := TX11) (N := 17) rfl inL_X11 4 (by decide) (show 4 < 17 by decide) hl (fun _ h => h) hf hdg kk
theorem pf_X0_1  {x : Int32}  (X : CallFix p m c cc nL s args sg_tbl own) (hK : va_K D vwCl tys s) (hG : sgG (KT P) D vwCl A tys ad ks H) (hS : va_S A H0 H locs) (ha : isK ad ks 0 a) (hl : Cond.fieldLink own index "LawnAhead$Ahead" "earth" "I" ∈ sg_tbl) (hv : okV ad ks (.inl ((-2147483648), 2147483647)) (.int x)) (hdg : decode cc pc = .ok (.putfield index, 3)) (kk : ∀ (H1 : Heap) (locs1 : List Loc), sgG (KT P) D vwCl A tys ad ks H1 → va_S A H0 H1 locs1 → fld D H1 0 a 1 (.int x) → sgFr (KT P) D vwCl ad ks H H1 (fun a' j' => a' = a ∧ j' = 1) → W p l e R s m args below meth c H1 locs1 cells slots Q (F0 m (pc + 3) ls rest)) : W p l e R s m args below meth c H locs cells slots Q (F0 m pc ls (.int x :: .ref a :: rest)) :=
  sg_put X hK hG hS ha (k := 0) (ci := 0) rfl (C := RX0) (T := TX0) (N := 5) rfl inL_X0 tyX0 tyX0_ok nmX0 1 (by decide) rfl hl (fun _ h => h) rfl (ty := .int) rfl rfl rfl hv hdg kk
theorem pf_X0_2  {x : Int32}  (X : CallFix p m c cc nL s args sg_tbl own) (hK : va_K D vwCl tys s) (hG : sgG (KT P) D vwCl A tys ad ks H) (hS : va_S A H0 H locs) (ha : isK ad ks 0 a) (hl : Cond.fieldLink own index "LawnAhead$Ahead" "chance" "I" ∈ sg_tbl) (hv : okV ad ks (.inl ((-2147483648), 2147483647)) (.int x)) (hdg : decode cc pc = .ok (.putfield index, 3)) (kk : ∀ (H1 : Heap) (locs1 : List Loc), sgG (KT P) D vwCl A tys ad ks H1 → va_S A H0 H1 locs1 → fld D H1 0 a 2 (.int x) → sgFr (KT P) D vwCl ad ks H H1 (fun a' j' => a' = a ∧ j' = 2) → W p l e R s m args below meth c H1 locs1 cells slots Q (F0 m (pc + 3) ls rest)) : W p l e R s m args below meth c H locs cells slots Q (F0 m pc ls (.int x :: .ref a :: rest)) :=
  sg_put X hK hG hS ha (k := 0) (ci := 0) rfl (C := RX0) (T := TX0) (N := 5) rfl inL_X0 tyX0 tyX0_ok nmX0 2 (by decide) rfl hl (fun _ h => h) rfl (ty := .int) rfl rfl rfl hv hdg kk
theorem pf_X11_16  {x : Int64}  (X : CallFix p m c cc nL s args sg_tbl own) (hK : va_K D vwCl tys s) (hG : sgG (KT P) D vwCl A tys ad ks H) (hS : va_S A H0 H locs) (ha : isK ad ks 11 a) (hl : Cond.fieldLink own index "LawnAhead" "drawn" "J" ∈ sg_tbl) (hv : okV ad ks (.inr (.inr false)) (.long x)) (hdg : decode cc pc = .ok (.putfield index, 3)) (kk : ∀ (H1 : Heap) (locs1 : List Loc), sgG (KT P) D vwCl A tys ad ks H1 → va_S A H0 H1 locs1 → fld D H1 11 a 16 (.long x) → sgFr (KT P) D vwCl ad ks H H1 (fun a' j' => a' = a ∧ j' = 16) → W p l e R s m args below meth c H1 locs1 cells slots Q (F0 m (pc + 3) ls rest)) : W p l e R s m args below meth c H locs cells slots Q (F0 m pc ls (.long x :: .ref a :: rest)) :=
  sg_put X hK hG hS ha (k := 11) (ci := 11) rfl (C := RX11) (T := TX11) (N := 17) rfl inL_X11 tyX11 tyX11_ok nmX11 16 (by decide) rfl hl (fun _ h => h) rfl (ty := .long) rfl rfl rfl hv hdg kk
set_option maxHeartbeats 8000000 in
set_option maxRecDepth 100000 in
theorem m_X0_oddsOf (l : Launch) {D : va_G} {base : Nat} {tys : List (ClassId × FieldType)} {ad ks : List Nat} {P : sgPm} (a0 : Nat) (h0 : isK ad ks 0 a0) (a1 : Nat) (h1 : isK ad ks 9 a1) (x2 : Int32) (h2 : iv (-2147483648) 3 x2) (x3 : Int32) : sgMl l (KT P) D vwCl base tys ad ks yX0_oddsOf cX0_oddsOf 4 (some .long) ({ frames := 8, cells := 0, slots := 0, locals := 252 }) [.ref a0, .ref a1, .int x2, .int x3] (fun _ : Int64 => True) := by
  refine sg_ofW (by decide +kernel) (Nat.le_of_ble_eq_true rfl) (fun p e s m below meth c X hr hlk hb hK hC hG ls hl => ?_)
  have hS : va_S (fun q : Nat => base ≤ q) s.heap s.heap [] := va_S.rf
  have hl : lv_has ls 4 [(0, .ref a0), (1, .ref a1), (2, .int x2), (3, .int x3)] := hl
  refine lv_aload_n X.1 X.2.1 dX0_oddsOf_0 rfl (lv_at hl 0 rfl) ?_
  refine lv_aload_n X.1 X.2.1 dX0_oddsOf_1 rfl (lv_at hl 1 rfl) ?_
  refine gf_X9_1 X hK hG h1 wl_1_120 dX0_oddsOf_2 (fun f1 hf1 kf1 => ?_)
  refine pf_X0_1 X hK hG hS h0 wl_2_121 ⟨_, rfl, (iv_top _)⟩ dX0_oddsOf_5 (fun H locs hG hS ku2 ru2 => ?_)
  refine lv_aload_n X.1 X.2.1 dX0_oddsOf_8 rfl (lv_at hl 0 rfl) ?_
  refine lv_iload_n X.1 X.2.1 dX0_oddsOf_9 rfl (lv_at hl 3 rfl) ?_
  refine pf_X0_2 X hK hG hS h0 wl_2_122 ⟨_, rfl, (iv_top _)⟩ dX0_oddsOf_10 (fun H locs hG hS ku3 ru3 => ?_)
  refine lv_aload_n X.1 X.2.1 dX0_oddsOf_13 rfl (lv_at hl 0 rfl) ?_
  refine lv_aload_n X.1 X.2.1 dX0_oddsOf_14 rfl (lv_at hl 1 rfl) ?_
  refine gf_X9_0 X hK hG h1 wl_1_116 dX0_oddsOf_15 (fun f4 hf4 kf4 => ?_)
  refine lv_aload_n X.1 X.2.1 dX0_oddsOf_18 rfl (lv_at hl 1 rfl) ?_
  refine gf_X9_3 X hK hG h1 wl_1_128 dX0_oddsOf_19 (fun f5 hf5 kf5 => ?_)
  refine lv_aload_n X.1 X.2.1 dX0_oddsOf_22 rfl (lv_at hl 1 rfl) ?_
  refine gf_X9_2 X hK hG h1 wl_1_125 dX0_oddsOf_23 (fun f6 hf6 kf6 => ?_)
  refine lv_iadd X.1 X.2.1 dX0_oddsOf_26 ?_
  refine lv_topi (fun f7 ef7 => ?_)
  refine lv_iload_n X.1 X.2.1 dX0_oddsOf_27 rfl (lv_at hl 2 rfl) ?_
  refine lv_ldc2 X.1 X.2.1 X.2.2.2.1 (X.2.2.2.2 _ wl_6_51) dX0_oddsOf_28 ?_
  refine ca_X0_partsWon_3 X hK hG hC hS hb a0 h0 f4 f7 x2 h2 1000000000 wl_6_52 hl.1 (rest := []) rfl (Nat.le_of_ble_eq_true rfl) ⟨Nat.le_of_ble_eq_true rfl, Nat.le_of_ble_eq_true rfl⟩ ⟨Nat.le_of_ble_eq_true rfl, Nat.le_of_ble_eq_true rfl⟩ dX0_oddsOf_31 (fun g8 H locs hg8 hG hS => ?_)
  exact sg_lret X hr hlk hb hK hC hG hS trivial dX0_oddsOf_34

theorem ca_X0_oddsOf   (X : CallFix p m c cc nL s args sg_tbl own) (hK : va_K D vwCl tys s) (hG : sgG (KT P) D vwCl (fun q : Nat => base ≤ q) tys ad ks H) (hC : sgC base s) (hS : va_S (fun q : Nat => base ≤ q) s.heap H locs) (hb : base ≤ s.heap.size) (a0 : Nat) (h0 : isK ad ks 0 a0) (a1 : Nat) (h1 : isK ad ks 9 a1) (x2 : Int32) (h2 : iv (-2147483648) 3 x2) (x3 : Int32) (hl : Cond.methodLink own index yX0_oddsOf ∈ sg_tbl) (hsize : ls.size = nL) (hst : st0 = [.ref a1, .int x2, .int x3].reverse ++ .ref a0 :: rest) (hW : (rest.map fun v => v.category).sum ≤ 8) (hR : 9 ≤ R.frames ∧ 275 ≤ R.locals) (hf : cells ≤ R.cells ∧ slots ≤ R.slots) (hdg : decode cc pc = .ok (.invokevirtual index, 3)) (kk : ∀ (r : Int64) (H1 : Heap) (locs1 : List Loc), (fun _ : Int64 => True) r → sgG (KT P) D vwCl (fun q : Nat => base ≤ q) tys ad ks H1 → va_S (fun q : Nat => base ≤ q) s.heap H1 locs1 → W p l e R s m args below meth c H1 locs1 cells slots Q (F0 m (pc + 3) ls (.long r :: rest))) : W p l e R s m args below meth c H locs cells slots Q (F0 m pc ls st0) :=
  sg_callVl X hK hG hC hS hb (m_X0_oddsOf l a0 h0 a1 h1 x2 h2 x3) h0 (k := 0) (ci := 0) rfl (C := RX0) (T := TX0) (N := 5) rfl wl_6_50 wl_1_10 wl_6_48 wl_6_49 (n := 3) (by decide +kernel) rfl rfl rfl hl hsize hst hW hR hf hdg kk

set_option maxHeartbeats 8000000 in
set_option maxRecDepth 100000 in
theorem m_X11_rule (l : Launch) {D : va_G} {base : Nat} {tys : List (ClassId × FieldType)} {ad ks : List Nat} {P : sgPm} (a0 : Nat) (h0 : isK ad ks 11 a0) (x1 : Int32) : sgMi l (KT P) D vwCl base tys ad ks yX11_rule cX11_rule 2 (some .int) ({ frames := 1, cells := 0, slots := 0, locals := 20 }) [.ref a0, .int x1] (fun r : Int32 => True) := by
  refine sg_ofW (by decide +kernel) (Nat.le_of_ble_eq_true rfl) (fun p e s m below meth c X hr hlk hb hK hC hG ls hl => ?_)
  have hS : va_S (fun q : Nat => base ≤ q) s.heap s.heap [] := va_S.rf
  have hl : lv_has ls 2 [(0, .ref a0), (1, .int x1)] := hl
  refine lv_aload_n X.1 X.2.1 dX11_rule_0 rfl (lv_at hl 0 rfl) ?_
  refine ca_X11_noLawn X hK hG hC (fun _ h => h) hS hb a0 h0 wl_4_74 hl.1 (rest := []) rfl (Nat.le_of_ble_eq_true rfl) ⟨Nat.le_of_ble_eq_true rfl, Nat.le_of_ble_eq_true rfl⟩ ⟨Nat.le_of_ble_eq_true rfl, Nat.le_of_ble_eq_true rfl⟩ dX11_rule_1 (fun f1 locs hf1 hS => ?_)
  refine lv_if_ne (tgt := 17) X.1 X.2.1 dX11_rule_4 (by decide) (fun c2 => ?_) (fun c2 => ?_)
  · refine lv_iconst (v := (-1)) X.1 X.2.1 dX11_rule_17 (by decide +kernel) ?_
    exact sg_iret X hr hlk hb hK hC hG hS trivial dX11_rule_18
  · refine lv_iload_n X.1 X.2.1 dX11_rule_7 rfl (lv_at hl 1 rfl) ?_
    refine lv_if_lt (tgt := 17) X.1 X.2.1 dX11_rule_8 (by decide) (fun c3 => ?_) (fun c3 => ?_)
    · refine lv_iconst (v := (-1)) X.1 X.2.1 dX11_rule_17 (by decide +kernel) ?_
      exact sg_iret X hr hlk hb hK hC hG hS trivial dX11_rule_18
    · refine lv_iload_n X.1 X.2.1 dX11_rule_11 rfl (lv_at hl 1 rfl) ?_
      refine lv_bipush (v := 6) X.1 X.2.1 dX11_rule_12 (by decide +kernel) ?_
      refine lv_icmp_lt (tgt := 19) X.1 X.2.1 dX11_rule_14 (by decide) (fun c4 => ?_) (fun c4 => ?_)
      · refine lv_aload_n X.1 X.2.1 dX11_rule_19 rfl (lv_at hl 0 rfl) ?_
        refine gf_X11_10 X hK hG h0 wl_2_205 dX11_rule_20 (fun q5 hq5 kq5 => ?_)
        refine gf_X4_0 X hK hG hq5 wl_1_211 dX11_rule_23 (fun q6 hq6 kq6 => ?_)
        refine lv_iload_n X.1 X.2.1 dX11_rule_26 rfl (lv_at hl 1 rfl) ?_
        refine al_21 X hK hG hq6 (iv_vpin (iv_lt (b' := 5) c4 (iv_ler (c' := 0) (iv_ge_of c3) (iv_c 0 (a := 0) (b := 0) (by decide +kernel)) (iv_top x1) (by decide +kernel)) (iv_c 6 (a := 6) (b := 6) (by decide +kernel)) (by decide +kernel)) (by decide +kernel)) dX11_rule_27 (fun f7 hf7 => ?_)
        have of7 := hf7
        have hf7 : iv 0 8 f7 := sg_spa_rules hf7
        exact sg_iret X hr hlk hb hK hC hG hS trivial dX11_rule_28
      · refine lv_iconst (v := (-1)) X.1 X.2.1 dX11_rule_17 (by decide +kernel) ?_
        exact sg_iret X hr hlk hb hK hC hG hS trivial dX11_rule_18

theorem ca_X11_rule   (X : CallFix p m c cc nL s args sg_tbl own) (hK : va_K D vwCl tys s) (hG : sgG (KT P) D vwCl (fun q : Nat => base ≤ q) tys ad ks H) (hC : sgC base s) (hS : va_S (fun q : Nat => base ≤ q) s.heap H locs) (hb : base ≤ s.heap.size) (a0 : Nat) (h0 : isK ad ks 11 a0) (x1 : Int32) (hl : Cond.methodLink own index yX11_rule ∈ sg_tbl) (hsize : ls.size = nL) (hst : st0 = [.int x1].reverse ++ .ref a0 :: rest) (hW : (rest.map fun v => v.category).sum ≤ 8) (hR : 2 ≤ R.frames ∧ 41 ≤ R.locals) (hf : cells ≤ R.cells ∧ slots ≤ R.slots) (hdg : decode cc pc = .ok (.invokevirtual index, 3)) (kk : ∀ (r : Int32) (H1 : Heap) (locs1 : List Loc), (fun r : Int32 => True) r → sgG (KT P) D vwCl (fun q : Nat => base ≤ q) tys ad ks H1 → va_S (fun q : Nat => base ≤ q) s.heap H1 locs1 → W p l e R s m args below meth c H1 locs1 cells slots Q (F0 m (pc + 3) ls (.int r :: rest))) : W p l e R s m args below meth c H locs cells slots Q (F0 m pc ls st0) :=
  sg_callVi X hK hG hC hS hb (m_X11_rule l a0 h0 x1) h0 (k := 11) (ci := 11) rfl (C := RX11) (T := TX11) (N := 17) rfl wl_4_73 wl_1_1 wl_4_71 wl_4_72 (n := 1) (by decide +kernel) rfl rfl rfl hl hsize hst hW hR hf hdg kk

set_option maxHeartbeats 8000000 in
set_option maxRecDepth 100000 in
theorem m_X11_act (l : Launch) {D : va_G} {base : Nat} {tys : List (ClassId × FieldType)} {ad ks : List Nat} {P : sgPm} (a0 : Nat) (h0 : isK ad ks 11 a0) (x1 : Int32) (x2 : Int32) (x3 : Int32) (x4 : Int32) : sgMi l (KT P) D vwCl base tys ad ks yX11_act cX11_act 6 (some .boolean) ({ frames := 5, cells := 0, slots := 0, locals := 130 }) [.ref a0, .int x1, .int x2, .int x3, .int x4] (fun r : Int32 => iv 0 1 r) := by
  refine sg_ofW (by decide +kernel) (Nat.le_of_ble_eq_true rfl) (fun p e s m below meth c X hr hlk hb hK hC hG ls hl => ?_)
  have hS : va_S (fun q : Nat => base ≤ q) s.heap s.heap [] := va_S.rf
  have hl : lv_has ls 6 [(0, .ref a0), (1, .int x1), (2, .int x2), (3, .int x3), (4, .int x4)] := hl
  refine lv_aload_n X.1 X.2.1 dX11_act_0 rfl (lv_at hl 0 rfl) ?_
  refine gf_X11_6 X hK hG h0 wl_2_201 dX11_act_1 (fun q1 hq1 kq1 => ?_)
  refine lv_aload_n X.1 X.2.1 dX11_act_4 rfl (lv_at hl 0 rfl) ?_
  refine gf_X11_3 X hK hG h0 wl_2_198 dX11_act_5 (fun q2 hq2 kq2 => ?_)
  refine lv_iload_n X.1 X.2.1 dX11_act_8 rfl (lv_at hl 1 rfl) ?_
  refine lv_iload_n X.1 X.2.1 dX11_act_9 rfl (lv_at hl 2 rfl) ?_
  refine lv_iload_n X.1 X.2.1 dX11_act_10 rfl (lv_at hl 3 rfl) ?_
  refine lv_iload X.1 X.2.1 dX11_act_11 (lv_at hl 4 rfl) ?_
  refine ca_X7_allows X hK hG hC hS hb q1 hq1 q2 hq2 x1 x2 x3 x4 wl_4_94 hl.1 (rest := []) rfl (Nat.le_of_ble_eq_true rfl) ⟨Nat.le_of_ble_eq_true rfl, Nat.le_of_ble_eq_true rfl⟩ ⟨Nat.le_of_ble_eq_true rfl, Nat.le_of_ble_eq_true rfl⟩ dX11_act_13 (fun f3 H locs hf3 hG hS => ?_)
  refine lv_if_ne (tgt := 21) X.1 X.2.1 dX11_act_16 (by decide) (fun c4 => ?_) (fun c4 => ?_)
  · refine lv_iload_n X.1 X.2.1 dX11_act_21 rfl (lv_at hl 1 rfl) ?_
    have B6_61 : ∀ (H : Heap) (locs : List Loc) (ls : Array Slot) (w6_0 : Int32), sgG (KT P) D vwCl (fun q : Nat => base ≤ q) tys ad ks H → va_S (fun q : Nat => base ≤ q) s.heap H locs → lv_has ls 6 [(0, .ref a0), (1, .int x1), (2, .int x2), (3, .int x3), (4, .int x4)] → iv 0 1 w6_0 → W p l e (headSpec (Cond.code yX11_act cX11_act 6 (some .boolean) :: sg_tbl) ({ frames := 5, cells := 0, slots := 0, locals := 130 })).room s m #[.ref a0, .int x1, .int x2, .int x3, .int x4] below meth c H locs 0 0 (MQ below (va_Qi (fun r (_ : Unit) => (fun r : Int32 => iv 0 1 r) r) (fun _ => sgB (KT P) D vwCl base tys ad ks) (fun q : Nat => base ≤ q)) #[.ref a0, .int x1, .int x2, .int x3, .int x4] s 0 0 (fun q : Nat => base ≤ q)) (F0 m 61 ls [.int w6_0]) := by
      intro H locs ls w6_0 hG hS hl hw6_0
      refine lv_istore (lv' := [(5, .int w6_0), (0, .ref a0), (1, .int x1), (2, .int x2), (3, .int x3), (4, .int x4)]) X.1 X.2.1 dX11_act_61 hl (by decide) rfl (fun ls hl => ?_)
      refine lv_aload_n X.1 X.2.1 dX11_act_63 rfl (lv_at hl 1 rfl) ?_
      refine gf_X11_4 X hK hG h0 wl_2_199 dX11_act_64 (fun q7 hq7 kq7 => ?_)
      refine lv_aload_n X.1 X.2.1 dX11_act_67 rfl (lv_at hl 1 rfl) ?_
      refine gf_X11_3 X hK hG h0 wl_2_198 dX11_act_68 (fun q8 hq8 kq8 => ?_)
      refine lv_iload_n X.1 X.2.1 dX11_act_71 rfl (lv_at hl 2 rfl) ?_
      refine lv_iload_n X.1 X.2.1 dX11_act_72 rfl (lv_at hl 3 rfl) ?_
      refine lv_iload X.1 X.2.1 dX11_act_73 (lv_at hl 5 rfl) ?_
      refine lv_iconst (v := 1) X.1 X.2.1 dX11_act_75 (by decide +kernel) ?_
      have B10_84 : ∀ (locs : List Loc) (ls : Array Slot) (w10_0 : Int32), va_S (fun q : Nat => base ≤ q) s.heap H locs → lv_has ls 6 [(0, .ref a0), (1, .int x1), (2, .int x2), (3, .int x3), (4, .int x4), (5, .int w6_0)] → W p l e (headSpec (Cond.code yX11_act cX11_act 6 (some .boolean) :: sg_tbl) ({ frames := 5, cells := 0, slots := 0, locals := 130 })).room s m #[.ref a0, .int x1, .int x2, .int x3, .int x4] below meth c H locs 0 0 (MQ below (va_Qi (fun r (_ : Unit) => (fun r : Int32 => iv 0 1 r) r) (fun _ => sgB (KT P) D vwCl base tys ad ks) (fun q : Nat => base ≤ q)) #[.ref a0, .int x1, .int x2, .int x3, .int x4] s 0 0 (fun q : Nat => base ≤ q)) (F0 m 84 ls [.int w10_0, .int x2, .int x1, .ref q8, .ref q7]) := by
        intro locs ls w10_0 hS hl
        refine lv_iload X.1 X.2.1 dX11_act_84 (lv_at hl 4 rfl) ?_
        refine ca_X3_packed X hK hG hC (fun _ h => h) hS hb x1 x2 w10_0 x4 wl_4_159 hl.1 (rest := [.ref q8, .ref q7]) rfl (Nat.le_of_ble_eq_true rfl) ⟨Nat.le_of_ble_eq_true rfl, Nat.le_of_ble_eq_true rfl⟩ ⟨Nat.le_of_ble_eq_true rfl, Nat.le_of_ble_eq_true rfl⟩ dX11_act_86 (fun f11 locs hf11 hS => ?_)
        refine ca_X5_keep X hK hG hC hS hb q7 hq7 q8 hq8 f11 wl_4_160 hl.1 (rest := []) rfl (Nat.le_of_ble_eq_true rfl) ⟨Nat.le_of_ble_eq_true rfl, Nat.le_of_ble_eq_true rfl⟩ ⟨Nat.le_of_ble_eq_true rfl, Nat.le_of_ble_eq_true rfl⟩ dX11_act_89 (fun H locs hG hS => ?_)
        refine lv_aload_n X.1 X.2.1 dX11_act_92 rfl (lv_at hl 0 rfl) ?_
        refine gf_X11_6 X hK hG h0 wl_2_201 dX11_act_93 (fun q13 hq13 kq13 => ?_)
        refine lv_aload_n X.1 X.2.1 dX11_act_96 rfl (lv_at hl 0 rfl) ?_
        refine gf_X11_3 X hK hG h0 wl_2_198 dX11_act_97 (fun q14 hq14 kq14 => ?_)
        refine lv_iload_n X.1 X.2.1 dX11_act_100 rfl (lv_at hl 1 rfl) ?_
        refine lv_iload_n X.1 X.2.1 dX11_act_101 rfl (lv_at hl 2 rfl) ?_
        refine lv_iload_n X.1 X.2.1 dX11_act_102 rfl (lv_at hl 3 rfl) ?_
        refine lv_iload X.1 X.2.1 dX11_act_103 (lv_at hl 4 rfl) ?_
        refine ca_X7_apply X hK hG hC hS hb q13 hq13 q14 hq14 x1 x2 x3 x4 (hf3.2 c4) wl_4_169 hl.1 (rest := []) rfl (Nat.le_of_ble_eq_true rfl) ⟨Nat.le_of_ble_eq_true rfl, Nat.le_of_ble_eq_true rfl⟩ ⟨Nat.le_of_ble_eq_true rfl, Nat.le_of_ble_eq_true rfl⟩ dX11_act_105 (fun H locs hG hS => ?_)
        refine lv_iload X.1 X.2.1 dX11_act_108 (lv_at hl 5 rfl) ?_
        refine lv_if_eq (tgt := 136) X.1 X.2.1 dX11_act_110 (by decide) (fun c16 => ?_) (fun c16 => ?_)
        · refine lv_iconst (v := 1) X.1 X.2.1 dX11_act_136 (by decide +kernel) ?_
          exact sg_zret X hr (sg_zn (iv_of (iv_c 1 (a := 1) (b := 1) (by decide +kernel)) (a' := 0) (b' := 1) (by decide +kernel))) hlk hb hK hC hG hS (iv_of (iv_c 1 (a := 1) (b := 1) (by decide +kernel)) (a' := 0) (b' := 1) (by decide +kernel)) dX11_act_137
        · refine lv_aload_n X.1 X.2.1 dX11_act_113 rfl (lv_at hl 0 rfl) ?_
          refine gf_X11_3 X hK hG h0 wl_2_198 dX11_act_114 (fun q17 hq17 kq17 => ?_)
          refine gf_X9_7 X hK hG hq17 wl_1_141 dX11_act_117 (fun f18 hf18 kf18 => ?_)
          refine lv_if_ne (tgt := 136) X.1 X.2.1 dX11_act_120 (by decide) (fun c19 => ?_) (fun c19 => ?_)
          · refine lv_iconst (v := 1) X.1 X.2.1 dX11_act_136 (by decide +kernel) ?_
            exact sg_zret X hr (sg_zn (iv_of (iv_c 1 (a := 1) (b := 1) (by decide +kernel)) (a' := 0) (b' := 1) (by decide +kernel))) hlk hb hK hC hG hS (iv_of (iv_c 1 (a := 1) (b := 1) (by decide +kernel)) (a' := 0) (b' := 1) (by decide +kernel)) dX11_act_137
          · refine lv_aload_n X.1 X.2.1 dX11_act_123 rfl (lv_at hl 0 rfl) ?_
            refine gg_X11_3 X hK hG h0 wl_2_198 kq17 dX11_act_124 ?_
            refine lv_dup X.1 X.2.1 dX11_act_127 rfl ?_
            refine gf_X9_6 X hK hG hq17 wl_1_138 dX11_act_128 (fun f20 hf20 kf20 => ?_)
            refine lv_iconst (v := 1) X.1 X.2.1 dX11_act_131 (by decide +kernel) ?_
            refine lv_iadd X.1 X.2.1 dX11_act_132 ?_
            refine lv_topi (fun f21 ef21 => ?_)
            refine pf_X9_6 X hK hG hS hq17 wl_1_138 ⟨_, rfl, (iv_top _)⟩ dX11_act_133 (fun H locs hG hS ku22 ru22 => ?_)
            refine lv_iconst (v := 1) X.1 X.2.1 dX11_act_136 (by decide +kernel) ?_
            exact sg_zret X hr (sg_zn (iv_of (iv_c 1 (a := 1) (b := 1) (by decide +kernel)) (a' := 0) (b' := 1) (by decide +kernel))) hlk hb hK hC hG hS (iv_of (iv_c 1 (a := 1) (b := 1) (by decide +kernel)) (a' := 0) (b' := 1) (by decide +kernel)) dX11_act_137
      refine lv_icmp_ne (tgt := 83) X.1 X.2.1 dX11_act_76 (by decide) (fun c9 => ?_) (fun c9 => ?_)
      · refine lv_iload_n X.1 X.2.1 dX11_act_83 rfl (lv_at hl 4 rfl) ?_
        exact B10_84 _ _ x3 hS (lv_sub hl [1, 2, 3, 4, 5, 0] rfl)
      · refine lv_iconst (v := 0) X.1 X.2.1 dX11_act_79 (by decide +kernel) ?_
        refine lv_goto (tgt := 84) X.1 X.2.1 dX11_act_80 (by decide) ?_
        exact B10_84 _ _ 0 hS (lv_sub hl [1, 2, 3, 4, 5, 0] rfl)
    have B23_60 : ∀ (H : Heap) (locs : List Loc) (ls : Array Slot), sgG (KT P) D vwCl (fun q : Nat => base ≤ q) tys ad ks H → va_S (fun q : Nat => base ≤ q) s.heap H locs → lv_has ls 6 [(0, .ref a0), (1, .int x1), (2, .int x2), (3, .int x3), (4, .int x4)] → W p l e (headSpec (Cond.code yX11_act cX11_act 6 (some .boolean) :: sg_tbl) ({ frames := 5, cells := 0, slots := 0, locals := 130 })).room s m #[.ref a0, .int x1, .int x2, .int x3, .int x4] below meth c H locs 0 0 (MQ below (va_Qi (fun r (_ : Unit) => (fun r : Int32 => iv 0 1 r) r) (fun _ => sgB (KT P) D vwCl base tys ad ks) (fun q : Nat => base ≤ q)) #[.ref a0, .int x1, .int x2, .int x3, .int x4] s 0 0 (fun q : Nat => base ≤ q)) (F0 m 60 ls []) := by
      intro H locs ls hG hS hl
      refine lv_iconst (v := 0) X.1 X.2.1 dX11_act_60 (by decide +kernel) ?_
      exact B6_61 H _ _ 0 hG hS (lv_sub hl [0, 1, 2, 3, 4] rfl) (iv_of (iv_c 0 (a := 0) (b := 0) (by decide +kernel)) (a' := 0) (b' := 1) (by decide +kernel))
    refine lv_if_ne (tgt := 60) X.1 X.2.1 dX11_act_22 (by decide) (fun c5 => ?_) (fun c5 => ?_)
    · exact B23_60 H _ _ hG hS (lv_sub hl [0, 1, 2, 3, 4] rfl)
    · refine lv_aload_n X.1 X.2.1 dX11_act_25 rfl (lv_at hl 0 rfl) ?_
      refine gf_X11_5 X hK hG h0 wl_2_200 dX11_act_26 (fun q24 hq24 kq24 => ?_)
      refine lv_aload_n X.1 X.2.1 dX11_act_29 rfl (lv_at hl 0 rfl) ?_
      refine gf_X11_3 X hK hG h0 wl_2_198 dX11_act_30 (fun q25 hq25 kq25 => ?_)
      refine gf_X9_0 X hK hG hq25 wl_1_118 dX11_act_33 (fun f26 hf26 kf26 => ?_)
      refine lv_aload_n X.1 X.2.1 dX11_act_36 rfl (lv_at hl 0 rfl) ?_
      refine gg_X11_3 X hK hG h0 wl_2_198 kq25 dX11_act_37 ?_
      refine gf_X9_1 X hK hG hq25 wl_1_122 dX11_act_40 (fun f27 hf27 kf27 => ?_)
      refine lv_aload_n X.1 X.2.1 dX11_act_43 rfl (lv_at hl 0 rfl) ?_
      refine gg_X11_3 X hK hG h0 wl_2_198 kq25 dX11_act_44 ?_
      refine gf_X9_3 X hK hG hq25 wl_1_130 dX11_act_47 (fun f28 hf28 kf28 => ?_)
      refine ca_X8_threatened X hK hG hC hS hb q24 hq24 f26 f27 f28 wl_4_150 hl.1 (rest := []) rfl (Nat.le_of_ble_eq_true rfl) ⟨Nat.le_of_ble_eq_true rfl, Nat.le_of_ble_eq_true rfl⟩ ⟨Nat.le_of_ble_eq_true rfl, Nat.le_of_ble_eq_true rfl⟩ dX11_act_50 (fun f29 H locs hf29 hG hS => ?_)
      refine lv_if_eq (tgt := 60) X.1 X.2.1 dX11_act_53 (by decide) (fun c30 => ?_) (fun c30 => ?_)
      · exact B23_60 H _ _ hG hS (lv_sub hl [0, 1, 2, 3, 4] rfl)
      · refine lv_iconst (v := 1) X.1 X.2.1 dX11_act_56 (by decide +kernel) ?_
        refine lv_goto (tgt := 61) X.1 X.2.1 dX11_act_57 (by decide) ?_
        exact B6_61 H _ _ 1 hG hS (lv_sub hl [0, 1, 2, 3, 4] rfl) (iv_of (iv_c 1 (a := 1) (b := 1) (by decide +kernel)) (a' := 0) (b' := 1) (by decide +kernel))
  · refine lv_iconst (v := 0) X.1 X.2.1 dX11_act_19 (by decide +kernel) ?_
    exact sg_zret X hr (sg_zn (iv_of (iv_c 0 (a := 0) (b := 0) (by decide +kernel)) (a' := 0) (b' := 1) (by decide +kernel))) hlk hb hK hC hG hS (iv_of (iv_c 0 (a := 0) (b := 0) (by decide +kernel)) (a' := 0) (b' := 1) (by decide +kernel)) dX11_act_20

theorem ca_X11_act   (X : CallFix p m c cc nL s args sg_tbl own) (hK : va_K D vwCl tys s) (hG : sgG (KT P) D vwCl (fun q : Nat => base ≤ q) tys ad ks H) (hC : sgC base s) (hS : va_S (fun q : Nat => base ≤ q) s.heap H locs) (hb : base ≤ s.heap.size) (a0 : Nat) (h0 : isK ad ks 11 a0) (x1 : Int32) (x2 : Int32) (x3 : Int32) (x4 : Int32) (hl : Cond.methodLink own index yX11_act ∈ sg_tbl) (hsize : ls.size = nL) (hst : st0 = [.int x1, .int x2, .int x3, .int x4].reverse ++ .ref a0 :: rest) (hW : (rest.map fun v => v.category).sum ≤ 8) (hR : 6 ≤ R.frames ∧ 155 ≤ R.locals) (hf : cells ≤ R.cells ∧ slots ≤ R.slots) (hdg : decode cc pc = .ok (.invokevirtual index, 3)) (kk : ∀ (r : Int32) (H1 : Heap) (locs1 : List Loc), (fun r : Int32 => iv 0 1 r) r → sgG (KT P) D vwCl (fun q : Nat => base ≤ q) tys ad ks H1 → va_S (fun q : Nat => base ≤ q) s.heap H1 locs1 → W p l e R s m args below meth c H1 locs1 cells slots Q (F0 m (pc + 3) ls (.int r :: rest))) : W p l e R s m args below meth c H locs cells slots Q (F0 m pc ls st0) :=
  sg_callVi X hK hG hC hS hb (m_X11_act l a0 h0 x1 x2 x3 x4) h0 (k := 11) (ci := 11) rfl (C := RX11) (T := TX11) (N := 17) rfl wl_4_93 wl_1_1 wl_4_92 wl_0_21 (n := 4) (by decide +kernel) rfl rfl rfl hl hsize hst hW hR hf hdg kk

set_option maxHeartbeats 8000000 in
set_option maxRecDepth 100000 in
theorem m_X11_grow (l : Launch) {D : va_G} {base : Nat} {tys : List (ClassId × FieldType)} {ad ks : List Nat} {P : sgPm} (a0 : Nat) (h0 : isK ad ks 11 a0) (x1 : Int32) : sgMi l (KT P) D vwCl base tys ad ks yX11_grow cX11_grow 2 (some .int) ({ frames := 6, cells := 0, slots := 0, locals := 155 }) [.ref a0, .int x1] (fun r : Int32 => True) := by
  refine sg_ofW (by decide +kernel) (Nat.le_of_ble_eq_true rfl) (fun p e s m below meth c X hr hlk hb hK hC hG ls hl => ?_)
  have hS : va_S (fun q : Nat => base ≤ q) s.heap s.heap [] := va_S.rf
  have hl : lv_has ls 2 [(0, .ref a0), (1, .int x1)] := hl
  refine lv_aload_n X.1 X.2.1 dX11_grow_0 rfl (lv_at hl 0 rfl) ?_
  refine lv_iconst (v := 0) X.1 X.2.1 dX11_grow_1 (by decide +kernel) ?_
  refine lv_iload_n X.1 X.2.1 dX11_grow_2 rfl (lv_at hl 1 rfl) ?_
  refine lv_iconst (v := 0) X.1 X.2.1 dX11_grow_3 (by decide +kernel) ?_
  refine lv_iconst (v := 0) X.1 X.2.1 dX11_grow_4 (by decide +kernel) ?_
  refine ca_X11_act X hK hG hC hS hb a0 h0 0 x1 0 0 wl_4_90 hl.1 (rest := []) rfl (Nat.le_of_ble_eq_true rfl) ⟨Nat.le_of_ble_eq_true rfl, Nat.le_of_ble_eq_true rfl⟩ ⟨Nat.le_of_ble_eq_true rfl, Nat.le_of_ble_eq_true rfl⟩ dX11_grow_5 (fun f1 H locs hf1 hG hS => ?_)
  refine lv_if_ne (tgt := 13) X.1 X.2.1 dX11_grow_8 (by decide) (fun c2 => ?_) (fun c2 => ?_)
  · refine lv_aload_n X.1 X.2.1 dX11_grow_13 rfl (lv_at hl 0 rfl) ?_
    refine gf_X11_3 X hK hG h0 wl_2_198 dX11_grow_14 (fun q3 hq3 kq3 => ?_)
    refine gf_X9_7 X hK hG hq3 wl_1_141 dX11_grow_17 (fun f4 hf4 kf4 => ?_)
    refine lv_if_eq (tgt := 27) X.1 X.2.1 dX11_grow_20 (by decide) (fun c5 => ?_) (fun c5 => ?_)
    · refine lv_iconst (v := 0) X.1 X.2.1 dX11_grow_27 (by decide +kernel) ?_
      exact sg_iret X hr hlk hb hK hC hG hS trivial dX11_grow_28
    · refine lv_iconst (v := 1) X.1 X.2.1 dX11_grow_23 (by decide +kernel) ?_
      refine lv_goto (tgt := 28) X.1 X.2.1 dX11_grow_24 (by decide) ?_
      exact sg_iret X hr hlk hb hK hC hG hS trivial dX11_grow_28
  · refine lv_iconst (v := (-1)) X.1 X.2.1 dX11_grow_11 (by decide +kernel) ?_
    exact sg_iret X hr hlk hb hK hC hG hS trivial dX11_grow_12

theorem ca_X11_grow   (X : CallFix p m c cc nL s args sg_tbl own) (hK : va_K D vwCl tys s) (hG : sgG (KT P) D vwCl (fun q : Nat => base ≤ q) tys ad ks H) (hC : sgC base s) (hS : va_S (fun q : Nat => base ≤ q) s.heap H locs) (hb : base ≤ s.heap.size) (a0 : Nat) (h0 : isK ad ks 11 a0) (x1 : Int32) (hl : Cond.methodLink own index yX11_grow ∈ sg_tbl) (hsize : ls.size = nL) (hst : st0 = [.int x1].reverse ++ .ref a0 :: rest) (hW : (rest.map fun v => v.category).sum ≤ 8) (hR : 7 ≤ R.frames ∧ 176 ≤ R.locals) (hf : cells ≤ R.cells ∧ slots ≤ R.slots) (hdg : decode cc pc = .ok (.invokevirtual index, 3)) (kk : ∀ (r : Int32) (H1 : Heap) (locs1 : List Loc), (fun r : Int32 => True) r → sgG (KT P) D vwCl (fun q : Nat => base ≤ q) tys ad ks H1 → va_S (fun q : Nat => base ≤ q) s.heap H1 locs1 → W p l e R s m args below meth c H1 locs1 cells slots Q (F0 m (pc + 3) ls (.int r :: rest))) : W p l e R s m args below meth c H locs cells slots Q (F0 m pc ls st0) :=
  sg_callVi X hK hG hC hS hb (m_X11_grow l a0 h0 x1) h0 (k := 11) (ci := 11) rfl (C := RX11) (T := TX11) (N := 17) rfl wl_4_89 wl_1_1 wl_4_87 wl_4_88 (n := 1) (by decide +kernel) rfl rfl rfl hl hsize hst hW hR hf hdg kk

set_option maxHeartbeats 8000000 in
set_option maxRecDepth 100000 in
theorem m_X11_cut (l : Launch) {D : va_G} {base : Nat} {tys : List (ClassId × FieldType)} {ad ks : List Nat} {P : sgPm} (a0 : Nat) (h0 : isK ad ks 11 a0) (x1 : Int32) (x2 : Int32) (x3 : Int32) : sgMi l (KT P) D vwCl base tys ad ks yX11_cut cX11_cut 4 (some .int) ({ frames := 6, cells := 0, slots := 0, locals := 155 }) [.ref a0, .int x1, .int x2, .int x3] (fun r : Int32 => True) := by
  refine sg_ofW (by decide +kernel) (Nat.le_of_ble_eq_true rfl) (fun p e s m below meth c X hr hlk hb hK hC hG ls hl => ?_)
  have hS : va_S (fun q : Nat => base ≤ q) s.heap s.heap [] := va_S.rf
  have hl : lv_has ls 4 [(0, .ref a0), (1, .int x1), (2, .int x2), (3, .int x3)] := hl
  refine lv_aload_n X.1 X.2.1 dX11_cut_0 rfl (lv_at hl 0 rfl) ?_
  refine lv_iconst (v := 1) X.1 X.2.1 dX11_cut_1 (by decide +kernel) ?_
  refine lv_iload_n X.1 X.2.1 dX11_cut_2 rfl (lv_at hl 1 rfl) ?_
  refine lv_iload_n X.1 X.2.1 dX11_cut_3 rfl (lv_at hl 2 rfl) ?_
  refine lv_iload_n X.1 X.2.1 dX11_cut_4 rfl (lv_at hl 3 rfl) ?_
  refine ca_X11_act X hK hG hC hS hb a0 h0 1 x1 x2 x3 wl_4_90 hl.1 (rest := []) rfl (Nat.le_of_ble_eq_true rfl) ⟨Nat.le_of_ble_eq_true rfl, Nat.le_of_ble_eq_true rfl⟩ ⟨Nat.le_of_ble_eq_true rfl, Nat.le_of_ble_eq_true rfl⟩ dX11_cut_5 (fun f1 H locs hf1 hG hS => ?_)
  refine lv_if_eq (tgt := 21) X.1 X.2.1 dX11_cut_8 (by decide) (fun c2 => ?_) (fun c2 => ?_)
  · refine lv_iconst (v := (-1)) X.1 X.2.1 dX11_cut_21 (by decide +kernel) ?_
    exact sg_iret X hr hlk hb hK hC hG hS trivial dX11_cut_22
  · refine lv_aload_n X.1 X.2.1 dX11_cut_11 rfl (lv_at hl 0 rfl) ?_
    refine gf_X11_3 X hK hG h0 wl_2_198 dX11_cut_12 (fun q3 hq3 kq3 => ?_)
    refine gf_X9_3 X hK hG hq3 wl_1_130 dX11_cut_15 (fun f4 hf4 kf4 => ?_)
    refine lv_goto (tgt := 22) X.1 X.2.1 dX11_cut_18 (by decide) ?_
    exact sg_iret X hr hlk hb hK hC hG hS trivial dX11_cut_22

theorem ca_X11_cut   (X : CallFix p m c cc nL s args sg_tbl own) (hK : va_K D vwCl tys s) (hG : sgG (KT P) D vwCl (fun q : Nat => base ≤ q) tys ad ks H) (hC : sgC base s) (hS : va_S (fun q : Nat => base ≤ q) s.heap H locs) (hb : base ≤ s.heap.size) (a0 : Nat) (h0 : isK ad ks 11 a0) (x1 : Int32) (x2 : Int32) (x3 : Int32) (hl : Cond.methodLink own index yX11_cut ∈ sg_tbl) (hsize : ls.size = nL) (hst : st0 = [.int x1, .int x2, .int x3].reverse ++ .ref a0 :: rest) (hW : (rest.map fun v => v.category).sum ≤ 8) (hR : 7 ≤ R.frames ∧ 178 ≤ R.locals) (hf : cells ≤ R.cells ∧ slots ≤ R.slots) (hdg : decode cc pc = .ok (.invokevirtual index, 3)) (kk : ∀ (r : Int32) (H1 : Heap) (locs1 : List Loc), (fun r : Int32 => True) r → sgG (KT P) D vwCl (fun q : Nat => base ≤ q) tys ad ks H1 → va_S (fun q : Nat => base ≤ q) s.heap H1 locs1 → W p l e R s m args below meth c H1 locs1 cells slots Q (F0 m (pc + 3) ls (.int r :: rest))) : W p l e R s m args below meth c H locs cells slots Q (F0 m pc ls st0) :=
  sg_callVi X hK hG hC hS hb (m_X11_cut l a0 h0 x1 x2 x3) h0 (k := 11) (ci := 11) rfl (C := RX11) (T := TX11) (N := 17) rfl wl_4_184 wl_1_1 wl_4_182 wl_4_183 (n := 3) (by decide +kernel) rfl rfl rfl hl hsize hst hW hR hf hdg kk

set_option maxHeartbeats 8000000 in
set_option maxRecDepth 100000 in
theorem m_X11_sit (l : Launch) {D : va_G} {base : Nat} {tys : List (ClassId × FieldType)} {ad ks : List Nat} {P : sgPm} (a0 : Nat) (h0 : isK ad ks 11 a0) : sgMi l (KT P) D vwCl base tys ad ks yX11_sit cX11_sit 2 (some .int) ({ frames := 6, cells := 0, slots := 0, locals := 155 }) [.ref a0] (fun r : Int32 => True) := by
  refine sg_ofW (by decide +kernel) (Nat.le_of_ble_eq_true rfl) (fun p e s m below meth c X hr hlk hb hK hC hG ls hl => ?_)
  have hS : va_S (fun q : Nat => base ≤ q) s.heap s.heap [] := va_S.rf
  have hl : lv_has ls 2 [(0, .ref a0)] := hl
  refine lv_aload_n X.1 X.2.1 dX11_sit_0 rfl (lv_at hl 0 rfl) ?_
  refine gf_X11_3 X hK hG h0 wl_2_198 dX11_sit_1 (fun q1 hq1 kq1 => ?_)
  refine gf_X9_2 X hK hG hq1 wl_1_126 dX11_sit_4 (fun f2 hf2 kf2 => ?_)
  have B4_15 : ∀ (locs : List Loc) (ls : Array Slot) (w4_0 : Int32), va_S (fun q : Nat => base ≤ q) s.heap s.heap locs → lv_has ls 2 [(0, .ref a0)] → iv 0 1 w4_0 → W p l e (headSpec (Cond.code yX11_sit cX11_sit 2 (some .int) :: sg_tbl) ({ frames := 6, cells := 0, slots := 0, locals := 155 })).room s m #[.ref a0] below meth c s.heap locs 0 0 (MQ below (va_Qi (fun r (_ : Unit) => (fun r : Int32 => True) r) (fun _ => sgB (KT P) D vwCl base tys ad ks) (fun q : Nat => base ≤ q)) #[.ref a0] s 0 0 (fun q : Nat => base ≤ q)) (F0 m 15 ls [.int w4_0]) := by
    intro locs ls w4_0 hS hl hw4_0
    refine lv_istore_n (lv' := [(1, .int w4_0), (0, .ref a0)]) X.1 X.2.1 dX11_sit_15 rfl hl (by decide) rfl (fun ls hl => ?_)
    refine lv_aload_n X.1 X.2.1 dX11_sit_16 rfl (lv_at hl 1 rfl) ?_
    refine lv_iconst (v := 3) X.1 X.2.1 dX11_sit_17 (by decide +kernel) ?_
    refine lv_iconst (v := (-1)) X.1 X.2.1 dX11_sit_18 (by decide +kernel) ?_
    refine lv_iconst (v := 0) X.1 X.2.1 dX11_sit_19 (by decide +kernel) ?_
    refine lv_iconst (v := 0) X.1 X.2.1 dX11_sit_20 (by decide +kernel) ?_
    refine ca_X11_act X hK hG hC hS hb a0 h0 3 (-1) 0 0 wl_4_90 hl.1 (rest := []) rfl (Nat.le_of_ble_eq_true rfl) ⟨Nat.le_of_ble_eq_true rfl, Nat.le_of_ble_eq_true rfl⟩ ⟨Nat.le_of_ble_eq_true rfl, Nat.le_of_ble_eq_true rfl⟩ dX11_sit_21 (fun f5 H locs hf5 hG hS => ?_)
    refine lv_if_ne (tgt := 29) X.1 X.2.1 dX11_sit_24 (by decide) (fun c6 => ?_) (fun c6 => ?_)
    · refine lv_iload_n X.1 X.2.1 dX11_sit_29 rfl (lv_at hl 0 rfl) ?_
      refine lv_if_eq (tgt := 43) X.1 X.2.1 dX11_sit_30 (by decide) (fun c7 => ?_) (fun c7 => ?_)
      · refine lv_aload_n X.1 X.2.1 dX11_sit_43 rfl (lv_at hl 1 rfl) ?_
        refine gf_X11_3 X hK hG h0 wl_2_198 dX11_sit_44 (fun q8 hq8 kq8 => ?_)
        refine gf_X9_5 X hK hG hq8 wl_1_136 dX11_sit_47 (fun f9 hf9 kf9 => ?_)
        exact sg_iret X hr hlk hb hK hC hG hS trivial dX11_sit_50
      · refine lv_aload_n X.1 X.2.1 dX11_sit_33 rfl (lv_at hl 1 rfl) ?_
        refine gf_X11_3 X hK hG h0 wl_2_198 dX11_sit_34 (fun q10 hq10 kq10 => ?_)
        refine gf_X9_4 X hK hG hq10 wl_1_133 dX11_sit_37 (fun f11 hf11 kf11 => ?_)
        refine lv_goto (tgt := 50) X.1 X.2.1 dX11_sit_40 (by decide) ?_
        exact sg_iret X hr hlk hb hK hC hG hS trivial dX11_sit_50
    · refine lv_iconst (v := (-1)) X.1 X.2.1 dX11_sit_27 (by decide +kernel) ?_
      exact sg_iret X hr hlk hb hK hC hG hS trivial dX11_sit_28
  refine lv_if_ne (tgt := 14) X.1 X.2.1 dX11_sit_7 (by decide) (fun c3 => ?_) (fun c3 => ?_)
  · refine lv_iconst (v := 0) X.1 X.2.1 dX11_sit_14 (by decide +kernel) ?_
    exact B4_15 _ _ 0 hS (lv_sub hl [0] rfl) (iv_of (iv_c 0 (a := 0) (b := 0) (by decide +kernel)) (a' := 0) (b' := 1) (by decide +kernel))
  · refine lv_iconst (v := 1) X.1 X.2.1 dX11_sit_10 (by decide +kernel) ?_
    refine lv_goto (tgt := 15) X.1 X.2.1 dX11_sit_11 (by decide) ?_
    exact B4_15 _ _ 1 hS (lv_sub hl [0] rfl) (iv_of (iv_c 1 (a := 1) (b := 1) (by decide +kernel)) (a' := 0) (b' := 1) (by decide +kernel))

theorem ca_X11_sit   (X : CallFix p m c cc nL s args sg_tbl own) (hK : va_K D vwCl tys s) (hG : sgG (KT P) D vwCl (fun q : Nat => base ≤ q) tys ad ks H) (hC : sgC base s) (hS : va_S (fun q : Nat => base ≤ q) s.heap H locs) (hb : base ≤ s.heap.size) (a0 : Nat) (h0 : isK ad ks 11 a0) (hl : Cond.methodLink own index yX11_sit ∈ sg_tbl) (hsize : ls.size = nL) (hst : st0 = [].reverse ++ .ref a0 :: rest) (hW : (rest.map fun v => v.category).sum ≤ 8) (hR : 7 ≤ R.frames ∧ 176 ≤ R.locals) (hf : cells ≤ R.cells ∧ slots ≤ R.slots) (hdg : decode cc pc = .ok (.invokevirtual index, 3)) (kk : ∀ (r : Int32) (H1 : Heap) (locs1 : List Loc), (fun r : Int32 => True) r → sgG (KT P) D vwCl (fun q : Nat => base ≤ q) tys ad ks H1 → va_S (fun q : Nat => base ≤ q) s.heap H1 locs1 → W p l e R s m args below meth c H1 locs1 cells slots Q (F0 m (pc + 3) ls (.int r :: rest))) : W p l e R s m args below meth c H locs cells slots Q (F0 m pc ls st0) :=
  sg_callVi X hK hG hC hS hb (m_X11_sit l a0 h0) h0 (k := 11) (ci := 11) rfl (C := RX11) (T := TX11) (N := 17) rfl wl_4_188 wl_1_1 wl_4_186 wl_4_187 (n := 0) (by decide +kernel) rfl rfl rfl hl hsize hst hW hR hf hdg kk

set_option maxHeartbeats 8000000 in
set_option maxRecDepth 100000 in
theorem m_X11_mole (l : Launch) {D : va_G} {base : Nat} {tys : List (ClassId × FieldType)} {ad ks : List Nat} {P : sgPm} (a0 : Nat) (h0 : isK ad ks 11 a0) (x1 : Int32) : sgMi l (KT P) D vwCl base tys ad ks yX11_mole cX11_mole 2 (some .int) ({ frames := 6, cells := 0, slots := 0, locals := 155 }) [.ref a0, .int x1] (fun r : Int32 => True) := by
  refine sg_ofW (by decide +kernel) (Nat.le_of_ble_eq_true rfl) (fun p e s m below meth c X hr hlk hb hK hC hG ls hl => ?_)
  have hS : va_S (fun q : Nat => base ≤ q) s.heap s.heap [] := va_S.rf
  have hl : lv_has ls 2 [(0, .ref a0), (1, .int x1)] := hl
  refine lv_aload_n X.1 X.2.1 dX11_mole_0 rfl (lv_at hl 0 rfl) ?_
  refine lv_iconst (v := 2) X.1 X.2.1 dX11_mole_1 (by decide +kernel) ?_
  refine lv_iload_n X.1 X.2.1 dX11_mole_2 rfl (lv_at hl 1 rfl) ?_
  refine lv_iconst (v := 0) X.1 X.2.1 dX11_mole_3 (by decide +kernel) ?_
  refine lv_iconst (v := 0) X.1 X.2.1 dX11_mole_4 (by decide +kernel) ?_
  refine ca_X11_act X hK hG hC hS hb a0 h0 2 x1 0 0 wl_4_90 hl.1 (rest := []) rfl (Nat.le_of_ble_eq_true rfl) ⟨Nat.le_of_ble_eq_true rfl, Nat.le_of_ble_eq_true rfl⟩ ⟨Nat.le_of_ble_eq_true rfl, Nat.le_of_ble_eq_true rfl⟩ dX11_mole_5 (fun f1 H locs hf1 hG hS => ?_)
  refine lv_if_eq (tgt := 24) X.1 X.2.1 dX11_mole_8 (by decide) (fun c2 => ?_) (fun c2 => ?_)
  · refine lv_iconst (v := (-1)) X.1 X.2.1 dX11_mole_24 (by decide +kernel) ?_
    exact sg_iret X hr hlk hb hK hC hG hS trivial dX11_mole_25
  · refine lv_aload_n X.1 X.2.1 dX11_mole_11 rfl (lv_at hl 0 rfl) ?_
    refine gf_X11_3 X hK hG h0 wl_2_198 dX11_mole_12 (fun q3 hq3 kq3 => ?_)
    refine gf_X9_0 X hK hG hq3 wl_1_118 dX11_mole_15 (fun f4 hf4 kf4 => ?_)
    refine ca_J6_bitCount_0f7a4 X hK hG hC (fun _ h => h) hS hb f4 wl_4_193 hl.1 (rest := []) rfl (Nat.le_of_ble_eq_true rfl) ⟨Nat.le_of_ble_eq_true rfl, Nat.le_of_ble_eq_true rfl⟩ ⟨Nat.le_of_ble_eq_true rfl, Nat.le_of_ble_eq_true rfl⟩ dX11_mole_18 (fun f5 locs hf5 hS => ?_)
    refine lv_goto (tgt := 25) X.1 X.2.1 dX11_mole_21 (by decide) ?_
    exact sg_iret X hr hlk hb hK hC hG hS trivial dX11_mole_25

theorem ca_X11_mole   (X : CallFix p m c cc nL s args sg_tbl own) (hK : va_K D vwCl tys s) (hG : sgG (KT P) D vwCl (fun q : Nat => base ≤ q) tys ad ks H) (hC : sgC base s) (hS : va_S (fun q : Nat => base ≤ q) s.heap H locs) (hb : base ≤ s.heap.size) (a0 : Nat) (h0 : isK ad ks 11 a0) (x1 : Int32) (hl : Cond.methodLink own index yX11_mole ∈ sg_tbl) (hsize : ls.size = nL) (hst : st0 = [.int x1].reverse ++ .ref a0 :: rest) (hW : (rest.map fun v => v.category).sum ≤ 8) (hR : 7 ≤ R.frames ∧ 176 ≤ R.locals) (hf : cells ≤ R.cells ∧ slots ≤ R.slots) (hdg : decode cc pc = .ok (.invokevirtual index, 3)) (kk : ∀ (r : Int32) (H1 : Heap) (locs1 : List Loc), (fun r : Int32 => True) r → sgG (KT P) D vwCl (fun q : Nat => base ≤ q) tys ad ks H1 → va_S (fun q : Nat => base ≤ q) s.heap H1 locs1 → W p l e R s m args below meth c H1 locs1 cells slots Q (F0 m (pc + 3) ls (.int r :: rest))) : W p l e R s m args below meth c H locs cells slots Q (F0 m pc ls st0) :=
  sg_callVi X hK hG hC hS hb (m_X11_mole l a0 h0 x1) h0 (k := 11) (ci := 11) rfl (C := RX11) (T := TX11) (N := 17) rfl wl_4_192 wl_1_1 wl_4_190 wl_4_191 (n := 1) (by decide +kernel) rfl rfl rfl hl hsize hst hW hR hf hdg kk

set_option maxHeartbeats 8000000 in
set_option maxRecDepth 100000 in
theorem m_X11_draw (l : Launch) {D : va_G} {base : Nat} {tys : List (ClassId × FieldType)} {ad ks : List Nat} {P : sgPm} (a0 : Nat) (h0 : isK ad ks 11 a0) (x1 : Int32) : sgMi l (KT P) D vwCl base tys ad ks yX11_draw cX11_draw 2 (some .int) ({ frames := 0, cells := 0, slots := 0, locals := 0 }) [.ref a0, .int x1] (fun r : Int32 => True) := by
  refine sg_ofW (by decide +kernel) (Nat.le_of_ble_eq_true rfl) (fun p e s m below meth c X hr hlk hb hK hC hG ls hl => ?_)
  have hS : va_S (fun q : Nat => base ≤ q) s.heap s.heap [] := va_S.rf
  have hl : lv_has ls 2 [(0, .ref a0), (1, .int x1)] := hl
  refine lv_aload_n X.1 X.2.1 dX11_draw_0 rfl (lv_at hl 0 rfl) ?_
  refine lv_aload_n X.1 X.2.1 dX11_draw_1 rfl (lv_at hl 0 rfl) ?_
  refine gf_X11_16 X hK hG h0 wl_2_211 dX11_draw_2 (fun g1 hg1 kg1 => ?_)
  refine lv_ldc2 X.1 X.2.1 X.2.2.2.1 (X.2.2.2.2 _ wl_4_206) dX11_draw_5 ?_
  refine lv_lmul X.1 X.2.1 dX11_draw_8 ?_
  refine lv_topl (fun g2 eg2 => ?_)
  refine lv_ldc2 X.1 X.2.1 X.2.2.2.1 (X.2.2.2.2 _ wl_4_207) dX11_draw_9 ?_
  refine lv_ladd X.1 X.2.1 dX11_draw_12 ?_
  refine lv_topl (fun g3 eg3 => ?_)
  refine pf_X11_16 X hK hG hS h0 wl_2_211 ⟨_, rfl⟩ dX11_draw_13 (fun H locs hG hS ku4 ru4 => ?_)
  refine lv_iload_n X.1 X.2.1 dX11_draw_16 rfl (lv_at hl 1 rfl) ?_
  refine lv_iconst (v := 1) X.1 X.2.1 dX11_draw_17 (by decide +kernel) ?_
  refine lv_icmp_ge (tgt := 25) X.1 X.2.1 dX11_draw_18 (by decide) (fun c5 => ?_) (fun c5 => ?_)
  · refine lv_aload_n X.1 X.2.1 dX11_draw_25 rfl (lv_at hl 0 rfl) ?_
    refine gg_X11_16 X hK hG h0 wl_2_211 ku4 dX11_draw_26 ?_
    refine lv_bipush (v := 33) X.1 X.2.1 dX11_draw_29 (by decide +kernel) ?_
    obtain ⟨g6, eg6⟩ : ∃ y : Int64, y = ((g3 : Int64).toUInt64 >>> ((33 : Int32).toInt64.toUInt64 &&& Int64.toUInt64 63)).toInt64 := ⟨_, rfl⟩
    refine lv_lushr (v := g6) X.1 X.2.1 dX11_draw_31 eg6.symm ?_
    refine lv_iload_n X.1 X.2.1 dX11_draw_32 rfl (lv_at hl 1 rfl) ?_
    obtain ⟨g7, eg7⟩ : ∃ y : Int64, y = (x1 : Int32).toInt64 := ⟨_, rfl⟩
    refine lv_i2l (v := g7) X.1 X.2.1 dX11_draw_33 eg7.symm ?_
    refine lv_lrem X.1 X.2.1 dX11_draw_34 (sg_i2l_ne0 eg7 (iv_ne0 (iv_ler (c' := 1) c5 (iv_c 1 (a := 1) (b := 1) (by decide +kernel)) (iv_top x1) (by decide +kernel)) (by decide +kernel))) ?_
    refine lv_topl (fun g8 eg8 => ?_)
    obtain ⟨f9, ef9⟩ : ∃ y : Int32, y = (g8 : Int64).toInt32 := ⟨_, rfl⟩
    refine lv_l2i (v := f9) X.1 X.2.1 dX11_draw_35 ef9.symm ?_
    exact sg_iret X hr hlk hb hK hC hG hS trivial dX11_draw_36
  · refine lv_iconst (v := 0) X.1 X.2.1 dX11_draw_21 (by decide +kernel) ?_
    refine lv_goto (tgt := 36) X.1 X.2.1 dX11_draw_22 (by decide) ?_
    exact sg_iret X hr hlk hb hK hC hG hS trivial dX11_draw_36

theorem ca_X11_draw   (X : CallFix p m c cc nL s args sg_tbl own) (hK : va_K D vwCl tys s) (hG : sgG (KT P) D vwCl (fun q : Nat => base ≤ q) tys ad ks H) (hC : sgC base s) (hS : va_S (fun q : Nat => base ≤ q) s.heap H locs) (hb : base ≤ s.heap.size) (a0 : Nat) (h0 : isK ad ks 11 a0) (x1 : Int32) (hl : Cond.methodLink own index yX11_draw ∈ sg_tbl) (hsize : ls.size = nL) (hst : st0 = [.int x1].reverse ++ .ref a0 :: rest) (hW : (rest.map fun v => v.category).sum ≤ 8) (hR : 1 ≤ R.frames ∧ 21 ≤ R.locals) (hf : cells ≤ R.cells ∧ slots ≤ R.slots) (hdg : decode cc pc = .ok (.invokevirtual index, 3)) (kk : ∀ (r : Int32) (H1 : Heap) (locs1 : List Loc), (fun r : Int32 => True) r → sgG (KT P) D vwCl (fun q : Nat => base ≤ q) tys ad ks H1 → va_S (fun q : Nat => base ≤ q) s.heap H1 locs1 → W p l e R s m args below meth c H1 locs1 cells slots Q (F0 m (pc + 3) ls (.int r :: rest))) : W p l e R s m args below meth c H locs cells slots Q (F0 m pc ls st0) :=
  sg_callVi X hK hG hC hS hb (m_X11_draw l a0 h0 x1) h0 (k := 11) (ci := 11) rfl (C := RX11) (T := TX11) (N := 17) rfl wl_4_205 wl_1_1 wl_4_204 wl_0_26 (n := 1) (by decide +kernel) rfl rfl rfl hl hsize hst hW hR hf hdg kk

set_option maxHeartbeats 8000000 in
set_option maxRecDepth 100000 in
theorem m_X11_playNight (l : Launch) {D : va_G} {base : Nat} {tys : List (ClassId × FieldType)} {ad ks : List Nat} {P : sgPm} (a0 : Nat) (h0 : isK ad ks 11 a0) : sgMv l (KT P) D vwCl base tys ad ks yX11_playNight cX11_playNight 4 none ({ frames := 6, cells := 0, slots := 0, locals := 156 }) [.ref a0] := by
  refine sg_ofW (by decide +kernel) (Nat.le_of_ble_eq_true rfl) (fun p e s m below meth c X hr hlk hb hK hC hG ls hl => ?_)
  have hS : va_S (fun q : Nat => base ≤ q) s.heap s.heap [] := va_S.rf
  have hl : lv_has ls 4 [(0, .ref a0)] := hl
  refine lv_aload_n X.1 X.2.1 dX11_playNight_0 rfl (lv_at hl 0 rfl) ?_
  refine gf_X11_3 X hK hG h0 wl_2_198 dX11_playNight_1 (fun q1 hq1 kq1 => ?_)
  refine gf_X9_2 X hK hG hq1 wl_1_126 dX11_playNight_4 (fun f2 hf2 kf2 => ?_)
  refine lv_iconst (v := 1) X.1 X.2.1 dX11_playNight_7 (by decide +kernel) ?_
  have B4_20 : ∀ (H : Heap) (locs : List Loc) (ls : Array Slot), sgG (KT P) D vwCl (fun q : Nat => base ≤ q) tys ad ks H → va_S (fun q : Nat => base ≤ q) s.heap H locs → lv_has ls 4 [(0, .ref a0)] → W p l e (headSpec (Cond.code yX11_playNight cX11_playNight 4 none :: sg_tbl) ({ frames := 6, cells := 0, slots := 0, locals := 156 })).room s m #[.ref a0] below meth c H locs 0 0 (MQ below (va_Qv (fun (_ : Unit) => True) (fun _ => sgB (KT P) D vwCl base tys ad ks) (fun q : Nat => base ≤ q)) #[.ref a0] s 0 0 (fun q : Nat => base ≤ q)) (F0 m 20 ls []) := by
    intro H locs ls hG hS hl
    refine lv_aload_n X.1 X.2.1 dX11_playNight_20 rfl (lv_at hl 0 rfl) ?_
    refine lv_bipush (v := 100) X.1 X.2.1 dX11_playNight_21 (by decide +kernel) ?_
    refine ca_X11_draw X hK hG hC hS hb a0 h0 100 wl_4_202 hl.1 (rest := []) rfl (Nat.le_of_ble_eq_true rfl) ⟨Nat.le_of_ble_eq_true rfl, Nat.le_of_ble_eq_true rfl⟩ ⟨Nat.le_of_ble_eq_true rfl, Nat.le_of_ble_eq_true rfl⟩ dX11_playNight_23 (fun f5 H locs hf5 hG hS => ?_)
    refine lv_aload_n X.1 X.2.1 dX11_playNight_26 rfl (lv_at hl 0 rfl) ?_
    refine gf_X11_15 X hK hG h0 wl_2_210 dX11_playNight_27 (fun f6 hf6 kf6 => ?_)
    have B8_38 : ∀ (locs : List Loc) (ls : Array Slot) (w8_0 : Int32), va_S (fun q : Nat => base ≤ q) s.heap H locs → lv_has ls 4 [(0, .ref a0)] → iv 0 1 w8_0 → W p l e (headSpec (Cond.code yX11_playNight cX11_playNight 4 none :: sg_tbl) ({ frames := 6, cells := 0, slots := 0, locals := 156 })).room s m #[.ref a0] below meth c H locs 0 0 (MQ below (va_Qv (fun (_ : Unit) => True) (fun _ => sgB (KT P) D vwCl base tys ad ks) (fun q : Nat => base ≤ q)) #[.ref a0] s 0 0 (fun q : Nat => base ≤ q)) (F0 m 38 ls [.int w8_0]) := by
      intro locs ls w8_0 hS hl hw8_0
      refine lv_istore_n (lv' := [(1, .int w8_0), (0, .ref a0)]) X.1 X.2.1 dX11_playNight_38 rfl hl (by decide) rfl (fun ls hl => ?_)
      refine lv_aload_n X.1 X.2.1 dX11_playNight_39 rfl (lv_at hl 1 rfl) ?_
      refine gf_X11_5 X hK hG h0 wl_2_200 dX11_playNight_40 (fun q9 hq9 kq9 => ?_)
      refine lv_aload_n X.1 X.2.1 dX11_playNight_43 rfl (lv_at hl 1 rfl) ?_
      refine gf_X11_3 X hK hG h0 wl_2_198 dX11_playNight_44 (fun q10 hq10 kq10 => ?_)
      refine gf_X9_0 X hK hG hq10 wl_1_118 dX11_playNight_47 (fun f11 hf11 kf11 => ?_)
      refine lv_aload_n X.1 X.2.1 dX11_playNight_50 rfl (lv_at hl 1 rfl) ?_
      refine gg_X11_3 X hK hG h0 wl_2_198 kq10 dX11_playNight_51 ?_
      refine gf_X9_1 X hK hG hq10 wl_1_122 dX11_playNight_54 (fun f12 hf12 kf12 => ?_)
      refine lv_aload_n X.1 X.2.1 dX11_playNight_57 rfl (lv_at hl 1 rfl) ?_
      refine gg_X11_3 X hK hG h0 wl_2_198 kq10 dX11_playNight_58 ?_
      refine gf_X9_3 X hK hG hq10 wl_1_130 dX11_playNight_61 (fun f13 hf13 kf13 => ?_)
      refine ca_X8_growing X hK hG hC hS hb q9 hq9 f11 f12 f13 wl_4_208 hl.1 (rest := []) rfl (Nat.le_of_ble_eq_true rfl) ⟨Nat.le_of_ble_eq_true rfl, Nat.le_of_ble_eq_true rfl⟩ ⟨Nat.le_of_ble_eq_true rfl, Nat.le_of_ble_eq_true rfl⟩ dX11_playNight_64 (fun f14 H locs hf14 hG hS => ?_)
      refine lv_istore_n (lv' := [(2, .int f14), (1, .int w8_0), (0, .ref a0)]) X.1 X.2.1 dX11_playNight_67 rfl hl (by decide) rfl (fun ls hl => ?_)
      refine lv_iload_n X.1 X.2.1 dX11_playNight_68 rfl (lv_at hl 1 rfl) ?_
      have B16_108 : ∀ (H : Heap) (locs : List Loc) (ls : Array Slot), sgG (KT P) D vwCl (fun q : Nat => base ≤ q) tys ad ks H → va_S (fun q : Nat => base ≤ q) s.heap H locs → lv_has ls 4 [(0, .ref a0)] → W p l e (headSpec (Cond.code yX11_playNight cX11_playNight 4 none :: sg_tbl) ({ frames := 6, cells := 0, slots := 0, locals := 156 })).room s m #[.ref a0] below meth c H locs 0 0 (MQ below (va_Qv (fun (_ : Unit) => True) (fun _ => sgB (KT P) D vwCl base tys ad ks) (fun q : Nat => base ≤ q)) #[.ref a0] s 0 0 (fun q : Nat => base ≤ q)) (F0 m 108 ls []) := by
        intro H locs ls hG hS hl
        refine lv_aload_n X.1 X.2.1 dX11_playNight_108 rfl (lv_at hl 0 rfl) ?_
        refine gf_X11_3 X hK hG h0 wl_2_198 dX11_playNight_109 (fun q17 hq17 kq17 => ?_)
        refine gf_X9_7 X hK hG hq17 wl_1_141 dX11_playNight_112 (fun f18 hf18 kf18 => ?_)
        refine lv_if_eq (tgt := 119) X.1 X.2.1 dX11_playNight_115 (by decide) (fun c19 => ?_) (fun c19 => ?_)
        · refine lv_aload_n X.1 X.2.1 dX11_playNight_119 rfl (lv_at hl 0 rfl) ?_
          refine gf_X11_7 X hK hG h0 wl_2_202 dX11_playNight_120 (fun q20 hq20 kq20 => ?_)
          refine lv_aload_n X.1 X.2.1 dX11_playNight_123 rfl (lv_at hl 0 rfl) ?_
          refine gg_X11_3 X hK hG h0 wl_2_198 kq17 dX11_playNight_124 ?_
          refine ca_X0_advise X hK hG hC hS hb q20 hq20 q17 hq17 wl_4_215 hl.1 (rest := []) rfl (Nat.le_of_ble_eq_true rfl) ⟨Nat.le_of_ble_eq_true rfl, Nat.le_of_ble_eq_true rfl⟩ ⟨Nat.le_of_ble_eq_true rfl, Nat.le_of_ble_eq_true rfl⟩ dX11_playNight_127 (fun f21 H locs hf21 hG hS => ?_)
          refine lv_if_eq (tgt := 165) X.1 X.2.1 dX11_playNight_130 (by decide) (fun c22 => ?_) (fun c22 => ?_)
          · refine lv_aload_n X.1 X.2.1 dX11_playNight_165 rfl (lv_at hl 0 rfl) ?_
            refine lv_iconst (v := 3) X.1 X.2.1 dX11_playNight_166 (by decide +kernel) ?_
            refine lv_iconst (v := (-1)) X.1 X.2.1 dX11_playNight_167 (by decide +kernel) ?_
            refine lv_iconst (v := 0) X.1 X.2.1 dX11_playNight_168 (by decide +kernel) ?_
            refine lv_iconst (v := 0) X.1 X.2.1 dX11_playNight_169 (by decide +kernel) ?_
            refine ca_X11_act X hK hG hC hS hb a0 h0 3 (-1) 0 0 wl_4_90 hl.1 (rest := []) rfl (Nat.le_of_ble_eq_true rfl) ⟨Nat.le_of_ble_eq_true rfl, Nat.le_of_ble_eq_true rfl⟩ ⟨Nat.le_of_ble_eq_true rfl, Nat.le_of_ble_eq_true rfl⟩ dX11_playNight_170 (fun f23 H locs hf23 hG hS => ?_)
            refine lv_pop X.1 X.2.1 dX11_playNight_173 rfl ?_
            exact sg_vret X hr hlk hb hK hC hG hS dX11_playNight_174
          · refine lv_aload_n X.1 X.2.1 dX11_playNight_133 rfl (lv_at hl 0 rfl) ?_
            refine gf_X11_7 X hK hG h0 wl_2_202 dX11_playNight_134 (fun q24 hq24 kq24 => ?_)
            refine gf_X0_3 X hK hG hq24 wl_2_124 dX11_playNight_137 (fun f25 hf25 kf25 => ?_)
            refine lv_istore_n (lv' := [(3, .int f25), (0, .ref a0)]) X.1 X.2.1 dX11_playNight_140 rfl hl (by decide) rfl (fun ls hl => ?_)
            refine lv_aload_n X.1 X.2.1 dX11_playNight_141 rfl (lv_at hl 1 rfl) ?_
            refine lv_iconst (v := 1) X.1 X.2.1 dX11_playNight_142 (by decide +kernel) ?_
            refine lv_iload_n X.1 X.2.1 dX11_playNight_143 rfl (lv_at hl 0 rfl) ?_
            refine lv_bipush (v := 100) X.1 X.2.1 dX11_playNight_144 (by decide +kernel) ?_
            refine lv_idiv X.1 X.2.1 dX11_playNight_146 (iv_ne0 (iv_c 100 (a := 100) (b := 100) (by decide +kernel)) (by decide +kernel)) ?_
            refine lv_topi (fun f26 ef26 => ?_)
            refine lv_iload_n X.1 X.2.1 dX11_playNight_147 rfl (lv_at hl 0 rfl) ?_
            refine lv_bipush (v := 10) X.1 X.2.1 dX11_playNight_148 (by decide +kernel) ?_
            refine lv_idiv X.1 X.2.1 dX11_playNight_150 (iv_ne0 (iv_c 10 (a := 10) (b := 10) (by decide +kernel)) (by decide +kernel)) ?_
            refine lv_topi (fun f27 ef27 => ?_)
            refine lv_bipush (v := 10) X.1 X.2.1 dX11_playNight_151 (by decide +kernel) ?_
            refine lv_irem X.1 X.2.1 dX11_playNight_153 (iv_ne0 (iv_c 10 (a := 10) (b := 10) (by decide +kernel)) (by decide +kernel)) ?_
            refine lv_topi (fun f28 ef28 => ?_)
            refine lv_iload_n X.1 X.2.1 dX11_playNight_154 rfl (lv_at hl 0 rfl) ?_
            refine lv_bipush (v := 10) X.1 X.2.1 dX11_playNight_155 (by decide +kernel) ?_
            refine lv_irem X.1 X.2.1 dX11_playNight_157 (iv_ne0 (iv_c 10 (a := 10) (b := 10) (by decide +kernel)) (by decide +kernel)) ?_
            refine lv_topi (fun f29 ef29 => ?_)
            refine ca_X11_act X hK hG hC hS hb a0 h0 1 f26 f28 f29 wl_4_90 hl.1 (rest := []) rfl (Nat.le_of_ble_eq_true rfl) ⟨Nat.le_of_ble_eq_true rfl, Nat.le_of_ble_eq_true rfl⟩ ⟨Nat.le_of_ble_eq_true rfl, Nat.le_of_ble_eq_true rfl⟩ dX11_playNight_158 (fun f30 H locs hf30 hG hS => ?_)
            refine lv_pop X.1 X.2.1 dX11_playNight_161 rfl ?_
            refine lv_goto (tgt := 174) X.1 X.2.1 dX11_playNight_162 (by decide) ?_
            exact sg_vret X hr hlk hb hK hC hG hS dX11_playNight_174
        · exact sg_vret X hr hlk hb hK hC hG hS dX11_playNight_118
      have B31_76 : ∀ (locs : List Loc) (ls : Array Slot), va_S (fun q : Nat => base ≤ q) s.heap H locs → lv_has ls 4 [(0, .ref a0)] → W p l e (headSpec (Cond.code yX11_playNight cX11_playNight 4 none :: sg_tbl) ({ frames := 6, cells := 0, slots := 0, locals := 156 })).room s m #[.ref a0] below meth c H locs 0 0 (MQ below (va_Qv (fun (_ : Unit) => True) (fun _ => sgB (KT P) D vwCl base tys ad ks) (fun q : Nat => base ≤ q)) #[.ref a0] s 0 0 (fun q : Nat => base ≤ q)) (F0 m 76 ls []) := by
        intro locs ls hS hl
        refine lv_aload_n X.1 X.2.1 dX11_playNight_76 rfl (lv_at hl 0 rfl) ?_
        refine lv_iconst (v := 3) X.1 X.2.1 dX11_playNight_77 (by decide +kernel) ?_
        refine lv_iconst (v := (-1)) X.1 X.2.1 dX11_playNight_78 (by decide +kernel) ?_
        refine lv_iconst (v := 0) X.1 X.2.1 dX11_playNight_79 (by decide +kernel) ?_
        refine lv_iconst (v := 0) X.1 X.2.1 dX11_playNight_80 (by decide +kernel) ?_
        refine ca_X11_act X hK hG hC hS hb a0 h0 3 (-1) 0 0 wl_4_90 hl.1 (rest := []) rfl (Nat.le_of_ble_eq_true rfl) ⟨Nat.le_of_ble_eq_true rfl, Nat.le_of_ble_eq_true rfl⟩ ⟨Nat.le_of_ble_eq_true rfl, Nat.le_of_ble_eq_true rfl⟩ dX11_playNight_81 (fun f32 H locs hf32 hG hS => ?_)
        refine lv_pop X.1 X.2.1 dX11_playNight_84 rfl ?_
        refine lv_goto (tgt := 108) X.1 X.2.1 dX11_playNight_85 (by decide) ?_
        exact B16_108 H _ _ hG hS (lv_sub hl [0] rfl)
      refine lv_if_ne (tgt := 76) X.1 X.2.1 dX11_playNight_69 (by decide) (fun c15 => ?_) (fun c15 => ?_)
      · exact B31_76 _ _ hS (lv_sub hl [2] rfl)
      · refine lv_iload_n X.1 X.2.1 dX11_playNight_72 rfl (lv_at hl 0 rfl) ?_
        refine lv_if_ne (tgt := 88) X.1 X.2.1 dX11_playNight_73 (by decide) (fun c33 => ?_) (fun c33 => ?_)
        · refine lv_aload_n X.1 X.2.1 dX11_playNight_88 rfl (lv_at hl 2 rfl) ?_
          refine lv_iconst (v := 0) X.1 X.2.1 dX11_playNight_89 (by decide +kernel) ?_
          refine lv_iload_n X.1 X.2.1 dX11_playNight_90 rfl (lv_at hl 0 rfl) ?_
          refine lv_aload_n X.1 X.2.1 dX11_playNight_91 rfl (lv_at hl 2 rfl) ?_
          refine lv_iload_n X.1 X.2.1 dX11_playNight_92 rfl (lv_at hl 0 rfl) ?_
          refine ca_J6_bitCount_0f7a4 X hK hG hC (fun _ h => h) hS hb f14 wl_4_193 hl.1 (rest := [.ref a0, .int f14, .int 0, .ref a0]) rfl (Nat.le_of_ble_eq_true rfl) ⟨Nat.le_of_ble_eq_true rfl, Nat.le_of_ble_eq_true rfl⟩ ⟨Nat.le_of_ble_eq_true rfl, Nat.le_of_ble_eq_true rfl⟩ dX11_playNight_93 (fun f34 locs hf34 hS => ?_)
          refine ca_X11_draw X hK hG hC hS hb a0 h0 f34 wl_4_202 hl.1 (rest := [.int f14, .int 0, .ref a0]) rfl (Nat.le_of_ble_eq_true rfl) ⟨Nat.le_of_ble_eq_true rfl, Nat.le_of_ble_eq_true rfl⟩ ⟨Nat.le_of_ble_eq_true rfl, Nat.le_of_ble_eq_true rfl⟩ dX11_playNight_96 (fun f35 H locs hf35 hG hS => ?_)
          refine ca_X11_nthCell X hK hG hC (fun _ h => h) hS hb f14 f35 wl_4_212 hl.1 (rest := [.int 0, .ref a0]) rfl (Nat.le_of_ble_eq_true rfl) ⟨Nat.le_of_ble_eq_true rfl, Nat.le_of_ble_eq_true rfl⟩ ⟨Nat.le_of_ble_eq_true rfl, Nat.le_of_ble_eq_true rfl⟩ dX11_playNight_99 (fun f36 locs hf36 hS => ?_)
          refine lv_iconst (v := 0) X.1 X.2.1 dX11_playNight_102 (by decide +kernel) ?_
          refine lv_iconst (v := 0) X.1 X.2.1 dX11_playNight_103 (by decide +kernel) ?_
          refine ca_X11_act X hK hG hC hS hb a0 h0 0 f36 0 0 wl_4_90 hl.1 (rest := []) rfl (Nat.le_of_ble_eq_true rfl) ⟨Nat.le_of_ble_eq_true rfl, Nat.le_of_ble_eq_true rfl⟩ ⟨Nat.le_of_ble_eq_true rfl, Nat.le_of_ble_eq_true rfl⟩ dX11_playNight_104 (fun f37 H locs hf37 hG hS => ?_)
          refine lv_pop X.1 X.2.1 dX11_playNight_107 rfl ?_
          exact B16_108 H _ _ hG hS (lv_sub hl [2] rfl)
        · exact B31_76 _ _ hS (lv_sub hl [2] rfl)
    refine lv_icmp_ge (tgt := 37) X.1 X.2.1 dX11_playNight_30 (by decide) (fun c7 => ?_) (fun c7 => ?_)
    · refine lv_iconst (v := 0) X.1 X.2.1 dX11_playNight_37 (by decide +kernel) ?_
      exact B8_38 _ _ 0 hS (lv_sub hl [0] rfl) (iv_of (iv_c 0 (a := 0) (b := 0) (by decide +kernel)) (a' := 0) (b' := 1) (by decide +kernel))
    · refine lv_iconst (v := 1) X.1 X.2.1 dX11_playNight_33 (by decide +kernel) ?_
      refine lv_goto (tgt := 38) X.1 X.2.1 dX11_playNight_34 (by decide) ?_
      exact B8_38 _ _ 1 hS (lv_sub hl [0] rfl) (iv_of (iv_c 1 (a := 1) (b := 1) (by decide +kernel)) (a' := 0) (b' := 1) (by decide +kernel))
  refine lv_icmp_ne (tgt := 20) X.1 X.2.1 dX11_playNight_8 (by decide) (fun c3 => ?_) (fun c3 => ?_)
  · exact B4_20 s.heap _ _ hG hS (lv_sub hl [0] rfl)
  · refine lv_aload_n X.1 X.2.1 dX11_playNight_11 rfl (lv_at hl 0 rfl) ?_
    refine lv_iconst (v := 3) X.1 X.2.1 dX11_playNight_12 (by decide +kernel) ?_
    refine lv_iconst (v := (-1)) X.1 X.2.1 dX11_playNight_13 (by decide +kernel) ?_
    refine lv_iconst (v := 0) X.1 X.2.1 dX11_playNight_14 (by decide +kernel) ?_
    refine lv_iconst (v := 0) X.1 X.2.1 dX11_playNight_15 (by decide +kernel) ?_
    refine ca_X11_act X hK hG hC hS hb a0 h0 3 (-1) 0 0 wl_4_90 hl.1 (rest := []) rfl (Nat.le_of_ble_eq_true rfl) ⟨Nat.le_of_ble_eq_true rfl, Nat.le_of_ble_eq_true rfl⟩ ⟨Nat.le_of_ble_eq_true rfl, Nat.le_of_ble_eq_true rfl⟩ dX11_playNight_16 (fun f38 H locs hf38 hG hS => ?_)
    refine lv_pop X.1 X.2.1 dX11_playNight_19 rfl ?_
    exact B4_20 H _ _ hG hS (lv_sub hl [0] rfl)

theorem ca_X11_playNight   (X : CallFix p m c cc nL s args sg_tbl own) (hK : va_K D vwCl tys s) (hG : sgG (KT P) D vwCl (fun q : Nat => base ≤ q) tys ad ks H) (hC : sgC base s) (hS : va_S (fun q : Nat => base ≤ q) s.heap H locs) (hb : base ≤ s.heap.size) (a0 : Nat) (h0 : isK ad ks 11 a0) (hl : Cond.methodLink own index yX11_playNight ∈ sg_tbl) (hsize : ls.size = nL) (hst : st0 = [].reverse ++ .ref a0 :: rest) (hW : (rest.map fun v => v.category).sum ≤ 8) (hR : 7 ≤ R.frames ∧ 179 ≤ R.locals) (hf : cells ≤ R.cells ∧ slots ≤ R.slots) (hdg : decode cc pc = .ok (.invokevirtual index, 3)) (kk : ∀ (H1 : Heap) (locs1 : List Loc), sgG (KT P) D vwCl (fun q : Nat => base ≤ q) tys ad ks H1 → va_S (fun q : Nat => base ≤ q) s.heap H1 locs1 → W p l e R s m args below meth c H1 locs1 cells slots Q (F0 m (pc + 3) ls rest)) : W p l e R s m args below meth c H locs cells slots Q (F0 m pc ls st0) :=
  sg_callVv X hK hG hC hS hb (m_X11_playNight l a0 h0) h0 (k := 11) (ci := 11) rfl (C := RX11) (T := TX11) (N := 17) rfl wl_4_201 wl_1_1 wl_4_200 wl_0_25 (n := 0) (by decide +kernel) rfl rfl rfl hl hsize hst hW hR hf hdg kk

set_option maxHeartbeats 8000000 in
set_option maxRecDepth 100000 in
theorem m_X11_games (l : Launch) {D : va_G} {base : Nat} {tys : List (ClassId × FieldType)} {ad ks : List Nat} {P : sgPm} (a0 : Nat) (h0 : isK ad ks 11 a0) (x1 : Int32) (x2 : Int64) : sgMi l (KT P) D vwCl base tys ad ks yX11_games cX11_games 5 (some .int) ({ frames := 7, cells := 0, slots := 0, locals := 179 }) [.ref a0, .int x1, .long x2] (fun r : Int32 => True) := by
  refine sg_ofW (by decide +kernel) (Nat.le_of_ble_eq_true rfl) (fun p e s m below meth c X hr hlk hb hK hC hG ls hl => ?_)
  have hS : va_S (fun q : Nat => base ≤ q) s.heap s.heap [] := va_S.rf
  have hl : lv_has ls 5 [(0, .ref a0), (1, .int x1), (2, .long x2)] := hl
  refine lv_aload_n X.1 X.2.1 dX11_games_0 rfl (lv_at hl 0 rfl) ?_
  refine ca_X11_noLawn X hK hG hC (fun _ h => h) hS hb a0 h0 wl_4_74 hl.1 (rest := []) rfl (Nat.le_of_ble_eq_true rfl) ⟨Nat.le_of_ble_eq_true rfl, Nat.le_of_ble_eq_true rfl⟩ ⟨Nat.le_of_ble_eq_true rfl, Nat.le_of_ble_eq_true rfl⟩ dX11_games_1 (fun f1 locs hf1 hS => ?_)
  refine lv_if_ne (tgt := 28) X.1 X.2.1 dX11_games_4 (by decide) (fun c2 => ?_) (fun c2 => ?_)
  · refine lv_iconst (v := (-1)) X.1 X.2.1 dX11_games_28 (by decide +kernel) ?_
    exact sg_iret X hr hlk hb hK hC hG hS trivial dX11_games_29
  · refine lv_aload_n X.1 X.2.1 dX11_games_7 rfl (lv_at hl 0 rfl) ?_
    refine gf_X11_3 X hK hG h0 wl_2_198 dX11_games_8 (fun q3 hq3 kq3 => ?_)
    refine gf_X9_7 X hK hG hq3 wl_1_141 dX11_games_11 (fun f4 hf4 kf4 => ?_)
    refine lv_if_ne (tgt := 28) X.1 X.2.1 dX11_games_14 (by decide) (fun c5 => ?_) (fun c5 => ?_)
    · refine lv_iconst (v := (-1)) X.1 X.2.1 dX11_games_28 (by decide +kernel) ?_
      exact sg_iret X hr hlk hb hK hC hG hS trivial dX11_games_29
    · refine lv_iload_n X.1 X.2.1 dX11_games_17 rfl (lv_at hl 1 rfl) ?_
      refine lv_iconst (v := 1) X.1 X.2.1 dX11_games_18 (by decide +kernel) ?_
      refine lv_icmp_lt (tgt := 28) X.1 X.2.1 dX11_games_19 (by decide) (fun c6 => ?_) (fun c6 => ?_)
      · refine lv_iconst (v := (-1)) X.1 X.2.1 dX11_games_28 (by decide +kernel) ?_
        exact sg_iret X hr hlk hb hK hC hG hS trivial dX11_games_29
      · refine lv_iload_n X.1 X.2.1 dX11_games_22 rfl (lv_at hl 1 rfl) ?_
        refine lv_bipush (v := 30) X.1 X.2.1 dX11_games_23 (by decide +kernel) ?_
        refine lv_icmp_le (tgt := 30) X.1 X.2.1 dX11_games_25 (by decide) (fun c7 => ?_) (fun c7 => ?_)
        · refine lv_aload_n X.1 X.2.1 dX11_games_30 rfl (lv_at hl 0 rfl) ?_
          refine lv_lload_n X.1 X.2.1 dX11_games_31 rfl (lv_at hl 2 rfl) ?_
          refine pf_X11_16 X hK hG hS h0 wl_2_211 ⟨_, rfl⟩ dX11_games_32 (fun H locs hG hS ku8 ru8 => ?_)
          refine lv_iconst (v := 0) X.1 X.2.1 dX11_games_35 (by decide +kernel) ?_
          refine lv_istore (lv' := [(4, .int 0), (0, .ref a0), (1, .int x1), (2, .long x2)]) X.1 X.2.1 dX11_games_36 hl (by decide) rfl (fun ls hl => ?_)
          have B9_38 : ∀ (N : Nat) (H : Heap) (locs : List Loc) (ls : Array Slot) (z9_4 : Int32), sgG (KT P) D vwCl (fun q : Nat => base ≤ q) tys ad ks H → va_S (fun q : Nat => base ≤ q) s.heap H locs → lv_has ls 5 [(0, .ref a0), (1, .int x1), (4, .int z9_4)] → iv 0 30 z9_4 → (31 - z9_4.toInt).toNat ≤ N → W p l e (headSpec (Cond.code yX11_games cX11_games 5 (some .int) :: sg_tbl) ({ frames := 7, cells := 0, slots := 0, locals := 179 })).room s m #[.ref a0, .int x1, .long x2] below meth c H locs 0 0 (MQ below (va_Qi (fun r (_ : Unit) => (fun r : Int32 => True) r) (fun _ => sgB (KT P) D vwCl base tys ad ks) (fun q : Nat => base ≤ q)) #[.ref a0, .int x1, .long x2] s 0 0 (fun q : Nat => base ≤ q)) (F0 m 38 ls []) := by
            intro N; induction N with
            | zero =>
              intro H locs ls z9_4 hG hS hl hz9_4 hN
              exact absurd hN (by have := iv_up hz9_4; omega)
            | succ N ih9 =>
              intro H locs ls z9_4 hG hS hl hz9_4 hN9
              refine lv_iload X.1 X.2.1 dX11_games_38 (lv_at hl 2 rfl) ?_
              refine lv_iload_n X.1 X.2.1 dX11_games_40 rfl (lv_at hl 1 rfl) ?_
              have B11_64 : ∀ (locs : List Loc) (ls : Array Slot), va_S (fun q : Nat => base ≤ q) s.heap H locs → lv_has ls 5 [(0, .ref a0)] → W p l e (headSpec (Cond.code yX11_games cX11_games 5 (some .int) :: sg_tbl) ({ frames := 7, cells := 0, slots := 0, locals := 179 })).room s m #[.ref a0, .int x1, .long x2] below meth c H locs 0 0 (MQ below (va_Qi (fun r (_ : Unit) => (fun r : Int32 => True) r) (fun _ => sgB (KT P) D vwCl base tys ad ks) (fun q : Nat => base ≤ q)) #[.ref a0, .int x1, .long x2] s 0 0 (fun q : Nat => base ≤ q)) (F0 m 64 ls []) := by
                intro locs ls hS hl
                refine lv_aload_n X.1 X.2.1 dX11_games_64 rfl (lv_at hl 0 rfl) ?_
                refine gf_X11_3 X hK hG h0 wl_2_198 dX11_games_65 (fun q12 hq12 kq12 => ?_)
                refine gf_X9_3 X hK hG hq12 wl_1_130 dX11_games_68 (fun f13 hf13 kf13 => ?_)
                exact sg_iret X hr hlk hb hK hC hG hS trivial dX11_games_71
              refine lv_icmp_ge (tgt := 64) X.1 X.2.1 dX11_games_41 (by decide) (fun c10 => ?_) (fun c10 => ?_)
              · exact B11_64 _ _ hS (lv_sub hl [0] rfl)
              · refine lv_aload_n X.1 X.2.1 dX11_games_44 rfl (lv_at hl 0 rfl) ?_
                refine gf_X11_3 X hK hG h0 wl_2_198 dX11_games_45 (fun q14 hq14 kq14 => ?_)
                refine gf_X9_7 X hK hG hq14 wl_1_141 dX11_games_48 (fun f15 hf15 kf15 => ?_)
                refine lv_if_ne (tgt := 64) X.1 X.2.1 dX11_games_51 (by decide) (fun c16 => ?_) (fun c16 => ?_)
                · exact B11_64 _ _ hS (lv_sub hl [0] rfl)
                · refine lv_aload_n X.1 X.2.1 dX11_games_54 rfl (lv_at hl 0 rfl) ?_
                  refine ca_X11_playNight X hK hG hC hS hb a0 h0 wl_4_198 hl.1 (rest := []) rfl (Nat.le_of_ble_eq_true rfl) ⟨Nat.le_of_ble_eq_true rfl, Nat.le_of_ble_eq_true rfl⟩ ⟨Nat.le_of_ble_eq_true rfl, Nat.le_of_ble_eq_true rfl⟩ dX11_games_55 (fun H locs hG hS => ?_)
                  obtain ⟨y18, ey18⟩ : ∃ y : Int32, y = z9_4 + Int32.ofInt 1 := ⟨_, rfl⟩
                  refine lv_iinc (v := y18) (lv' := [(4, .int y18), (0, .ref a0), (1, .int x1)]) X.1 X.2.1 dX11_games_58 hl (k := 2) rfl ey18.symm (by decide) rfl (fun ls hl => ?_)
                  refine lv_goto (tgt := 38) X.1 X.2.1 dX11_games_61 (by decide) ?_
                  exact ih9 H _ _ y18 hG hS (lv_sub hl [1, 2, 0] rfl) (iv_of (iv_add (a' := 1) (b' := 30) ey18 (iv_lt (b' := 29) (iv_gt_of c10) hz9_4 (iv_le (b' := 30) c7 (iv_ler (c' := 1) (iv_ge_of c6) (iv_c 1 (a := 1) (b := 1) (by decide +kernel)) (iv_top x1) (by decide +kernel)) (iv_c 30 (a := 30) (b := 30) (by decide +kernel)) (by decide +kernel)) (by decide +kernel)) (iv_c _ (a := 1) (b := 1) (by decide +kernel)) (by decide +kernel)) (a' := 0) (b' := 30) (by decide +kernel)) (iv_stepU ey18 (iv_lt (b' := 29) (iv_gt_of c10) hz9_4 (iv_le (b' := 30) c7 (iv_ler (c' := 1) (iv_ge_of c6) (iv_c 1 (a := 1) (b := 1) (by decide +kernel)) (iv_top x1) (by decide +kernel)) (iv_c 30 (a := 30) (b := 30) (by decide +kernel)) (by decide +kernel)) (by decide +kernel)) (by decide +kernel) hN9)
          exact B9_38 _ H _ _ 0 hG hS (lv_sub hl [1, 2, 0] rfl) (iv_of (iv_c 0 (a := 0) (b := 0) (by decide +kernel)) (a' := 0) (b' := 30) (by decide +kernel)) (Nat.le_refl _)
        · refine lv_iconst (v := (-1)) X.1 X.2.1 dX11_games_28 (by decide +kernel) ?_
          exact sg_iret X hr hlk hb hK hC hG hS trivial dX11_games_29

theorem ca_X11_games   (X : CallFix p m c cc nL s args sg_tbl own) (hK : va_K D vwCl tys s) (hG : sgG (KT P) D vwCl (fun q : Nat => base ≤ q) tys ad ks H) (hC : sgC base s) (hS : va_S (fun q : Nat => base ≤ q) s.heap H locs) (hb : base ≤ s.heap.size) (a0 : Nat) (h0 : isK ad ks 11 a0) (x1 : Int32) (x2 : Int64) (hl : Cond.methodLink own index yX11_games ∈ sg_tbl) (hsize : ls.size = nL) (hst : st0 = [.int x1, .long x2].reverse ++ .ref a0 :: rest) (hW : (rest.map fun v => v.category).sum ≤ 8) (hR : 8 ≤ R.frames ∧ 203 ≤ R.locals) (hf : cells ≤ R.cells ∧ slots ≤ R.slots) (hdg : decode cc pc = .ok (.invokevirtual index, 3)) (kk : ∀ (r : Int32) (H1 : Heap) (locs1 : List Loc), (fun r : Int32 => True) r → sgG (KT P) D vwCl (fun q : Nat => base ≤ q) tys ad ks H1 → va_S (fun q : Nat => base ≤ q) s.heap H1 locs1 → W p l e R s m args below meth c H1 locs1 cells slots Q (F0 m (pc + 3) ls (.int r :: rest))) : W p l e R s m args below meth c H locs cells slots Q (F0 m pc ls st0) :=
  sg_callVi X hK hG hC hS hb (m_X11_games l a0 h0 x1 x2) h0 (k := 11) (ci := 11) rfl (C := RX11) (T := TX11) (N := 17) rfl wl_4_197 wl_1_1 wl_4_195 wl_4_196 (n := 2) (by decide +kernel) rfl rfl rfl hl hsize hst hW hR hf hdg kk

set_option maxHeartbeats 8000000 in
set_option maxRecDepth 100000 in
theorem m_X11_undo (l : Launch) {D : va_G} {base : Nat} {tys : List (ClassId × FieldType)} {ad ks : List Nat} {P : sgPm} (a0 : Nat) (h0 : isK ad ks 11 a0) : sgMi l (KT P) D vwCl base tys ad ks yX11_undo cX11_undo 1 (some .int) ({ frames := 2, cells := 0, slots := 0, locals := 42 }) [.ref a0] (fun r : Int32 => True) := by
  refine sg_ofW (by decide +kernel) (Nat.le_of_ble_eq_true rfl) (fun p e s m below meth c X hr hlk hb hK hC hG ls hl => ?_)
  have hS : va_S (fun q : Nat => base ≤ q) s.heap s.heap [] := va_S.rf
  have hl : lv_has ls 1 [(0, .ref a0)] := hl
  refine lv_aload_n X.1 X.2.1 dX11_undo_0 rfl (lv_at hl 0 rfl) ?_
  refine gf_X11_4 X hK hG h0 wl_2_199 dX11_undo_1 (fun q1 hq1 kq1 => ?_)
  refine lv_aload_n X.1 X.2.1 dX11_undo_4 rfl (lv_at hl 0 rfl) ?_
  refine gf_X11_3 X hK hG h0 wl_2_198 dX11_undo_5 (fun q2 hq2 kq2 => ?_)
  refine ca_X5_takeBack X hK hG hC hS hb q1 hq1 q2 hq2 wl_4_237 hl.1 (rest := []) rfl (Nat.le_of_ble_eq_true rfl) ⟨Nat.le_of_ble_eq_true rfl, Nat.le_of_ble_eq_true rfl⟩ ⟨Nat.le_of_ble_eq_true rfl, Nat.le_of_ble_eq_true rfl⟩ dX11_undo_8 (fun f3 H locs hf3 hG hS => ?_)
  refine lv_if_eq (tgt := 24) X.1 X.2.1 dX11_undo_11 (by decide) (fun c4 => ?_) (fun c4 => ?_)
  · refine lv_iconst (v := (-1)) X.1 X.2.1 dX11_undo_24 (by decide +kernel) ?_
    exact sg_iret X hr hlk hb hK hC hG hS trivial dX11_undo_25
  · refine lv_aload_n X.1 X.2.1 dX11_undo_14 rfl (lv_at hl 0 rfl) ?_
    refine gf_X11_4 X hK hG h0 wl_2_199 dX11_undo_15 (fun q5 hq5 kq5 => ?_)
    refine gf_X5_4 X hK hG hq5 wl_1_173 dX11_undo_18 (fun f6 hf6 kf6 => ?_)
    refine lv_goto (tgt := 25) X.1 X.2.1 dX11_undo_21 (by decide) ?_
    exact sg_iret X hr hlk hb hK hC hG hS trivial dX11_undo_25

theorem ca_X11_undo   (X : CallFix p m c cc nL s args sg_tbl own) (hK : va_K D vwCl tys s) (hG : sgG (KT P) D vwCl (fun q : Nat => base ≤ q) tys ad ks H) (hC : sgC base s) (hS : va_S (fun q : Nat => base ≤ q) s.heap H locs) (hb : base ≤ s.heap.size) (a0 : Nat) (h0 : isK ad ks 11 a0) (hl : Cond.methodLink own index yX11_undo ∈ sg_tbl) (hsize : ls.size = nL) (hst : st0 = [].reverse ++ .ref a0 :: rest) (hW : (rest.map fun v => v.category).sum ≤ 8) (hR : 3 ≤ R.frames ∧ 62 ≤ R.locals) (hf : cells ≤ R.cells ∧ slots ≤ R.slots) (hdg : decode cc pc = .ok (.invokevirtual index, 3)) (kk : ∀ (r : Int32) (H1 : Heap) (locs1 : List Loc), (fun r : Int32 => True) r → sgG (KT P) D vwCl (fun q : Nat => base ≤ q) tys ad ks H1 → va_S (fun q : Nat => base ≤ q) s.heap H1 locs1 → W p l e R s m args below meth c H1 locs1 cells slots Q (F0 m (pc + 3) ls (.int r :: rest))) : W p l e R s m args below meth c H locs cells slots Q (F0 m pc ls st0) :=
  sg_callVi X hK hG hC hS hb (m_X11_undo l a0 h0) h0 (k := 11) (ci := 11) rfl (C := RX11) (T := TX11) (N := 17) rfl wl_4_236 wl_1_1 wl_4_234 wl_4_235 (n := 0) (by decide +kernel) rfl rfl rfl hl hsize hst hW hR hf hdg kk

set_option maxHeartbeats 8000000 in
set_option maxRecDepth 100000 in
theorem m_X11_log (l : Launch) {D : va_G} {base : Nat} {tys : List (ClassId × FieldType)} {ad ks : List Nat} {P : sgPm} (a0 : Nat) (h0 : isK ad ks 11 a0) (x1 : Int32) (x2 : Int32) : sgMi l (KT P) D vwCl base tys ad ks yX11_log cX11_log 3 (some .int) ({ frames := 2, cells := 0, slots := 0, locals := 33 }) [.ref a0, .int x1, .int x2] (fun r : Int32 => True) := by
  refine sg_ofW (by decide +kernel) (Nat.le_of_ble_eq_true rfl) (fun p e s m below meth c X hr hlk hb hK hC hG ls hl => ?_)
  have hS : va_S (fun q : Nat => base ≤ q) s.heap s.heap [] := va_S.rf
  have hl : lv_has ls 3 [(0, .ref a0), (1, .int x1), (2, .int x2)] := hl
  refine lv_iload_n X.1 X.2.1 dX11_log_0 rfl (lv_at hl 1 rfl) ?_
  refine lv_if_lt (tgt := 24) X.1 X.2.1 dX11_log_1 (by decide) (fun c1 => ?_) (fun c1 => ?_)
  · refine lv_ldcw X.1 X.2.1 X.2.2.2.1 (X.2.2.2.2 _ wl_5_9) dX11_log_24 ?_
    exact sg_iret X hr hlk hb hK hC hG hS trivial dX11_log_27
  · refine lv_iload_n X.1 X.2.1 dX11_log_4 rfl (lv_at hl 1 rfl) ?_
    refine lv_aload_n X.1 X.2.1 dX11_log_5 rfl (lv_at hl 0 rfl) ?_
    refine gf_X11_4 X hK hG h0 wl_2_199 dX11_log_6 (fun q2 hq2 kq2 => ?_)
    refine ca_X5_shown X hK hG hC (fun _ h => h) hS hb q2 hq2 wl_5_5 hl.1 (rest := [.int x1]) rfl (Nat.le_of_ble_eq_true rfl) ⟨Nat.le_of_ble_eq_true rfl, Nat.le_of_ble_eq_true rfl⟩ ⟨Nat.le_of_ble_eq_true rfl, Nat.le_of_ble_eq_true rfl⟩ dX11_log_9 (fun f3 locs hf3 hS => ?_)
    refine lv_icmp_ge (tgt := 24) X.1 X.2.1 dX11_log_12 (by decide) (fun c4 => ?_) (fun c4 => ?_)
    · refine lv_ldcw X.1 X.2.1 X.2.2.2.1 (X.2.2.2.2 _ wl_5_9) dX11_log_24 ?_
      exact sg_iret X hr hlk hb hK hC hG hS trivial dX11_log_27
    · refine lv_iload_n X.1 X.2.1 dX11_log_15 rfl (lv_at hl 2 rfl) ?_
      refine lv_if_lt (tgt := 24) X.1 X.2.1 dX11_log_16 (by decide) (fun c5 => ?_) (fun c5 => ?_)
      · refine lv_ldcw X.1 X.2.1 X.2.2.2.1 (X.2.2.2.2 _ wl_5_9) dX11_log_24 ?_
        exact sg_iret X hr hlk hb hK hC hG hS trivial dX11_log_27
      · refine lv_iload_n X.1 X.2.1 dX11_log_19 rfl (lv_at hl 2 rfl) ?_
        refine lv_iconst (v := 3) X.1 X.2.1 dX11_log_20 (by decide +kernel) ?_
        refine lv_icmp_le (tgt := 28) X.1 X.2.1 dX11_log_21 (by decide) (fun c6 => ?_) (fun c6 => ?_)
        · refine lv_aload_n X.1 X.2.1 dX11_log_28 rfl (lv_at hl 0 rfl) ?_
          refine gg_X11_4 X hK hG h0 wl_2_199 kq2 dX11_log_29 ?_
          refine lv_iload_n X.1 X.2.1 dX11_log_32 rfl (lv_at hl 1 rfl) ?_
          refine ca_X5_deed X hK hG hC (fun _ h => h) hS hb q2 hq2 x1 wl_5_10 hl.1 (rest := []) rfl (Nat.le_of_ble_eq_true rfl) ⟨Nat.le_of_ble_eq_true rfl, Nat.le_of_ble_eq_true rfl⟩ ⟨Nat.le_of_ble_eq_true rfl, Nat.le_of_ble_eq_true rfl⟩ dX11_log_33 (fun f7 locs hf7 hS => ?_)
          refine lv_iload_n X.1 X.2.1 dX11_log_36 rfl (lv_at hl 2 rfl) ?_
          refine ca_X3_unpacked X hK hG hC (fun _ h => h) hS hb f7 x2 wl_5_14 hl.1 (rest := []) rfl (Nat.le_of_ble_eq_true rfl) ⟨Nat.le_of_ble_eq_true rfl, Nat.le_of_ble_eq_true rfl⟩ ⟨Nat.le_of_ble_eq_true rfl, Nat.le_of_ble_eq_true rfl⟩ dX11_log_37 (fun f8 locs hf8 hS => ?_)
          exact sg_iret X hr hlk hb hK hC hG hS trivial dX11_log_40
        · refine lv_ldcw X.1 X.2.1 X.2.2.2.1 (X.2.2.2.2 _ wl_5_9) dX11_log_24 ?_
          exact sg_iret X hr hlk hb hK hC hG hS trivial dX11_log_27

theorem ca_X11_log   (X : CallFix p m c cc nL s args sg_tbl own) (hK : va_K D vwCl tys s) (hG : sgG (KT P) D vwCl (fun q : Nat => base ≤ q) tys ad ks H) (hC : sgC base s) (hS : va_S (fun q : Nat => base ≤ q) s.heap H locs) (hb : base ≤ s.heap.size) (a0 : Nat) (h0 : isK ad ks 11 a0) (x1 : Int32) (x2 : Int32) (hl : Cond.methodLink own index yX11_log ∈ sg_tbl) (hsize : ls.size = nL) (hst : st0 = [.int x1, .int x2].reverse ++ .ref a0 :: rest) (hW : (rest.map fun v => v.category).sum ≤ 8) (hR : 3 ≤ R.frames ∧ 55 ≤ R.locals) (hf : cells ≤ R.cells ∧ slots ≤ R.slots) (hdg : decode cc pc = .ok (.invokevirtual index, 3)) (kk : ∀ (r : Int32) (H1 : Heap) (locs1 : List Loc), (fun r : Int32 => True) r → sgG (KT P) D vwCl (fun q : Nat => base ≤ q) tys ad ks H1 → va_S (fun q : Nat => base ≤ q) s.heap H1 locs1 → W p l e R s m args below meth c H1 locs1 cells slots Q (F0 m (pc + 3) ls (.int r :: rest))) : W p l e R s m args below meth c H locs cells slots Q (F0 m pc ls st0) :=
  sg_callVi X hK hG hC hS hb (m_X11_log l a0 h0 x1 x2) h0 (k := 11) (ci := 11) rfl (C := RX11) (T := TX11) (N := 17) rfl wl_5_4 wl_1_1 wl_5_2 wl_5_3 (n := 2) (by decide +kernel) rfl rfl rfl hl hsize hst hW hR hf hdg kk
end
