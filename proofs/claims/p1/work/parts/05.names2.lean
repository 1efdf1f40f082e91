def RJ6 : String := "java/lang/Integer"
def RJ7 : String := "java/util/Arrays"
abbrev cJ6_bitCount_0f7a4 : ByteArray := prog_20_method_49_code
def yJ6_bitCount_0f7a4 : MethodName := ⟨RJ6, "bitCount", "(I)I"⟩
abbrev cJ7_fill_53178 : ByteArray := prog_30_method_103_code
def yJ7_fill_53178 : MethodName := ⟨RJ7, "fill", "([II)V"⟩
abbrev cX10_demand : ByteArray := prog_12_method_9_code
def yX10_demand : MethodName := ⟨RX10, "demand", "(I)Z"⟩
abbrev cX10_rewind : ByteArray := prog_12_method_4_code
def yX10_rewind : MethodName := ⟨RX10, "rewind", "()V"⟩
abbrev cX10_sign : ByteArray := prog_12_method_5_code
def yX10_sign : MethodName := ⟨RX10, "sign", "()I"⟩
abbrev cX10_wrong : ByteArray := prog_12_method_7_code
def yX10_wrong : MethodName := ⟨RX10, "wrong", "()Z"⟩
abbrev cX11_act : ByteArray := prog_1_method_20_code
def yX11_act : MethodName := ⟨RX11, "act", "(IIII)Z"⟩
abbrev cX11_advice : ByteArray := prog_1_method_34_code
def yX11_advice : MethodName := ⟨RX11, "advice", "(I)I"⟩
abbrev cX11_alike : ByteArray := prog_1_method_46_code
def yX11_alike : MethodName := ⟨RX11, "alike", "(I)I"⟩
abbrev cX11_answers : ByteArray := prog_1_method_33_code
def yX11_answers : MethodName := ⟨RX11, "answers", "(I)I"⟩
abbrev cX11_back : ByteArray := prog_1_method_54_code
def yX11_back : MethodName := ⟨RX11, "back", "()I"⟩
abbrev cX11_book : ByteArray := prog_1_method_43_code
def yX11_book : MethodName := ⟨RX11, "book", "(IZ)I"⟩
abbrev cX11_count : ByteArray := prog_1_method_55_code
def yX11_count : MethodName := ⟨RX11, "count", "(I)I"⟩
abbrev cX11_cut : ByteArray := prog_1_method_17_code
def yX11_cut : MethodName := ⟨RX11, "cut", "(III)I"⟩
abbrev cX11_cuts : ByteArray := prog_1_method_32_code
def yX11_cuts : MethodName := ⟨RX11, "cuts", "(I)I"⟩
abbrev cX11_drought : ByteArray := prog_1_method_15_code
def yX11_drought : MethodName := ⟨RX11, "drought", "(I)Z"⟩
abbrev cX11_end : ByteArray := prog_1_method_3_code
def yX11_end : MethodName := ⟨RX11, "end", "(I)Z"⟩
abbrev cX11_fault : ByteArray := prog_1_method_4_code
def yX11_fault : MethodName := ⟨RX11, "fault", "(I)I"⟩
abbrev cX11_fewest : ByteArray := prog_1_method_42_code
def yX11_fewest : MethodName := ⟨RX11, "fewest", "()I"⟩
abbrev cX11_fit : ByteArray := prog_1_method_44_code
def yX11_fit : MethodName := ⟨RX11, "fit", "(I)I"⟩
abbrev cX11_forced : ByteArray := prog_1_method_37_code
def yX11_forced : MethodName := ⟨RX11, "forced", "()I"⟩
abbrev cX11_games : ByteArray := prog_1_method_21_code
def yX11_games : MethodName := ⟨RX11, "games", "(IJ)I"⟩
abbrev cX11_grow : ByteArray := prog_1_method_16_code
def yX11_grow : MethodName := ⟨RX11, "grow", "(I)I"⟩
abbrev cX11_holds : ByteArray := prog_1_method_36_code
def yX11_holds : MethodName := ⟨RX11, "holds", "(I)I"⟩
abbrev cX11_image : ByteArray := prog_1_method_53_code
def yX11_image : MethodName := ⟨RX11, "image", "()I"⟩
abbrev cX11_isCell : ByteArray := prog_1_method_9_code
def yX11_isCell : MethodName := ⟨RX11, "isCell", "(I)Z"⟩
abbrev cX11_isGame : ByteArray := prog_1_method_10_code
def yX11_isGame : MethodName := ⟨RX11, "isGame", "(I)Z"⟩
abbrev cX11_law : ByteArray := prog_1_method_14_code
def yX11_law : MethodName := ⟨RX11, "law", "(I)Z"⟩
abbrev cX11_log : ByteArray := prog_1_method_26_code
def yX11_log : MethodName := ⟨RX11, "log", "(II)I"⟩
abbrev cX11_longest : ByteArray := prog_1_method_52_code
def yX11_longest : MethodName := ⟨RX11, "longest", "()I"⟩
abbrev cX11_lookByLaw : ByteArray := prog_1_method_7_code
def yX11_lookByLaw : MethodName := ⟨RX11, "lookByLaw", "()V"⟩
abbrev cX11_meant : ByteArray := prog_1_method_38_code
def yX11_meant : MethodName := ⟨RX11, "meant", "()I"⟩
abbrev cX11_missing : ByteArray := prog_1_method_30_code
def yX11_missing : MethodName := ⟨RX11, "missing", "(III)I"⟩
abbrev cX11_mole : ByteArray := prog_1_method_19_code
def yX11_mole : MethodName := ⟨RX11, "mole", "(I)I"⟩
abbrev cX11_move : ByteArray := prog_1_method_27_code
def yX11_move : MethodName := ⟨RX11, "move", "(III)I"⟩
abbrev cX11_noLawn : ByteArray := prog_1_method_8_code
def yX11_noLawn : MethodName := ⟨RX11, "noLawn", "()Z"⟩
abbrev cX11_odds : ByteArray := prog_1_method_49_code
def yX11_odds : MethodName := ⟨RX11, "odds", "(II)I"⟩
abbrev cX11_openNight : ByteArray := prog_1_method_35_code
def yX11_openNight : MethodName := ⟨RX11, "openNight", "()Z"⟩
abbrev cX11_openings : ByteArray := prog_1_method_47_code
def yX11_openings : MethodName := ⟨RX11, "openings", "()I"⟩
abbrev cX11_parts : ByteArray := prog_1_method_39_code
def yX11_parts : MethodName := ⟨RX11, "parts", "(I)I"⟩
abbrev cX11_perform : ByteArray := prog_1_method_29_code
def yX11_perform : MethodName := ⟨RX11, "perform", "(I)I"⟩
abbrev cX11_room : ByteArray := prog_1_method_51_code
def yX11_room : MethodName := ⟨RX11, "room", "()I"⟩
abbrev cX11_rule : ByteArray := prog_1_method_11_code
def yX11_rule : MethodName := ⟨RX11, "rule", "(I)I"⟩
abbrev cX11_run : ByteArray := prog_1_method_28_code
def yX11_run : MethodName := ⟨RX11, "run", "(I)I"⟩
abbrev cX11_sit : ByteArray := prog_1_method_18_code
def yX11_sit : MethodName := ⟨RX11, "sit", "()I"⟩
abbrev cX11_sumOf : ByteArray := prog_1_method_40_code
def yX11_sumOf : MethodName := ⟨RX11, "sumOf", "(I)I"⟩
abbrev cX11_tellLawn : ByteArray := prog_1_method_6_code
def yX11_tellLawn : MethodName := ⟨RX11, "tellLawn", "()I"⟩
abbrev cX11_tells : ByteArray := prog_1_method_45_code
def yX11_tells : MethodName := ⟨RX11, "tells", "()I"⟩
abbrev cX11_text : ByteArray := prog_1_method_5_code
def yX11_text : MethodName := ⟨RX11, "text", "(I)I"⟩
abbrev cX11_threats : ByteArray := prog_1_method_31_code
def yX11_threats : MethodName := ⟨RX11, "threats", "()I"⟩
abbrev cX11_undo : ByteArray := prog_1_method_25_code
def yX11_undo : MethodName := ⟨RX11, "undo", "()I"⟩
abbrev cX11_where : ByteArray := prog_1_method_50_code
def yX11_where : MethodName := ⟨RX11, "where", "(I)I"⟩
abbrev cX11_winning : ByteArray := prog_1_method_41_code
def yX11_winning : MethodName := ⟨RX11, "winning", "()I"⟩
abbrev cX3_read : ByteArray := prog_5_method_4_code
def yX3_read : MethodName := ⟨RX3, "read", "(LLawnAhead$Tape;)Z"⟩
abbrev cX3_readMove : ByteArray := prog_5_method_5_code
def yX3_readMove : MethodName := ⟨RX3, "readMove", "(LLawnAhead$Tape;)I"⟩
abbrev cX4_clear : ByteArray := prog_6_method_3_code
def yX4_clear : MethodName := ⟨RX4, "clear", "()V"⟩
abbrev cX4_mayCome : ByteArray := prog_6_method_5_code
def yX4_mayCome : MethodName := ⟨RX4, "mayCome", "(I)Z"⟩
abbrev cX4_read : ByteArray := prog_6_method_2_code
def yX4_read : MethodName := ⟨RX4, "read", "(LLawnAhead$Tape;)Z"⟩
abbrev cX4_readClause : ByteArray := prog_6_method_4_code
def yX4_readClause : MethodName := ⟨RX4, "readClause", "(LLawnAhead$Tape;)Z"⟩
abbrev cX5_bringBack : ByteArray := prog_7_method_8_code
def yX5_bringBack : MethodName := ⟨RX5, "bringBack", "(LLawnAhead$State;)Z"⟩
abbrev cX5_shown : ByteArray := prog_7_method_3_code
def yX5_shown : MethodName := ⟨RX5, "shown", "()I"⟩
abbrev cX5_takeBack : ByteArray := prog_7_method_5_code
def yX5_takeBack : MethodName := ⟨RX5, "takeBack", "(LLawnAhead$State;)Z"⟩
abbrev cX6_read : ByteArray := prog_8_method_2_code
def yX6_read : MethodName := ⟨RX6, "read", "(LLawnAhead$Tape;)Z"⟩
abbrev cX6_readClause : ByteArray := prog_8_method_3_code
def yX6_readClause : MethodName := ⟨RX6, "readClause", "(LLawnAhead$Tape;I)Z"⟩
abbrev cX7_allows : ByteArray := prog_9_method_2_code
def yX7_allows : MethodName := ⟨RX7, "allows", "(LLawnAhead$State;IIII)Z"⟩
abbrev cX8_face : ByteArray := prog_10_method_2_code
def yX8_face : MethodName := ⟨RX8, "face", "(LLawnAhead$Ground;LLawnAhead$Law;)V"⟩
theorem dJ6_bitCount_0f7a4_0 : decode cJ6_bitCount_0f7a4 0 = .ok (.iload_n 0, 1) := by decide +kernel
theorem dJ6_bitCount_0f7a4_1 : decode cJ6_bitCount_0f7a4 1 = .ok (.iload_n 0, 1) := by decide +kernel
theorem dJ6_bitCount_0f7a4_2 : decode cJ6_bitCount_0f7a4 2 = .ok (.iconst 1, 1) := by decide +kernel
theorem dJ6_bitCount_0f7a4_3 : decode cJ6_bitCount_0f7a4 3 = .ok (.iushr, 1) := by decide +kernel
theorem dJ6_bitCount_0f7a4_4 : decode cJ6_bitCount_0f7a4 4 = .ok (.ldc_w 265, 3) := by decide +kernel
theorem dJ6_bitCount_0f7a4_7 : decode cJ6_bitCount_0f7a4 7 = .ok (.iand, 1) := by decide +kernel
theorem dJ6_bitCount_0f7a4_8 : decode cJ6_bitCount_0f7a4 8 = .ok (.isub, 1) := by decide +kernel
theorem dJ6_bitCount_0f7a4_9 : decode cJ6_bitCount_0f7a4 9 = .ok (.istore_n 0, 1) := by decide +kernel
theorem dJ6_bitCount_0f7a4_10 : decode cJ6_bitCount_0f7a4 10 = .ok (.iload_n 0, 1) := by decide +kernel
theorem dJ6_bitCount_0f7a4_11 : decode cJ6_bitCount_0f7a4 11 = .ok (.ldc_w 266, 3) := by decide +kernel
theorem dJ6_bitCount_0f7a4_14 : decode cJ6_bitCount_0f7a4 14 = .ok (.iand, 1) := by decide +kernel
theorem dJ6_bitCount_0f7a4_15 : decode cJ6_bitCount_0f7a4 15 = .ok (.iload_n 0, 1) := by decide +kernel
theorem dJ6_bitCount_0f7a4_16 : decode cJ6_bitCount_0f7a4 16 = .ok (.iconst 2, 1) := by decide +kernel
theorem dJ6_bitCount_0f7a4_17 : decode cJ6_bitCount_0f7a4 17 = .ok (.iushr, 1) := by decide +kernel
theorem dJ6_bitCount_0f7a4_18 : decode cJ6_bitCount_0f7a4 18 = .ok (.ldc_w 266, 3) := by decide +kernel
theorem dJ6_bitCount_0f7a4_21 : decode cJ6_bitCount_0f7a4 21 = .ok (.iand, 1) := by decide +kernel
theorem dJ6_bitCount_0f7a4_22 : decode cJ6_bitCount_0f7a4 22 = .ok (.iadd, 1) := by decide +kernel
theorem dJ6_bitCount_0f7a4_23 : decode cJ6_bitCount_0f7a4 23 = .ok (.istore_n 0, 1) := by decide +kernel
theorem dJ6_bitCount_0f7a4_24 : decode cJ6_bitCount_0f7a4 24 = .ok (.iload_n 0, 1) := by decide +kernel
theorem dJ6_bitCount_0f7a4_25 : decode cJ6_bitCount_0f7a4 25 = .ok (.iload_n 0, 1) := by decide +kernel
theorem dJ6_bitCount_0f7a4_26 : decode cJ6_bitCount_0f7a4 26 = .ok (.iconst 4, 1) := by decide +kernel
theorem dJ6_bitCount_0f7a4_27 : decode cJ6_bitCount_0f7a4 27 = .ok (.iushr, 1) := by decide +kernel
theorem dJ6_bitCount_0f7a4_28 : decode cJ6_bitCount_0f7a4 28 = .ok (.iadd, 1) := by decide +kernel
theorem dJ6_bitCount_0f7a4_29 : decode cJ6_bitCount_0f7a4 29 = .ok (.ldc_w 267, 3) := by decide +kernel
theorem dJ6_bitCount_0f7a4_32 : decode cJ6_bitCount_0f7a4 32 = .ok (.iand, 1) := by decide +kernel
theorem dJ6_bitCount_0f7a4_33 : decode cJ6_bitCount_0f7a4 33 = .ok (.istore_n 0, 1) := by decide +kernel
theorem dJ6_bitCount_0f7a4_34 : decode cJ6_bitCount_0f7a4 34 = .ok (.iload_n 0, 1) := by decide +kernel
theorem dJ6_bitCount_0f7a4_35 : decode cJ6_bitCount_0f7a4 35 = .ok (.iload_n 0, 1) := by decide +kernel
theorem dJ6_bitCount_0f7a4_36 : decode cJ6_bitCount_0f7a4 36 = .ok (.bipush 8, 2) := by decide +kernel
theorem dJ6_bitCount_0f7a4_38 : decode cJ6_bitCount_0f7a4 38 = .ok (.iushr, 1) := by decide +kernel
theorem dJ6_bitCount_0f7a4_39 : decode cJ6_bitCount_0f7a4 39 = .ok (.iadd, 1) := by decide +kernel
theorem dJ6_bitCount_0f7a4_40 : decode cJ6_bitCount_0f7a4 40 = .ok (.istore_n 0, 1) := by decide +kernel
theorem dJ6_bitCount_0f7a4_41 : decode cJ6_bitCount_0f7a4 41 = .ok (.iload_n 0, 1) := by decide +kernel
theorem dJ6_bitCount_0f7a4_42 : decode cJ6_bitCount_0f7a4 42 = .ok (.iload_n 0, 1) := by decide +kernel
theorem dJ6_bitCount_0f7a4_43 : decode cJ6_bitCount_0f7a4 43 = .ok (.bipush 16, 2) := by decide +kernel
theorem dJ6_bitCount_0f7a4_45 : decode cJ6_bitCount_0f7a4 45 = .ok (.iushr, 1) := by decide +kernel
theorem dJ6_bitCount_0f7a4_46 : decode cJ6_bitCount_0f7a4 46 = .ok (.iadd, 1) := by decide +kernel
theorem dJ6_bitCount_0f7a4_47 : decode cJ6_bitCount_0f7a4 47 = .ok (.istore_n 0, 1) := by decide +kernel
theorem dJ6_bitCount_0f7a4_48 : decode cJ6_bitCount_0f7a4 48 = .ok (.iload_n 0, 1) := by decide +kernel
theorem dJ6_bitCount_0f7a4_49 : decode cJ6_bitCount_0f7a4 49 = .ok (.bipush 63, 2) := by decide +kernel
theorem dJ6_bitCount_0f7a4_51 : decode cJ6_bitCount_0f7a4 51 = .ok (.iand, 1) := by decide +kernel
theorem dJ6_bitCount_0f7a4_52 : decode cJ6_bitCount_0f7a4 52 = .ok (.ireturn, 1) := by decide +kernel
theorem dJ7_fill_53178_0 : decode cJ7_fill_53178 0 = .ok (.iconst 0, 1) := by decide +kernel
theorem dJ7_fill_53178_1 : decode cJ7_fill_53178 1 = .ok (.istore_n 2, 1) := by decide +kernel
theorem dJ7_fill_53178_2 : decode cJ7_fill_53178 2 = .ok (.aload_n 0, 1) := by decide +kernel
theorem dJ7_fill_53178_3 : decode cJ7_fill_53178 3 = .ok (.arraylength, 1) := by decide +kernel
theorem dJ7_fill_53178_4 : decode cJ7_fill_53178 4 = .ok (.istore_n 3, 1) := by decide +kernel
theorem dJ7_fill_53178_5 : decode cJ7_fill_53178 5 = .ok (.iload_n 2, 1) := by decide +kernel
theorem dJ7_fill_53178_6 : decode cJ7_fill_53178 6 = .ok (.iload_n 3, 1) := by decide +kernel
theorem dJ7_fill_53178_7 : decode cJ7_fill_53178 7 = .ok (.if_icmp .ge 13, 3) := by decide +kernel
theorem dJ7_fill_53178_10 : decode cJ7_fill_53178 10 = .ok (.aload_n 0, 1) := by decide +kernel
theorem dJ7_fill_53178_11 : decode cJ7_fill_53178 11 = .ok (.iload_n 2, 1) := by decide +kernel
theorem dJ7_fill_53178_12 : decode cJ7_fill_53178 12 = .ok (.iload_n 1, 1) := by decide +kernel
theorem dJ7_fill_53178_13 : decode cJ7_fill_53178 13 = .ok (.iastore, 1) := by decide +kernel
theorem dJ7_fill_53178_14 : decode cJ7_fill_53178 14 = .ok (.iinc 2 1, 3) := by decide +kernel
theorem dJ7_fill_53178_17 : decode cJ7_fill_53178 17 = .ok (.goto (-12), 3) := by decide +kernel
theorem dJ7_fill_53178_20 : decode cJ7_fill_53178 20 = .ok (.return_, 1) := by decide +kernel
theorem dX10_demand_0 : decode cX10_demand 0 = .ok (.aload_n 0, 1) := by decide +kernel
theorem dX10_demand_1 : decode cX10_demand 1 = .ok (.invokevirtual 31, 3) := by decide +kernel
theorem dX10_demand_4 : decode cX10_demand 4 = .ok (.iload_n 1, 1) := by decide +kernel
theorem dX10_demand_5 : decode cX10_demand 5 = .ok (.if_icmp .eq 8, 3) := by decide +kernel
theorem dX10_demand_8 : decode cX10_demand 8 = .ok (.aload_n 0, 1) := by decide +kernel
theorem dX10_demand_9 : decode cX10_demand 9 = .ok (.invokevirtual 35, 3) := by decide +kernel
theorem dX10_demand_12 : decode cX10_demand 12 = .ok (.ireturn, 1) := by decide +kernel
theorem dX10_rewind_0 : decode cX10_rewind 0 = .ok (.aload_n 0, 1) := by decide +kernel
theorem dX10_rewind_1 : decode cX10_rewind 1 = .ok (.iconst (-1), 1) := by decide +kernel
theorem dX10_rewind_2 : decode cX10_rewind 2 = .ok (.putfield 19, 3) := by decide +kernel
theorem dX10_rewind_5 : decode cX10_rewind 5 = .ok (.aload_n 0, 1) := by decide +kernel
theorem dX10_rewind_6 : decode cX10_rewind 6 = .ok (.iconst 0, 1) := by decide +kernel
theorem dX10_rewind_7 : decode cX10_rewind 7 = .ok (.putfield 22, 3) := by decide +kernel
theorem dX10_rewind_10 : decode cX10_rewind 10 = .ok (.aload_n 0, 1) := by decide +kernel
theorem dX10_rewind_11 : decode cX10_rewind 11 = .ok (.getfield 22, 3) := by decide +kernel
theorem dX10_rewind_14 : decode cX10_rewind 14 = .ok (.aload_n 0, 1) := by decide +kernel
theorem dX10_rewind_15 : decode cX10_rewind 15 = .ok (.getfield 15, 3) := by decide +kernel
theorem dX10_rewind_18 : decode cX10_rewind 18 = .ok (.if_icmp .ge 30, 3) := by decide +kernel
theorem dX10_rewind_48 : decode cX10_rewind 48 = .ok (.return_, 1) := by decide +kernel
theorem dX10_sign_0 : decode cX10_sign 0 = .ok (.aload_n 0, 1) := by decide +kernel
theorem dX10_sign_1 : decode cX10_sign 1 = .ok (.getfield 22, 3) := by decide +kernel
theorem dX10_sign_4 : decode cX10_sign 4 = .ok (.aload_n 0, 1) := by decide +kernel
theorem dX10_sign_5 : decode cX10_sign 5 = .ok (.getfield 15, 3) := by decide +kernel
theorem dX10_sign_8 : decode cX10_sign 8 = .ok (.if_icmp .ge 15, 3) := by decide +kernel
theorem dX10_sign_23 : decode cX10_sign 23 = .ok (.iconst 0, 1) := by decide +kernel
theorem dX10_sign_24 : decode cX10_sign 24 = .ok (.ireturn, 1) := by decide +kernel
theorem dX10_wrong_0 : decode cX10_wrong 0 = .ok (.aload_n 0, 1) := by decide +kernel
theorem dX10_wrong_1 : decode cX10_wrong 1 = .ok (.aload_n 0, 1) := by decide +kernel
theorem dX10_wrong_2 : decode cX10_wrong 2 = .ok (.getfield 22, 3) := by decide +kernel
theorem dX10_wrong_5 : decode cX10_wrong 5 = .ok (.putfield 19, 3) := by decide +kernel
theorem dX10_wrong_8 : decode cX10_wrong 8 = .ok (.iconst 0, 1) := by decide +kernel
theorem dX10_wrong_9 : decode cX10_wrong 9 = .ok (.ireturn, 1) := by decide +kernel
theorem dX11_act_0 : decode cX11_act 0 = .ok (.aload_n 0, 1) := by decide +kernel
theorem dX11_act_1 : decode cX11_act 1 = .ok (.getfield 68, 3) := by decide +kernel
theorem dX11_act_4 : decode cX11_act 4 = .ok (.aload_n 0, 1) := by decide +kernel
theorem dX11_act_5 : decode cX11_act 5 = .ok (.getfield 33, 3) := by decide +kernel
theorem dX11_act_8 : decode cX11_act 8 = .ok (.iload_n 1, 1) := by decide +kernel
theorem dX11_act_9 : decode cX11_act 9 = .ok (.iload_n 2, 1) := by decide +kernel
theorem dX11_act_10 : decode cX11_act 10 = .ok (.iload_n 3, 1) := by decide +kernel
theorem dX11_act_11 : decode cX11_act 11 = .ok (.iload 4, 2) := by decide +kernel
theorem dX11_act_13 : decode cX11_act 13 = .ok (.invokevirtual 211, 3) := by decide +kernel
theorem dX11_act_16 : decode cX11_act 16 = .ok (.ifCond .ne 5, 3) := by decide +kernel
theorem dX11_act_19 : decode cX11_act 19 = .ok (.iconst 0, 1) := by decide +kernel
theorem dX11_act_20 : decode cX11_act 20 = .ok (.ireturn, 1) := by decide +kernel
theorem dX11_advice_0 : decode cX11_advice 0 = .ok (.aload_n 0, 1) := by decide +kernel
theorem dX11_advice_1 : decode cX11_advice 1 = .ok (.invokevirtual 155, 3) := by decide +kernel
theorem dX11_advice_4 : decode cX11_advice 4 = .ok (.ifCond .ne 26, 3) := by decide +kernel
theorem dX11_advice_30 : decode cX11_advice 30 = .ok (.iconst (-1), 1) := by decide +kernel
theorem dX11_advice_31 : decode cX11_advice 31 = .ok (.ireturn, 1) := by decide +kernel
theorem dX11_alike_0 : decode cX11_alike 0 = .ok (.aload_n 0, 1) := by decide +kernel
theorem dX11_alike_1 : decode cX11_alike 1 = .ok (.invokevirtual 155, 3) := by decide +kernel
theorem dX11_alike_4 : decode cX11_alike 4 = .ok (.ifCond .ne 12, 3) := by decide +kernel
theorem dX11_alike_16 : decode cX11_alike 16 = .ok (.iconst (-1), 1) := by decide +kernel
theorem dX11_alike_17 : decode cX11_alike 17 = .ok (.ireturn, 1) := by decide +kernel
theorem dX11_answers_0 : decode cX11_answers 0 = .ok (.aload_n 0, 1) := by decide +kernel
theorem dX11_answers_1 : decode cX11_answers 1 = .ok (.invokevirtual 155, 3) := by decide +kernel
theorem dX11_answers_4 : decode cX11_answers 4 = .ok (.ifCond .ne 8, 3) := by decide +kernel
theorem dX11_answers_12 : decode cX11_answers 12 = .ok (.iconst (-1), 1) := by decide +kernel
theorem dX11_answers_13 : decode cX11_answers 13 = .ok (.goto 15, 3) := by decide +kernel
theorem dX11_answers_28 : decode cX11_answers 28 = .ok (.ireturn, 1) := by decide +kernel
theorem dX11_back_0 : decode cX11_back 0 = .ok (.aload_n 0, 1) := by decide +kernel
theorem dX11_back_1 : decode cX11_back 1 = .ok (.getfield 40, 3) := by decide +kernel
theorem dX11_back_4 : decode cX11_back 4 = .ok (.aload_n 0, 1) := by decide +kernel
theorem dX11_back_5 : decode cX11_back 5 = .ok (.getfield 33, 3) := by decide +kernel
theorem dX11_back_8 : decode cX11_back 8 = .ok (.invokevirtual 408, 3) := by decide +kernel
theorem dX11_back_11 : decode cX11_back 11 = .ok (.ifCond .eq 13, 3) := by decide +kernel
theorem dX11_back_24 : decode cX11_back 24 = .ok (.iconst (-1), 1) := by decide +kernel
theorem dX11_back_25 : decode cX11_back 25 = .ok (.ireturn, 1) := by decide +kernel
theorem dX11_book_0 : decode cX11_book 0 = .ok (.aload_n 0, 1) := by decide +kernel
theorem dX11_book_1 : decode cX11_book 1 = .ok (.iload_n 1, 1) := by decide +kernel
theorem dX11_book_2 : decode cX11_book 2 = .ok (.invokevirtual 159, 3) := by decide +kernel
theorem dX11_book_5 : decode cX11_book 5 = .ok (.ifCond .eq 13, 3) := by decide +kernel
theorem dX11_book_18 : decode cX11_book 18 = .ok (.iconst (-1), 1) := by decide +kernel
theorem dX11_book_19 : decode cX11_book 19 = .ok (.ireturn, 1) := by decide +kernel
theorem dX11_count_0 : decode cX11_count 0 = .ok (.iload_n 1, 1) := by decide +kernel
theorem dX11_count_1 : decode cX11_count 1 = .ok (.tableswitch 206 0 15 #[79, 87, 98, 103, 108, 116, 121, 129, 137, 153, 161, 169, 174, 182, 190, 198], 79) := by decide +kernel
theorem dX11_count_80 : decode cX11_count 80 = .ok (.aload_n 0, 1) := by decide +kernel
theorem dX11_count_81 : decode cX11_count 81 = .ok (.getfield 47, 3) := by decide +kernel
theorem dX11_count_84 : decode cX11_count 84 = .ok (.getfield 148, 3) := by decide +kernel
theorem dX11_count_87 : decode cX11_count 87 = .ok (.ireturn, 1) := by decide +kernel
theorem dX11_count_88 : decode cX11_count 88 = .ok (.aload_n 0, 1) := by decide +kernel
theorem dX11_count_89 : decode cX11_count 89 = .ok (.getfield 33, 3) := by decide +kernel
theorem dX11_count_92 : decode cX11_count 92 = .ok (.getfield 169, 3) := by decide +kernel
theorem dX11_count_95 : decode cX11_count 95 = .ok (.invokestatic 206, 3) := by decide +kernel
theorem dX11_count_98 : decode cX11_count 98 = .ok (.ireturn, 1) := by decide +kernel
theorem dX11_count_99 : decode cX11_count 99 = .ok (.aload_n 0, 1) := by decide +kernel
theorem dX11_count_100 : decode cX11_count 100 = .ok (.getfield 115, 3) := by decide +kernel
theorem dX11_count_103 : decode cX11_count 103 = .ok (.ireturn, 1) := by decide +kernel
theorem dX11_count_104 : decode cX11_count 104 = .ok (.aload_n 0, 1) := by decide +kernel
theorem dX11_count_105 : decode cX11_count 105 = .ok (.getfield 119, 3) := by decide +kernel
theorem dX11_count_108 : decode cX11_count 108 = .ok (.ireturn, 1) := by decide +kernel
theorem dX11_count_109 : decode cX11_count 109 = .ok (.aload_n 0, 1) := by decide +kernel
theorem dX11_count_110 : decode cX11_count 110 = .ok (.getfield 10, 3) := by decide +kernel
theorem dX11_count_113 : decode cX11_count 113 = .ok (.getfield 101, 3) := by decide +kernel
theorem dX11_count_116 : decode cX11_count 116 = .ok (.ireturn, 1) := by decide +kernel
theorem dX11_count_117 : decode cX11_count 117 = .ok (.aload_n 0, 1) := by decide +kernel
theorem dX11_count_118 : decode cX11_count 118 = .ok (.getfield 93, 3) := by decide +kernel
theorem dX11_count_121 : decode cX11_count 121 = .ok (.ireturn, 1) := by decide +kernel
theorem dX11_count_122 : decode cX11_count 122 = .ok (.aload_n 0, 1) := by decide +kernel
theorem dX11_count_123 : decode cX11_count 123 = .ok (.getfield 33, 3) := by decide +kernel
theorem dX11_count_126 : decode cX11_count 126 = .ok (.getfield 177, 3) := by decide +kernel
theorem dX11_count_129 : decode cX11_count 129 = .ok (.ireturn, 1) := by decide +kernel
theorem dX11_count_130 : decode cX11_count 130 = .ok (.aload_n 0, 1) := by decide +kernel
theorem dX11_count_131 : decode cX11_count 131 = .ok (.getfield 33, 3) := by decide +kernel
theorem dX11_count_134 : decode cX11_count 134 = .ok (.getfield 197, 3) := by decide +kernel
theorem dX11_count_137 : decode cX11_count 137 = .ok (.ireturn, 1) := by decide +kernel
theorem dX11_count_138 : decode cX11_count 138 = .ok (.aload_n 0, 1) := by decide +kernel
theorem dX11_count_139 : decode cX11_count 139 = .ok (.getfield 33, 3) := by decide +kernel
theorem dX11_count_142 : decode cX11_count 142 = .ok (.getfield 193, 3) := by decide +kernel
theorem dX11_count_145 : decode cX11_count 145 = .ok (.ifCond .eq 7, 3) := by decide +kernel
theorem dX11_count_152 : decode cX11_count 152 = .ok (.iconst 0, 1) := by decide +kernel
theorem dX11_count_153 : decode cX11_count 153 = .ok (.ireturn, 1) := by decide +kernel
theorem dX11_count_154 : decode cX11_count 154 = .ok (.aload_n 0, 1) := by decide +kernel
theorem dX11_count_155 : decode cX11_count 155 = .ok (.getfield 33, 3) := by decide +kernel
theorem dX11_count_158 : decode cX11_count 158 = .ok (.getfield 200, 3) := by decide +kernel
theorem dX11_count_161 : decode cX11_count 161 = .ok (.ireturn, 1) := by decide +kernel
theorem dX11_count_162 : decode cX11_count 162 = .ok (.aload_n 0, 1) := by decide +kernel
theorem dX11_count_163 : decode cX11_count 163 = .ok (.getfield 33, 3) := by decide +kernel
theorem dX11_count_166 : decode cX11_count 166 = .ok (.getfield 203, 3) := by decide +kernel
theorem dX11_count_169 : decode cX11_count 169 = .ok (.ireturn, 1) := by decide +kernel
theorem dX11_count_170 : decode cX11_count 170 = .ok (.aload_n 0, 1) := by decide +kernel
theorem dX11_count_171 : decode cX11_count 171 = .ok (.getfield 187, 3) := by decide +kernel
theorem dX11_count_174 : decode cX11_count 174 = .ok (.ireturn, 1) := by decide +kernel
theorem dX11_count_175 : decode cX11_count 175 = .ok (.aload_n 0, 1) := by decide +kernel
theorem dX11_count_176 : decode cX11_count 176 = .ok (.getfield 89, 3) := by decide +kernel
theorem dX11_count_179 : decode cX11_count 179 = .ok (.getfield 411, 3) := by decide +kernel
theorem dX11_count_182 : decode cX11_count 182 = .ok (.ireturn, 1) := by decide +kernel
theorem dX11_count_183 : decode cX11_count 183 = .ok (.aload_n 0, 1) := by decide +kernel
theorem dX11_count_184 : decode cX11_count 184 = .ok (.getfield 40, 3) := by decide +kernel
theorem dX11_count_187 : decode cX11_count 187 = .ok (.invokevirtual 268, 3) := by decide +kernel
theorem dX11_count_190 : decode cX11_count 190 = .ok (.ireturn, 1) := by decide +kernel
theorem dX11_count_191 : decode cX11_count 191 = .ok (.aload_n 0, 1) := by decide +kernel
theorem dX11_count_192 : decode cX11_count 192 = .ok (.getfield 40, 3) := by decide +kernel
theorem dX11_count_195 : decode cX11_count 195 = .ok (.getfield 265, 3) := by decide +kernel
theorem dX11_count_198 : decode cX11_count 198 = .ok (.ireturn, 1) := by decide +kernel
theorem dX11_count_199 : decode cX11_count 199 = .ok (.aload_n 0, 1) := by decide +kernel
theorem dX11_count_200 : decode cX11_count 200 = .ok (.getfield 33, 3) := by decide +kernel
theorem dX11_count_203 : decode cX11_count 203 = .ok (.getfield 169, 3) := by decide +kernel
theorem dX11_count_206 : decode cX11_count 206 = .ok (.ireturn, 1) := by decide +kernel
theorem dX11_count_207 : decode cX11_count 207 = .ok (.ldc_w 271, 3) := by decide +kernel
theorem dX11_count_210 : decode cX11_count 210 = .ok (.ireturn, 1) := by decide +kernel
theorem dX11_cut_0 : decode cX11_cut 0 = .ok (.aload_n 0, 1) := by decide +kernel
theorem dX11_cut_1 : decode cX11_cut 1 = .ok (.iconst 1, 1) := by decide +kernel
theorem dX11_cut_2 : decode cX11_cut 2 = .ok (.iload_n 1, 1) := by decide +kernel
theorem dX11_cut_3 : decode cX11_cut 3 = .ok (.iload_n 2, 1) := by decide +kernel
theorem dX11_cut_4 : decode cX11_cut 4 = .ok (.iload_n 3, 1) := by decide +kernel
theorem dX11_cut_5 : decode cX11_cut 5 = .ok (.invokevirtual 190, 3) := by decide +kernel
theorem dX11_cut_8 : decode cX11_cut 8 = .ok (.ifCond .eq 13, 3) := by decide +kernel
theorem dX11_cut_21 : decode cX11_cut 21 = .ok (.iconst (-1), 1) := by decide +kernel
theorem dX11_cut_22 : decode cX11_cut 22 = .ok (.ireturn, 1) := by decide +kernel
theorem dX11_cuts_0 : decode cX11_cuts 0 = .ok (.aload_n 0, 1) := by decide +kernel
theorem dX11_cuts_1 : decode cX11_cuts 1 = .ok (.invokevirtual 155, 3) := by decide +kernel
theorem dX11_cuts_4 : decode cX11_cuts 4 = .ok (.ifCond .eq 5, 3) := by decide +kernel
theorem dX11_cuts_7 : decode cX11_cuts 7 = .ok (.iconst (-1), 1) := by decide +kernel
theorem dX11_cuts_8 : decode cX11_cuts 8 = .ok (.ireturn, 1) := by decide +kernel
theorem dX11_drought_0 : decode cX11_drought 0 = .ok (.iload_n 1, 1) := by decide +kernel
theorem dX11_drought_1 : decode cX11_drought 1 = .ok (.ifCond .lt 17, 3) := by decide +kernel
theorem dX11_drought_4 : decode cX11_drought 4 = .ok (.iload_n 1, 1) := by decide +kernel
theorem dX11_drought_5 : decode cX11_drought 5 = .ok (.bipush 99, 2) := by decide +kernel
theorem dX11_drought_7 : decode cX11_drought 7 = .ok (.if_icmp .gt 11, 3) := by decide +kernel
theorem dX11_drought_10 : decode cX11_drought 10 = .ok (.iload_n 1, 1) := by decide +kernel
theorem dX11_drought_11 : decode cX11_drought 11 = .ok (.aload_n 0, 1) := by decide +kernel
theorem dX11_drought_12 : decode cX11_drought 12 = .ok (.getfield 187, 3) := by decide +kernel
theorem dX11_drought_15 : decode cX11_drought 15 = .ok (.if_icmp .ne 5, 3) := by decide +kernel
theorem dX11_drought_18 : decode cX11_drought 18 = .ok (.iconst 0, 1) := by decide +kernel
theorem dX11_drought_19 : decode cX11_drought 19 = .ok (.ireturn, 1) := by decide +kernel
theorem dX11_drought_20 : decode cX11_drought 20 = .ok (.aload_n 0, 1) := by decide +kernel
theorem dX11_drought_21 : decode cX11_drought 21 = .ok (.iload_n 1, 1) := by decide +kernel
theorem dX11_drought_22 : decode cX11_drought 22 = .ok (.putfield 187, 3) := by decide +kernel
theorem dX11_drought_25 : decode cX11_drought 25 = .ok (.iconst 1, 1) := by decide +kernel
theorem dX11_drought_26 : decode cX11_drought 26 = .ok (.ireturn, 1) := by decide +kernel
theorem dX11_end_0 : decode cX11_end 0 = .ok (.iload_n 1, 1) := by decide +kernel
theorem dX11_end_1 : decode cX11_end 1 = .ok (.ifCond .lt 14, 3) := by decide +kernel
theorem dX11_end_4 : decode cX11_end 4 = .ok (.iload_n 1, 1) := by decide +kernel
theorem dX11_end_5 : decode cX11_end 5 = .ok (.aload_n 0, 1) := by decide +kernel
theorem dX11_end_6 : decode cX11_end 6 = .ok (.getfield 10, 3) := by decide +kernel
theorem dX11_end_9 : decode cX11_end 9 = .ok (.getfield 101, 3) := by decide +kernel
theorem dX11_end_12 : decode cX11_end 12 = .ok (.if_icmp .le 5, 3) := by decide +kernel
theorem dX11_end_15 : decode cX11_end 15 = .ok (.iconst 0, 1) := by decide +kernel
theorem dX11_end_16 : decode cX11_end 16 = .ok (.ireturn, 1) := by decide +kernel
theorem dX11_end_17 : decode cX11_end 17 = .ok (.aload_n 0, 1) := by decide +kernel
theorem dX11_end_18 : decode cX11_end 18 = .ok (.getfield 10, 3) := by decide +kernel
theorem dX11_end_21 : decode cX11_end 21 = .ok (.iload_n 1, 1) := by decide +kernel
theorem dX11_end_22 : decode cX11_end 22 = .ok (.putfield 101, 3) := by decide +kernel
theorem dX11_end_25 : decode cX11_end 25 = .ok (.iconst 1, 1) := by decide +kernel
theorem dX11_end_26 : decode cX11_end 26 = .ok (.ireturn, 1) := by decide +kernel
theorem dX11_fault_0 : decode cX11_fault 0 = .ok (.iload_n 1, 1) := by decide +kernel
theorem dX11_fault_1 : decode cX11_fault 1 = .ok (.tableswitch 97 0 2 #[27, 47, 72], 27) := by decide +kernel
theorem dX11_fault_28 : decode cX11_fault 28 = .ok (.aload_n 0, 1) := by decide +kernel
theorem dX11_fault_29 : decode cX11_fault 29 = .ok (.getfield 51, 3) := by decide +kernel
theorem dX11_fault_32 : decode cX11_fault 32 = .ok (.aload_n 0, 1) := by decide +kernel
theorem dX11_fault_33 : decode cX11_fault 33 = .ok (.getfield 10, 3) := by decide +kernel
theorem dX11_fault_36 : decode cX11_fault 36 = .ok (.invokevirtual 108, 3) := by decide +kernel
theorem dX11_fault_39 : decode cX11_fault 39 = .ok (.pop, 1) := by decide +kernel
theorem dX11_fault_40 : decode cX11_fault 40 = .ok (.aload_n 0, 1) := by decide +kernel
theorem dX11_fault_41 : decode cX11_fault 41 = .ok (.getfield 10, 3) := by decide +kernel
theorem dX11_fault_44 : decode cX11_fault 44 = .ok (.getfield 112, 3) := by decide +kernel
theorem dX11_fault_47 : decode cX11_fault 47 = .ok (.ireturn, 1) := by decide +kernel
theorem dX11_fault_48 : decode cX11_fault 48 = .ok (.aload_n 0, 1) := by decide +kernel
theorem dX11_fault_49 : decode cX11_fault 49 = .ok (.getfield 18, 3) := by decide +kernel
theorem dX11_fault_52 : decode cX11_fault 52 = .ok (.aload_n 0, 1) := by decide +kernel
theorem dX11_fault_53 : decode cX11_fault 53 = .ok (.getfield 115, 3) := by decide +kernel
theorem dX11_fault_56 : decode cX11_fault 56 = .ok (.aaload, 1) := by decide +kernel
theorem dX11_fault_57 : decode cX11_fault 57 = .ok (.aload_n 0, 1) := by decide +kernel
theorem dX11_fault_58 : decode cX11_fault 58 = .ok (.getfield 10, 3) := by decide +kernel
theorem dX11_fault_61 : decode cX11_fault 61 = .ok (.invokevirtual 118, 3) := by decide +kernel
theorem dX11_fault_64 : decode cX11_fault 64 = .ok (.pop, 1) := by decide +kernel
theorem dX11_fault_65 : decode cX11_fault 65 = .ok (.aload_n 0, 1) := by decide +kernel
theorem dX11_fault_66 : decode cX11_fault 66 = .ok (.getfield 10, 3) := by decide +kernel
theorem dX11_fault_69 : decode cX11_fault 69 = .ok (.getfield 112, 3) := by decide +kernel
theorem dX11_fault_72 : decode cX11_fault 72 = .ok (.ireturn, 1) := by decide +kernel
theorem dX11_fault_73 : decode cX11_fault 73 = .ok (.aload_n 0, 1) := by decide +kernel
theorem dX11_fault_74 : decode cX11_fault 74 = .ok (.getfield 24, 3) := by decide +kernel
theorem dX11_fault_77 : decode cX11_fault 77 = .ok (.aload_n 0, 1) := by decide +kernel
theorem dX11_fault_78 : decode cX11_fault 78 = .ok (.getfield 119, 3) := by decide +kernel
theorem dX11_fault_81 : decode cX11_fault 81 = .ok (.aaload, 1) := by decide +kernel
theorem dX11_fault_82 : decode cX11_fault 82 = .ok (.aload_n 0, 1) := by decide +kernel
theorem dX11_fault_83 : decode cX11_fault 83 = .ok (.getfield 10, 3) := by decide +kernel
theorem dX11_fault_86 : decode cX11_fault 86 = .ok (.invokevirtual 122, 3) := by decide +kernel
theorem dX11_fault_89 : decode cX11_fault 89 = .ok (.pop, 1) := by decide +kernel
theorem dX11_fault_90 : decode cX11_fault 90 = .ok (.aload_n 0, 1) := by decide +kernel
theorem dX11_fault_91 : decode cX11_fault 91 = .ok (.getfield 10, 3) := by decide +kernel
theorem dX11_fault_94 : decode cX11_fault 94 = .ok (.getfield 112, 3) := by decide +kernel
theorem dX11_fault_97 : decode cX11_fault 97 = .ok (.ireturn, 1) := by decide +kernel
theorem dX11_fault_98 : decode cX11_fault 98 = .ok (.bipush (-2), 2) := by decide +kernel
theorem dX11_fault_100 : decode cX11_fault 100 = .ok (.ireturn, 1) := by decide +kernel
theorem dX11_fewest_0 : decode cX11_fewest 0 = .ok (.aload_n 0, 1) := by decide +kernel
theorem dX11_fewest_1 : decode cX11_fewest 1 = .ok (.invokevirtual 155, 3) := by decide +kernel
theorem dX11_fewest_4 : decode cX11_fewest 4 = .ok (.ifCond .eq 5, 3) := by decide +kernel
theorem dX11_fewest_7 : decode cX11_fewest 7 = .ok (.iconst (-1), 1) := by decide +kernel
theorem dX11_fewest_8 : decode cX11_fewest 8 = .ok (.ireturn, 1) := by decide +kernel
theorem dX11_fit_0 : decode cX11_fit 0 = .ok (.aload_n 0, 1) := by decide +kernel
theorem dX11_fit_1 : decode cX11_fit 1 = .ok (.invokevirtual 155, 3) := by decide +kernel
theorem dX11_fit_4 : decode cX11_fit 4 = .ok (.ifCond .ne 8, 3) := by decide +kernel
theorem dX11_fit_12 : decode cX11_fit 12 = .ok (.iconst (-1), 1) := by decide +kernel
theorem dX11_fit_13 : decode cX11_fit 13 = .ok (.goto 11, 3) := by decide +kernel
theorem dX11_fit_24 : decode cX11_fit 24 = .ok (.ireturn, 1) := by decide +kernel
theorem dX11_forced_0 : decode cX11_forced 0 = .ok (.aload_n 0, 1) := by decide +kernel
theorem dX11_forced_1 : decode cX11_forced 1 = .ok (.invokevirtual 329, 3) := by decide +kernel
theorem dX11_forced_4 : decode cX11_forced 4 = .ok (.ifCond .eq 17, 3) := by decide +kernel
theorem dX11_forced_21 : decode cX11_forced 21 = .ok (.iconst (-1), 1) := by decide +kernel
theorem dX11_forced_22 : decode cX11_forced 22 = .ok (.ireturn, 1) := by decide +kernel
theorem dX11_games_0 : decode cX11_games 0 = .ok (.aload_n 0, 1) := by decide +kernel
theorem dX11_games_1 : decode cX11_games 1 = .ok (.invokevirtual 155, 3) := by decide +kernel
theorem dX11_games_4 : decode cX11_games 4 = .ok (.ifCond .ne 24, 3) := by decide +kernel
theorem dX11_games_28 : decode cX11_games 28 = .ok (.iconst (-1), 1) := by decide +kernel
theorem dX11_games_29 : decode cX11_games 29 = .ok (.ireturn, 1) := by decide +kernel
theorem dX11_grow_0 : decode cX11_grow 0 = .ok (.aload_n 0, 1) := by decide +kernel
theorem dX11_grow_1 : decode cX11_grow 1 = .ok (.iconst 0, 1) := by decide +kernel
theorem dX11_grow_2 : decode cX11_grow 2 = .ok (.iload_n 1, 1) := by decide +kernel
theorem dX11_grow_3 : decode cX11_grow 3 = .ok (.iconst 0, 1) := by decide +kernel
theorem dX11_grow_4 : decode cX11_grow 4 = .ok (.iconst 0, 1) := by decide +kernel
theorem dX11_grow_5 : decode cX11_grow 5 = .ok (.invokevirtual 190, 3) := by decide +kernel
theorem dX11_grow_8 : decode cX11_grow 8 = .ok (.ifCond .ne 5, 3) := by decide +kernel
theorem dX11_grow_11 : decode cX11_grow 11 = .ok (.iconst (-1), 1) := by decide +kernel
theorem dX11_grow_12 : decode cX11_grow 12 = .ok (.ireturn, 1) := by decide +kernel
theorem dX11_holds_0 : decode cX11_holds 0 = .ok (.aload_n 0, 1) := by decide +kernel
theorem dX11_holds_1 : decode cX11_holds 1 = .ok (.invokevirtual 329, 3) := by decide +kernel
theorem dX11_holds_4 : decode cX11_holds 4 = .ok (.ifCond .eq 13, 3) := by decide +kernel
theorem dX11_holds_17 : decode cX11_holds 17 = .ok (.iconst (-1), 1) := by decide +kernel
theorem dX11_holds_18 : decode cX11_holds 18 = .ok (.ireturn, 1) := by decide +kernel
theorem dX11_image_0 : decode cX11_image 0 = .ok (.aload_n 0, 1) := by decide +kernel
theorem dX11_image_1 : decode cX11_image 1 = .ok (.invokevirtual 155, 3) := by decide +kernel
theorem dX11_image_4 : decode cX11_image 4 = .ok (.ifCond .eq 5, 3) := by decide +kernel
theorem dX11_image_7 : decode cX11_image 7 = .ok (.iconst (-1), 1) := by decide +kernel
theorem dX11_image_8 : decode cX11_image 8 = .ok (.ireturn, 1) := by decide +kernel
theorem dX11_isCell_0 : decode cX11_isCell 0 = .ok (.iload_n 1, 1) := by decide +kernel
theorem dX11_isCell_1 : decode cX11_isCell 1 = .ok (.ifCond .lt 18, 3) := by decide +kernel
theorem dX11_isCell_4 : decode cX11_isCell 4 = .ok (.iload_n 1, 1) := by decide +kernel
theorem dX11_isCell_5 : decode cX11_isCell 5 = .ok (.aload_n 0, 1) := by decide +kernel
theorem dX11_isCell_6 : decode cX11_isCell 6 = .ok (.getfield 47, 3) := by decide +kernel
theorem dX11_isCell_9 : decode cX11_isCell 9 = .ok (.getfield 148, 3) := by decide +kernel
theorem dX11_isCell_12 : decode cX11_isCell 12 = .ok (.if_icmp .ge 7, 3) := by decide +kernel
theorem dX11_isCell_19 : decode cX11_isCell 19 = .ok (.iconst 0, 1) := by decide +kernel
theorem dX11_isCell_20 : decode cX11_isCell 20 = .ok (.ireturn, 1) := by decide +kernel
theorem dX11_isGame_0 : decode cX11_isGame 0 = .ok (.iload_n 1, 1) := by decide +kernel
theorem dX11_isGame_1 : decode cX11_isGame 1 = .ok (.ifCond .lt 15, 3) := by decide +kernel
theorem dX11_isGame_4 : decode cX11_isGame 4 = .ok (.iload_n 1, 1) := by decide +kernel
theorem dX11_isGame_5 : decode cX11_isGame 5 = .ok (.aload_n 0, 1) := by decide +kernel
theorem dX11_isGame_6 : decode cX11_isGame 6 = .ok (.getfield 119, 3) := by decide +kernel
theorem dX11_isGame_9 : decode cX11_isGame 9 = .ok (.if_icmp .ge 7, 3) := by decide +kernel
theorem dX11_isGame_16 : decode cX11_isGame 16 = .ok (.iconst 0, 1) := by decide +kernel
theorem dX11_isGame_17 : decode cX11_isGame 17 = .ok (.ireturn, 1) := by decide +kernel
theorem dX11_law_0 : decode cX11_law 0 = .ok (.iload_n 1, 1) := by decide +kernel
theorem dX11_law_1 : decode cX11_law 1 = .ok (.iconst (-1), 1) := by decide +kernel
theorem dX11_law_2 : decode cX11_law 2 = .ok (.if_icmp .lt 11, 3) := by decide +kernel
theorem dX11_law_5 : decode cX11_law 5 = .ok (.iload_n 1, 1) := by decide +kernel
theorem dX11_law_6 : decode cX11_law 6 = .ok (.aload_n 0, 1) := by decide +kernel
theorem dX11_law_7 : decode cX11_law 7 = .ok (.getfield 115, 3) := by decide +kernel
theorem dX11_law_10 : decode cX11_law 10 = .ok (.if_icmp .lt 5, 3) := by decide +kernel
theorem dX11_law_13 : decode cX11_law 13 = .ok (.iconst 0, 1) := by decide +kernel
theorem dX11_law_14 : decode cX11_law 14 = .ok (.ireturn, 1) := by decide +kernel
theorem dX11_law_15 : decode cX11_law 15 = .ok (.aload_n 0, 1) := by decide +kernel
theorem dX11_law_16 : decode cX11_law 16 = .ok (.iload_n 1, 1) := by decide +kernel
theorem dX11_law_17 : decode cX11_law 17 = .ok (.putfield 93, 3) := by decide +kernel
theorem dX11_law_20 : decode cX11_law 20 = .ok (.aload_n 0, 1) := by decide +kernel
theorem dX11_law_21 : decode cX11_law 21 = .ok (.invokevirtual 145, 3) := by decide +kernel
theorem dX11_law_24 : decode cX11_law 24 = .ok (.iconst 1, 1) := by decide +kernel
theorem dX11_law_25 : decode cX11_law 25 = .ok (.ireturn, 1) := by decide +kernel
theorem dX11_log_0 : decode cX11_log 0 = .ok (.iload_n 1, 1) := by decide +kernel
theorem dX11_log_1 : decode cX11_log 1 = .ok (.ifCond .lt 23, 3) := by decide +kernel
theorem dX11_log_4 : decode cX11_log 4 = .ok (.iload_n 1, 1) := by decide +kernel
theorem dX11_log_5 : decode cX11_log 5 = .ok (.aload_n 0, 1) := by decide +kernel
theorem dX11_log_6 : decode cX11_log 6 = .ok (.getfield 40, 3) := by decide +kernel
theorem dX11_log_9 : decode cX11_log 9 = .ok (.invokevirtual 268, 3) := by decide +kernel
theorem dX11_log_12 : decode cX11_log 12 = .ok (.if_icmp .ge 12, 3) := by decide +kernel
theorem dX11_log_24 : decode cX11_log 24 = .ok (.ldc_w 271, 3) := by decide +kernel
theorem dX11_log_27 : decode cX11_log 27 = .ok (.ireturn, 1) := by decide +kernel
theorem dX11_longest_0 : decode cX11_longest 0 = .ok (.aload_n 0, 1) := by decide +kernel
theorem dX11_longest_1 : decode cX11_longest 1 = .ok (.invokevirtual 155, 3) := by decide +kernel
theorem dX11_longest_4 : decode cX11_longest 4 = .ok (.ifCond .eq 7, 3) := by decide +kernel
theorem dX11_longest_7 : decode cX11_longest 7 = .ok (.iconst (-1), 1) := by decide +kernel
theorem dX11_longest_8 : decode cX11_longest 8 = .ok (.goto 17, 3) := by decide +kernel
theorem dX11_longest_25 : decode cX11_longest 25 = .ok (.ireturn, 1) := by decide +kernel
theorem dX11_lookByLaw_0 : decode cX11_lookByLaw 0 = .ok (.aload_n 0, 1) := by decide +kernel
theorem dX11_lookByLaw_1 : decode cX11_lookByLaw 1 = .ok (.getfield 93, 3) := by decide +kernel
theorem dX11_lookByLaw_4 : decode cX11_lookByLaw 4 = .ok (.ifCond .lt 18, 3) := by decide +kernel
theorem dX11_lookByLaw_22 : decode cX11_lookByLaw 22 = .ok (.iconst 0, 1) := by decide +kernel
theorem dX11_lookByLaw_23 : decode cX11_lookByLaw 23 = .ok (.istore_n 1, 1) := by decide +kernel
theorem dX11_lookByLaw_24 : decode cX11_lookByLaw 24 = .ok (.aload_n 0, 1) := by decide +kernel
theorem dX11_lookByLaw_25 : decode cX11_lookByLaw 25 = .ok (.getfield 59, 3) := by decide +kernel
theorem dX11_lookByLaw_28 : decode cX11_lookByLaw 28 = .ok (.aload_n 0, 1) := by decide +kernel
theorem dX11_lookByLaw_29 : decode cX11_lookByLaw 29 = .ok (.getfield 47, 3) := by decide +kernel
theorem dX11_lookByLaw_32 : decode cX11_lookByLaw 32 = .ok (.iload_n 1, 1) := by decide +kernel
theorem dX11_lookByLaw_33 : decode cX11_lookByLaw 33 = .ok (.ifCond .eq 15, 3) := by decide +kernel
theorem dX11_lookByLaw_48 : decode cX11_lookByLaw 48 = .ok (.aconst_null, 1) := by decide +kernel
theorem dX11_lookByLaw_49 : decode cX11_lookByLaw 49 = .ok (.invokevirtual 151, 3) := by decide +kernel
theorem dX11_lookByLaw_52 : decode cX11_lookByLaw 52 = .ok (.return_, 1) := by decide +kernel
theorem dX11_meant_0 : decode cX11_meant 0 = .ok (.aload_n 0, 1) := by decide +kernel
theorem dX11_meant_1 : decode cX11_meant 1 = .ok (.invokevirtual 155, 3) := by decide +kernel
theorem dX11_meant_4 : decode cX11_meant 4 = .ok (.ifCond .eq 7, 3) := by decide +kernel
theorem dX11_meant_7 : decode cX11_meant 7 = .ok (.iconst (-1), 1) := by decide +kernel
theorem dX11_meant_8 : decode cX11_meant 8 = .ok (.goto 10, 3) := by decide +kernel
theorem dX11_meant_18 : decode cX11_meant 18 = .ok (.ireturn, 1) := by decide +kernel
theorem dX11_missing_0 : decode cX11_missing 0 = .ok (.aload_n 0, 1) := by decide +kernel
theorem dX11_missing_1 : decode cX11_missing 1 = .ok (.iload_n 1, 1) := by decide +kernel
theorem dX11_missing_2 : decode cX11_missing 2 = .ok (.invokevirtual 278, 3) := by decide +kernel
theorem dX11_missing_5 : decode cX11_missing 5 = .ok (.ifCond .eq 23, 3) := by decide +kernel
theorem dX11_missing_28 : decode cX11_missing 28 = .ok (.iconst (-1), 1) := by decide +kernel
theorem dX11_missing_29 : decode cX11_missing 29 = .ok (.ireturn, 1) := by decide +kernel
theorem dX11_mole_0 : decode cX11_mole 0 = .ok (.aload_n 0, 1) := by decide +kernel
theorem dX11_mole_1 : decode cX11_mole 1 = .ok (.iconst 2, 1) := by decide +kernel
theorem dX11_mole_2 : decode cX11_mole 2 = .ok (.iload_n 1, 1) := by decide +kernel
theorem dX11_mole_3 : decode cX11_mole 3 = .ok (.iconst 0, 1) := by decide +kernel
theorem dX11_mole_4 : decode cX11_mole 4 = .ok (.iconst 0, 1) := by decide +kernel
theorem dX11_mole_5 : decode cX11_mole 5 = .ok (.invokevirtual 190, 3) := by decide +kernel
theorem dX11_mole_8 : decode cX11_mole 8 = .ok (.ifCond .eq 16, 3) := by decide +kernel
theorem dX11_mole_24 : decode cX11_mole 24 = .ok (.iconst (-1), 1) := by decide +kernel
theorem dX11_mole_25 : decode cX11_mole 25 = .ok (.ireturn, 1) := by decide +kernel
theorem dX11_move_0 : decode cX11_move 0 = .ok (.aload_n 0, 1) := by decide +kernel
theorem dX11_move_1 : decode cX11_move 1 = .ok (.iload_n 1, 1) := by decide +kernel
theorem dX11_move_2 : decode cX11_move 2 = .ok (.invokevirtual 278, 3) := by decide +kernel
theorem dX11_move_5 : decode cX11_move 5 = .ok (.ifCond .eq 29, 3) := by decide +kernel
theorem dX11_move_34 : decode cX11_move 34 = .ok (.ldc_w 271, 3) := by decide +kernel
theorem dX11_move_37 : decode cX11_move 37 = .ok (.ireturn, 1) := by decide +kernel
theorem dX11_noLawn_0 : decode cX11_noLawn 0 = .ok (.aload_n 0, 1) := by decide +kernel
theorem dX11_noLawn_1 : decode cX11_noLawn 1 = .ok (.getfield 47, 3) := by decide +kernel
theorem dX11_noLawn_4 : decode cX11_noLawn 4 = .ok (.getfield 148, 3) := by decide +kernel
theorem dX11_noLawn_7 : decode cX11_noLawn 7 = .ok (.ifCond .ne 7, 3) := by decide +kernel
theorem dX11_noLawn_10 : decode cX11_noLawn 10 = .ok (.iconst 1, 1) := by decide +kernel
theorem dX11_noLawn_11 : decode cX11_noLawn 11 = .ok (.goto 4, 3) := by decide +kernel
theorem dX11_noLawn_15 : decode cX11_noLawn 15 = .ok (.ireturn, 1) := by decide +kernel
theorem dX11_odds_0 : decode cX11_odds 0 = .ok (.aload_n 0, 1) := by decide +kernel
theorem dX11_odds_1 : decode cX11_odds 1 = .ok (.invokevirtual 155, 3) := by decide +kernel
theorem dX11_odds_4 : decode cX11_odds 4 = .ok (.ifCond .ne 22, 3) := by decide +kernel
theorem dX11_odds_26 : decode cX11_odds 26 = .ok (.iconst (-1), 1) := by decide +kernel
theorem dX11_odds_27 : decode cX11_odds 27 = .ok (.ireturn, 1) := by decide +kernel
theorem dX11_openNight_0 : decode cX11_openNight 0 = .ok (.aload_n 0, 1) := by decide +kernel
theorem dX11_openNight_1 : decode cX11_openNight 1 = .ok (.invokevirtual 155, 3) := by decide +kernel
theorem dX11_openNight_4 : decode cX11_openNight 4 = .ok (.ifCond .ne 27, 3) := by decide +kernel
theorem dX11_openNight_31 : decode cX11_openNight 31 = .ok (.iconst 0, 1) := by decide +kernel
theorem dX11_openNight_32 : decode cX11_openNight 32 = .ok (.ireturn, 1) := by decide +kernel
theorem dX11_openings_0 : decode cX11_openings 0 = .ok (.aload_n 0, 1) := by decide +kernel
theorem dX11_openings_1 : decode cX11_openings 1 = .ok (.invokevirtual 155, 3) := by decide +kernel
theorem dX11_openings_4 : decode cX11_openings 4 = .ok (.ifCond .eq 5, 3) := by decide +kernel
theorem dX11_openings_7 : decode cX11_openings 7 = .ok (.iconst (-1), 1) := by decide +kernel
theorem dX11_openings_8 : decode cX11_openings 8 = .ok (.ireturn, 1) := by decide +kernel
theorem dX11_parts_0 : decode cX11_parts 0 = .ok (.aload_n 0, 1) := by decide +kernel
theorem dX11_parts_1 : decode cX11_parts 1 = .ok (.invokevirtual 155, 3) := by decide +kernel
theorem dX11_parts_4 : decode cX11_parts 4 = .ok (.ifCond .eq 5, 3) := by decide +kernel
theorem dX11_parts_7 : decode cX11_parts 7 = .ok (.iconst (-1), 1) := by decide +kernel
theorem dX11_parts_8 : decode cX11_parts 8 = .ok (.ireturn, 1) := by decide +kernel
theorem dX11_perform_0 : decode cX11_perform 0 = .ok (.aload_n 0, 1) := by decide +kernel
theorem dX11_perform_1 : decode cX11_perform 1 = .ok (.iload_n 1, 1) := by decide +kernel
theorem dX11_perform_2 : decode cX11_perform 2 = .ok (.invokevirtual 278, 3) := by decide +kernel
theorem dX11_perform_5 : decode cX11_perform 5 = .ok (.ifCond .eq 10, 3) := by decide +kernel
theorem dX11_perform_15 : decode cX11_perform 15 = .ok (.iconst (-1), 1) := by decide +kernel
theorem dX11_perform_16 : decode cX11_perform 16 = .ok (.ireturn, 1) := by decide +kernel
theorem dX11_room_0 : decode cX11_room 0 = .ok (.aload_n 0, 1) := by decide +kernel
theorem dX11_room_1 : decode cX11_room 1 = .ok (.invokevirtual 155, 3) := by decide +kernel
theorem dX11_room_4 : decode cX11_room 4 = .ok (.ifCond .eq 7, 3) := by decide +kernel
theorem dX11_room_7 : decode cX11_room 7 = .ok (.iconst (-1), 1) := by decide +kernel
theorem dX11_room_8 : decode cX11_room 8 = .ok (.goto 34, 3) := by decide +kernel
theorem dX11_room_42 : decode cX11_room 42 = .ok (.ireturn, 1) := by decide +kernel
theorem dX11_rule_0 : decode cX11_rule 0 = .ok (.aload_n 0, 1) := by decide +kernel
theorem dX11_rule_1 : decode cX11_rule 1 = .ok (.invokevirtual 155, 3) := by decide +kernel
theorem dX11_rule_4 : decode cX11_rule 4 = .ok (.ifCond .ne 13, 3) := by decide +kernel
theorem dX11_rule_17 : decode cX11_rule 17 = .ok (.iconst (-1), 1) := by decide +kernel
theorem dX11_rule_18 : decode cX11_rule 18 = .ok (.ireturn, 1) := by decide +kernel
theorem dX11_run_0 : decode cX11_run 0 = .ok (.aload_n 0, 1) := by decide +kernel
theorem dX11_run_1 : decode cX11_run 1 = .ok (.iload_n 1, 1) := by decide +kernel
theorem dX11_run_2 : decode cX11_run 2 = .ok (.invokevirtual 278, 3) := by decide +kernel
theorem dX11_run_5 : decode cX11_run 5 = .ok (.ifCond .eq 10, 3) := by decide +kernel
theorem dX11_run_15 : decode cX11_run 15 = .ok (.ldc_w 271, 3) := by decide +kernel
theorem dX11_run_18 : decode cX11_run 18 = .ok (.ireturn, 1) := by decide +kernel
theorem dX11_sit_0 : decode cX11_sit 0 = .ok (.aload_n 0, 1) := by decide +kernel
theorem dX11_sit_1 : decode cX11_sit 1 = .ok (.getfield 33, 3) := by decide +kernel
theorem dX11_sit_4 : decode cX11_sit 4 = .ok (.getfield 197, 3) := by decide +kernel
theorem dX11_sit_7 : decode cX11_sit 7 = .ok (.ifCond .ne 7, 3) := by decide +kernel
theorem dX11_sit_10 : decode cX11_sit 10 = .ok (.iconst 1, 1) := by decide +kernel
theorem dX11_sit_11 : decode cX11_sit 11 = .ok (.goto 4, 3) := by decide +kernel
theorem dX11_sit_15 : decode cX11_sit 15 = .ok (.istore_n 1, 1) := by decide +kernel
theorem dX11_sit_16 : decode cX11_sit 16 = .ok (.aload_n 0, 1) := by decide +kernel
theorem dX11_sit_17 : decode cX11_sit 17 = .ok (.iconst 3, 1) := by decide +kernel
theorem dX11_sit_18 : decode cX11_sit 18 = .ok (.iconst (-1), 1) := by decide +kernel
theorem dX11_sit_19 : decode cX11_sit 19 = .ok (.iconst 0, 1) := by decide +kernel
theorem dX11_sit_20 : decode cX11_sit 20 = .ok (.iconst 0, 1) := by decide +kernel
theorem dX11_sit_21 : decode cX11_sit 21 = .ok (.invokevirtual 190, 3) := by decide +kernel
theorem dX11_sit_24 : decode cX11_sit 24 = .ok (.ifCond .ne 5, 3) := by decide +kernel
theorem dX11_sit_27 : decode cX11_sit 27 = .ok (.iconst (-1), 1) := by decide +kernel
theorem dX11_sit_28 : decode cX11_sit 28 = .ok (.ireturn, 1) := by decide +kernel
theorem dX11_sumOf_0 : decode cX11_sumOf 0 = .ok (.aload_n 0, 1) := by decide +kernel
theorem dX11_sumOf_1 : decode cX11_sumOf 1 = .ok (.invokevirtual 155, 3) := by decide +kernel
theorem dX11_sumOf_4 : decode cX11_sumOf 4 = .ok (.ifCond .eq 7, 3) := by decide +kernel
theorem dX11_sumOf_7 : decode cX11_sumOf 7 = .ok (.ldc_w 271, 3) := by decide +kernel
theorem dX11_sumOf_10 : decode cX11_sumOf 10 = .ok (.ireturn, 1) := by decide +kernel
theorem dX11_tellLawn_0 : decode cX11_tellLawn 0 = .ok (.aload_n 0, 1) := by decide +kernel
theorem dX11_tellLawn_1 : decode cX11_tellLawn 1 = .ok (.getfield 51, 3) := by decide +kernel
theorem dX11_tellLawn_4 : decode cX11_tellLawn 4 = .ok (.aload_n 0, 1) := by decide +kernel
theorem dX11_tellLawn_5 : decode cX11_tellLawn 5 = .ok (.getfield 10, 3) := by decide +kernel
theorem dX11_tellLawn_8 : decode cX11_tellLawn 8 = .ok (.invokevirtual 108, 3) := by decide +kernel
theorem dX11_tellLawn_11 : decode cX11_tellLawn 11 = .ok (.ifCond .ne 5, 3) := by decide +kernel
theorem dX11_tellLawn_14 : decode cX11_tellLawn 14 = .ok (.iconst (-1), 1) := by decide +kernel
theorem dX11_tellLawn_15 : decode cX11_tellLawn 15 = .ok (.ireturn, 1) := by decide +kernel
theorem dX11_tells_0 : decode cX11_tells 0 = .ok (.iconst (-1), 1) := by decide +kernel
theorem dX11_tells_1 : decode cX11_tells 1 = .ok (.istore_n 1, 1) := by decide +kernel
theorem dX11_tells_2 : decode cX11_tells 2 = .ok (.iconst 0, 1) := by decide +kernel
theorem dX11_tells_3 : decode cX11_tells 3 = .ok (.istore_n 2, 1) := by decide +kernel
theorem dX11_tells_4 : decode cX11_tells 4 = .ok (.iconst 0, 1) := by decide +kernel
theorem dX11_tells_5 : decode cX11_tells 5 = .ok (.istore_n 3, 1) := by decide +kernel
theorem dX11_tells_6 : decode cX11_tells 6 = .ok (.iload_n 3, 1) := by decide +kernel
theorem dX11_tells_7 : decode cX11_tells 7 = .ok (.aload_n 0, 1) := by decide +kernel
theorem dX11_tells_8 : decode cX11_tells 8 = .ok (.getfield 47, 3) := by decide +kernel
theorem dX11_tells_11 : decode cX11_tells 11 = .ok (.getfield 148, 3) := by decide +kernel
theorem dX11_tells_14 : decode cX11_tells 14 = .ok (.if_icmp .ge 59, 3) := by decide +kernel
theorem dX11_tells_73 : decode cX11_tells 73 = .ok (.iload_n 1, 1) := by decide +kernel
theorem dX11_tells_74 : decode cX11_tells 74 = .ok (.ireturn, 1) := by decide +kernel
theorem dX11_text_0 : decode cX11_text 0 = .ok (.iload_n 1, 1) := by decide +kernel
theorem dX11_text_1 : decode cX11_text 1 = .ok (.ifCond .ne 8, 3) := by decide +kernel
theorem dX11_text_4 : decode cX11_text 4 = .ok (.aload_n 0, 1) := by decide +kernel
theorem dX11_text_5 : decode cX11_text 5 = .ok (.invokevirtual 123, 3) := by decide +kernel
theorem dX11_text_8 : decode cX11_text 8 = .ok (.ireturn, 1) := by decide +kernel
theorem dX11_text_9 : decode cX11_text 9 = .ok (.iload_n 1, 1) := by decide +kernel
theorem dX11_text_10 : decode cX11_text 10 = .ok (.iconst 1, 1) := by decide +kernel
theorem dX11_text_11 : decode cX11_text 11 = .ok (.if_icmp .ne 55, 3) := by decide +kernel
theorem dX11_text_14 : decode cX11_text 14 = .ok (.aload_n 0, 1) := by decide +kernel
theorem dX11_text_15 : decode cX11_text 15 = .ok (.getfield 115, 3) := by decide +kernel
theorem dX11_text_18 : decode cX11_text 18 = .ok (.iconst 4, 1) := by decide +kernel
theorem dX11_text_19 : decode cX11_text 19 = .ok (.if_icmp .ge 47, 3) := by decide +kernel
theorem dX11_text_22 : decode cX11_text 22 = .ok (.aload_n 0, 1) := by decide +kernel
theorem dX11_text_23 : decode cX11_text 23 = .ok (.getfield 18, 3) := by decide +kernel
theorem dX11_text_26 : decode cX11_text 26 = .ok (.aload_n 0, 1) := by decide +kernel
theorem dX11_text_27 : decode cX11_text 27 = .ok (.getfield 115, 3) := by decide +kernel
theorem dX11_text_30 : decode cX11_text 30 = .ok (.aaload, 1) := by decide +kernel
theorem dX11_text_31 : decode cX11_text 31 = .ok (.aload_n 0, 1) := by decide +kernel
theorem dX11_text_32 : decode cX11_text 32 = .ok (.getfield 10, 3) := by decide +kernel
theorem dX11_text_35 : decode cX11_text 35 = .ok (.invokevirtual 118, 3) := by decide +kernel
theorem dX11_text_38 : decode cX11_text 38 = .ok (.ifCond .eq 28, 3) := by decide +kernel
theorem dX11_text_66 : decode cX11_text 66 = .ok (.iload_n 1, 1) := by decide +kernel
theorem dX11_text_67 : decode cX11_text 67 = .ok (.iconst 2, 1) := by decide +kernel
theorem dX11_text_68 : decode cX11_text 68 = .ok (.if_icmp .ne 55, 3) := by decide +kernel
theorem dX11_text_71 : decode cX11_text 71 = .ok (.aload_n 0, 1) := by decide +kernel
theorem dX11_text_72 : decode cX11_text 72 = .ok (.getfield 119, 3) := by decide +kernel
theorem dX11_text_75 : decode cX11_text 75 = .ok (.iconst 4, 1) := by decide +kernel
theorem dX11_text_76 : decode cX11_text 76 = .ok (.if_icmp .ge 47, 3) := by decide +kernel
theorem dX11_text_79 : decode cX11_text 79 = .ok (.aload_n 0, 1) := by decide +kernel
theorem dX11_text_80 : decode cX11_text 80 = .ok (.getfield 24, 3) := by decide +kernel
theorem dX11_text_83 : decode cX11_text 83 = .ok (.aload_n 0, 1) := by decide +kernel
theorem dX11_text_84 : decode cX11_text 84 = .ok (.getfield 119, 3) := by decide +kernel
theorem dX11_text_87 : decode cX11_text 87 = .ok (.aaload, 1) := by decide +kernel
theorem dX11_text_88 : decode cX11_text 88 = .ok (.aload_n 0, 1) := by decide +kernel
theorem dX11_text_89 : decode cX11_text 89 = .ok (.getfield 10, 3) := by decide +kernel
theorem dX11_text_92 : decode cX11_text 92 = .ok (.invokevirtual 122, 3) := by decide +kernel
theorem dX11_text_95 : decode cX11_text 95 = .ok (.ifCond .eq 28, 3) := by decide +kernel
theorem dX11_text_123 : decode cX11_text 123 = .ok (.iconst (-1), 1) := by decide +kernel
theorem dX11_text_124 : decode cX11_text 124 = .ok (.ireturn, 1) := by decide +kernel
theorem dX11_threats_0 : decode cX11_threats 0 = .ok (.aload_n 0, 1) := by decide +kernel
theorem dX11_threats_1 : decode cX11_threats 1 = .ok (.invokevirtual 155, 3) := by decide +kernel
theorem dX11_threats_4 : decode cX11_threats 4 = .ok (.ifCond .eq 7, 3) := by decide +kernel
theorem dX11_threats_7 : decode cX11_threats 7 = .ok (.iconst (-1), 1) := by decide +kernel
theorem dX11_threats_8 : decode cX11_threats 8 = .ok (.goto 31, 3) := by decide +kernel
theorem dX11_threats_39 : decode cX11_threats 39 = .ok (.ireturn, 1) := by decide +kernel
theorem dX11_undo_0 : decode cX11_undo 0 = .ok (.aload_n 0, 1) := by decide +kernel
theorem dX11_undo_1 : decode cX11_undo 1 = .ok (.getfield 40, 3) := by decide +kernel
theorem dX11_undo_4 : decode cX11_undo 4 = .ok (.aload_n 0, 1) := by decide +kernel
theorem dX11_undo_5 : decode cX11_undo 5 = .ok (.getfield 33, 3) := by decide +kernel
theorem dX11_undo_8 : decode cX11_undo 8 = .ok (.invokevirtual 262, 3) := by decide +kernel
theorem dX11_undo_11 : decode cX11_undo 11 = .ok (.ifCond .eq 13, 3) := by decide +kernel
theorem dX11_undo_24 : decode cX11_undo 24 = .ok (.iconst (-1), 1) := by decide +kernel
theorem dX11_undo_25 : decode cX11_undo 25 = .ok (.ireturn, 1) := by decide +kernel
theorem dX11_where_0 : decode cX11_where 0 = .ok (.aload_n 0, 1) := by decide +kernel
theorem dX11_where_1 : decode cX11_where 1 = .ok (.invokevirtual 155, 3) := by decide +kernel
theorem dX11_where_4 : decode cX11_where 4 = .ok (.ifCond .ne 26, 3) := by decide +kernel
theorem dX11_where_30 : decode cX11_where 30 = .ok (.iconst (-1), 1) := by decide +kernel
theorem dX11_where_31 : decode cX11_where 31 = .ok (.ireturn, 1) := by decide +kernel
theorem dX11_winning_0 : decode cX11_winning 0 = .ok (.aload_n 0, 1) := by decide +kernel
theorem dX11_winning_1 : decode cX11_winning 1 = .ok (.invokevirtual 155, 3) := by decide +kernel
theorem dX11_winning_4 : decode cX11_winning 4 = .ok (.ifCond .eq 5, 3) := by decide +kernel
theorem dX11_winning_7 : decode cX11_winning 7 = .ok (.iconst (-1), 1) := by decide +kernel
theorem dX11_winning_8 : decode cX11_winning 8 = .ok (.ireturn, 1) := by decide +kernel
theorem dX3_read_0 : decode cX3_read 0 = .ok (.aload_n 1, 1) := by decide +kernel
theorem dX3_read_1 : decode cX3_read 1 = .ok (.invokevirtual 15, 3) := by decide +kernel
theorem dX3_read_4 : decode cX3_read 4 = .ok (.aload_n 0, 1) := by decide +kernel
theorem dX3_read_5 : decode cX3_read 5 = .ok (.iconst 0, 1) := by decide +kernel
theorem dX3_read_6 : decode cX3_read 6 = .ok (.putfield 20, 3) := by decide +kernel
theorem dX3_read_9 : decode cX3_read 9 = .ok (.aload_n 0, 1) := by decide +kernel
theorem dX3_read_10 : decode cX3_read 10 = .ok (.iconst 0, 1) := by decide +kernel
theorem dX3_read_11 : decode cX3_read 11 = .ok (.putfield 24, 3) := by decide +kernel
theorem dX3_read_14 : decode cX3_read 14 = .ok (.iconst 0, 1) := by decide +kernel
theorem dX3_read_15 : decode cX3_read 15 = .ok (.istore_n 2, 1) := by decide +kernel
theorem dX3_read_16 : decode cX3_read 16 = .ok (.iload_n 2, 1) := by decide +kernel
theorem dX3_read_17 : decode cX3_read 17 = .ok (.bipush 16, 2) := by decide +kernel
theorem dX3_read_19 : decode cX3_read 19 = .ok (.if_icmp .ge 61, 3) := by decide +kernel
theorem dX3_read_22 : decode cX3_read 22 = .ok (.aload_n 0, 1) := by decide +kernel
theorem dX3_read_23 : decode cX3_read 23 = .ok (.aload_n 1, 1) := by decide +kernel
theorem dX3_read_24 : decode cX3_read 24 = .ok (.invokevirtual 27, 3) := by decide +kernel
theorem dX3_read_27 : decode cX3_read 27 = .ok (.istore_n 3, 1) := by decide +kernel
theorem dX3_read_28 : decode cX3_read 28 = .ok (.iload_n 3, 1) := by decide +kernel
theorem dX3_read_29 : decode cX3_read 29 = .ok (.iconst (-1), 1) := by decide +kernel
theorem dX3_read_30 : decode cX3_read 30 = .ok (.if_icmp .ne 5, 3) := by decide +kernel
theorem dX3_read_33 : decode cX3_read 33 = .ok (.iconst 0, 1) := by decide +kernel
theorem dX3_read_34 : decode cX3_read 34 = .ok (.ireturn, 1) := by decide +kernel
theorem dX3_readMove_0 : decode cX3_readMove 0 = .ok (.aload_n 1, 1) := by decide +kernel
theorem dX3_readMove_1 : decode cX3_readMove 1 = .ok (.invokevirtual 31, 3) := by decide +kernel
theorem dX3_readMove_4 : decode cX3_readMove 4 = .ok (.istore_n 2, 1) := by decide +kernel
theorem dX3_readMove_5 : decode cX3_readMove 5 = .ok (.iload_n 2, 1) := by decide +kernel
theorem dX3_readMove_6 : decode cX3_readMove 6 = .ok (.bipush 103, 2) := by decide +kernel
theorem dX3_readMove_8 : decode cX3_readMove 8 = .ok (.if_icmp .eq 28, 3) := by decide +kernel
theorem dX3_readMove_11 : decode cX3_readMove 11 = .ok (.iload_n 2, 1) := by decide +kernel
theorem dX3_readMove_12 : decode cX3_readMove 12 = .ok (.bipush 99, 2) := by decide +kernel
theorem dX3_readMove_14 : decode cX3_readMove 14 = .ok (.if_icmp .eq 22, 3) := by decide +kernel
theorem dX3_readMove_17 : decode cX3_readMove 17 = .ok (.iload_n 2, 1) := by decide +kernel
theorem dX3_readMove_18 : decode cX3_readMove 18 = .ok (.bipush 109, 2) := by decide +kernel
theorem dX3_readMove_20 : decode cX3_readMove 20 = .ok (.if_icmp .eq 16, 3) := by decide +kernel
theorem dX3_readMove_23 : decode cX3_readMove 23 = .ok (.iload_n 2, 1) := by decide +kernel
theorem dX3_readMove_24 : decode cX3_readMove 24 = .ok (.bipush 120, 2) := by decide +kernel
theorem dX3_readMove_26 : decode cX3_readMove 26 = .ok (.if_icmp .eq 10, 3) := by decide +kernel
theorem dX3_readMove_29 : decode cX3_readMove 29 = .ok (.aload_n 1, 1) := by decide +kernel
theorem dX3_readMove_30 : decode cX3_readMove 30 = .ok (.invokevirtual 42, 3) := by decide +kernel
theorem dX3_readMove_33 : decode cX3_readMove 33 = .ok (.pop, 1) := by decide +kernel
theorem dX3_readMove_34 : decode cX3_readMove 34 = .ok (.iconst (-1), 1) := by decide +kernel
theorem dX3_readMove_35 : decode cX3_readMove 35 = .ok (.ireturn, 1) := by decide +kernel
theorem dX4_clear_0 : decode cX4_clear 0 = .ok (.getstatic 56, 3) := by decide +kernel
theorem dX4_clear_3 : decode cX4_clear 3 = .ok (.iconst 0, 1) := by decide +kernel
theorem dX4_clear_4 : decode cX4_clear 4 = .ok (.aload_n 0, 1) := by decide +kernel
theorem dX4_clear_5 : decode cX4_clear 5 = .ok (.getfield 11, 3) := by decide +kernel
theorem dX4_clear_8 : decode cX4_clear 8 = .ok (.iconst 0, 1) := by decide +kernel
theorem dX4_clear_9 : decode cX4_clear 9 = .ok (.bipush 7, 2) := by decide +kernel
theorem dX4_clear_11 : decode cX4_clear 11 = .ok (.invokestatic 59, 3) := by decide +kernel
theorem dX4_clear_14 : decode cX4_clear 14 = .ok (.aload_n 0, 1) := by decide +kernel
theorem dX4_clear_15 : decode cX4_clear 15 = .ok (.iconst 0, 1) := by decide +kernel
theorem dX4_clear_16 : decode cX4_clear 16 = .ok (.putfield 65, 3) := by decide +kernel
theorem dX4_clear_19 : decode cX4_clear 19 = .ok (.aload_n 0, 1) := by decide +kernel
theorem dX4_clear_20 : decode cX4_clear 20 = .ok (.iconst 0, 1) := by decide +kernel
theorem dX4_clear_21 : decode cX4_clear 21 = .ok (.putfield 69, 3) := by decide +kernel
theorem dX4_clear_24 : decode cX4_clear 24 = .ok (.aload_n 0, 1) := by decide +kernel
theorem dX4_clear_25 : decode cX4_clear 25 = .ok (.iconst 0, 1) := by decide +kernel
theorem dX4_clear_26 : decode cX4_clear 26 = .ok (.putfield 72, 3) := by decide +kernel
theorem dX4_clear_29 : decode cX4_clear 29 = .ok (.aload_n 0, 1) := by decide +kernel
theorem dX4_clear_30 : decode cX4_clear 30 = .ok (.iconst 0, 1) := by decide +kernel
theorem dX4_clear_31 : decode cX4_clear 31 = .ok (.putfield 76, 3) := by decide +kernel
theorem dX4_clear_34 : decode cX4_clear 34 = .ok (.aload_n 0, 1) := by decide +kernel
theorem dX4_clear_35 : decode cX4_clear 35 = .ok (.iconst 0, 1) := by decide +kernel
theorem dX4_clear_36 : decode cX4_clear 36 = .ok (.putfield 79, 3) := by decide +kernel
theorem dX4_clear_39 : decode cX4_clear 39 = .ok (.aload_n 0, 1) := by decide +kernel
theorem dX4_clear_40 : decode cX4_clear 40 = .ok (.iconst 0, 1) := by decide +kernel
theorem dX4_clear_41 : decode cX4_clear 41 = .ok (.putfield 82, 3) := by decide +kernel
theorem dX4_clear_44 : decode cX4_clear 44 = .ok (.return_, 1) := by decide +kernel
theorem dX4_mayCome_0 : decode cX4_mayCome 0 = .ok (.iload_n 1, 1) := by decide +kernel
theorem dX4_mayCome_1 : decode cX4_mayCome 1 = .ok (.bipush 115, 2) := by decide +kernel
theorem dX4_mayCome_3 : decode cX4_mayCome 3 = .ok (.if_icmp .ne 10, 3) := by decide +kernel
theorem dX4_mayCome_13 : decode cX4_mayCome 13 = .ok (.iload_n 1, 1) := by decide +kernel
theorem dX4_mayCome_14 : decode cX4_mayCome 14 = .ok (.bipush 116, 2) := by decide +kernel
theorem dX4_mayCome_16 : decode cX4_mayCome 16 = .ok (.if_icmp .ne 12, 3) := by decide +kernel
theorem dX4_mayCome_28 : decode cX4_mayCome 28 = .ok (.iload_n 1, 1) := by decide +kernel
theorem dX4_mayCome_29 : decode cX4_mayCome 29 = .ok (.bipush 98, 2) := by decide +kernel
theorem dX4_mayCome_31 : decode cX4_mayCome 31 = .ok (.if_icmp .ne 16, 3) := by decide +kernel
theorem dX4_mayCome_47 : decode cX4_mayCome 47 = .ok (.iconst 0, 1) := by decide +kernel
theorem dX4_mayCome_48 : decode cX4_mayCome 48 = .ok (.ireturn, 1) := by decide +kernel
theorem dX4_read_0 : decode cX4_read 0 = .ok (.aload_n 1, 1) := by decide +kernel
theorem dX4_read_1 : decode cX4_read 1 = .ok (.invokevirtual 27, 3) := by decide +kernel
theorem dX4_read_4 : decode cX4_read 4 = .ok (.aload_n 0, 1) := by decide +kernel
theorem dX4_read_5 : decode cX4_read 5 = .ok (.invokevirtual 32, 3) := by decide +kernel
theorem dX4_read_8 : decode cX4_read 8 = .ok (.iconst 0, 1) := by decide +kernel
theorem dX4_read_9 : decode cX4_read 9 = .ok (.istore_n 2, 1) := by decide +kernel
theorem dX4_read_10 : decode cX4_read 10 = .ok (.iload_n 2, 1) := by decide +kernel
theorem dX4_read_11 : decode cX4_read 11 = .ok (.sipush 240, 3) := by decide +kernel
theorem dX4_read_14 : decode cX4_read 14 = .ok (.if_icmp .ge 35, 3) := by decide +kernel
theorem dX4_read_17 : decode cX4_read 17 = .ok (.aload_n 0, 1) := by decide +kernel
theorem dX4_read_18 : decode cX4_read 18 = .ok (.aload_n 1, 1) := by decide +kernel
theorem dX4_read_19 : decode cX4_read 19 = .ok (.invokevirtual 35, 3) := by decide +kernel
theorem dX4_read_22 : decode cX4_read 22 = .ok (.ifCond .ne 5, 3) := by decide +kernel
theorem dX4_read_25 : decode cX4_read 25 = .ok (.iconst 0, 1) := by decide +kernel
theorem dX4_read_26 : decode cX4_read 26 = .ok (.ireturn, 1) := by decide +kernel
theorem dX4_readClause_0 : decode cX4_readClause 0 = .ok (.aload_n 1, 1) := by decide +kernel
theorem dX4_readClause_1 : decode cX4_readClause 1 = .ok (.invokevirtual 39, 3) := by decide +kernel
theorem dX4_readClause_4 : decode cX4_readClause 4 = .ok (.istore_n 2, 1) := by decide +kernel
theorem dX4_readClause_5 : decode cX4_readClause 5 = .ok (.aload_n 0, 1) := by decide +kernel
theorem dX4_readClause_6 : decode cX4_readClause 6 = .ok (.iload_n 2, 1) := by decide +kernel
theorem dX4_readClause_7 : decode cX4_readClause 7 = .ok (.invokevirtual 85, 3) := by decide +kernel
theorem dX4_readClause_10 : decode cX4_readClause 10 = .ok (.ifCond .ne 8, 3) := by decide +kernel
theorem dX4_readClause_13 : decode cX4_readClause 13 = .ok (.aload_n 1, 1) := by decide +kernel
theorem dX4_readClause_14 : decode cX4_readClause 14 = .ok (.invokevirtual 89, 3) := by decide +kernel
theorem dX4_readClause_17 : decode cX4_readClause 17 = .ok (.ireturn, 1) := by decide +kernel
theorem dX5_bringBack_0 : decode cX5_bringBack 0 = .ok (.aload_n 0, 1) := by decide +kernel
theorem dX5_bringBack_1 : decode cX5_bringBack 1 = .ok (.getfield 34, 3) := by decide +kernel
theorem dX5_bringBack_4 : decode cX5_bringBack 4 = .ok (.ifCond .ne 5, 3) := by decide +kernel
theorem dX5_bringBack_7 : decode cX5_bringBack 7 = .ok (.iconst 0, 1) := by decide +kernel
theorem dX5_bringBack_8 : decode cX5_bringBack 8 = .ok (.ireturn, 1) := by decide +kernel
theorem dX5_shown_0 : decode cX5_shown 0 = .ok (.aload_n 0, 1) := by decide +kernel
theorem dX5_shown_1 : decode cX5_shown 1 = .ok (.getfield 31, 3) := by decide +kernel
theorem dX5_shown_4 : decode cX5_shown 4 = .ok (.bipush 60, 2) := by decide +kernel
theorem dX5_shown_6 : decode cX5_shown 6 = .ok (.invokestatic 38, 3) := by decide +kernel
theorem dX5_shown_9 : decode cX5_shown 9 = .ok (.ireturn, 1) := by decide +kernel
theorem dX5_takeBack_0 : decode cX5_takeBack 0 = .ok (.aload_n 0, 1) := by decide +kernel
theorem dX5_takeBack_1 : decode cX5_takeBack 1 = .ok (.getfield 27, 3) := by decide +kernel
theorem dX5_takeBack_4 : decode cX5_takeBack 4 = .ok (.iconst 1, 1) := by decide +kernel
theorem dX5_takeBack_5 : decode cX5_takeBack 5 = .ok (.if_icmp .ge 5, 3) := by decide +kernel
theorem dX5_takeBack_8 : decode cX5_takeBack 8 = .ok (.iconst 0, 1) := by decide +kernel
theorem dX5_takeBack_9 : decode cX5_takeBack 9 = .ok (.ireturn, 1) := by decide +kernel
theorem dX6_read_0 : decode cX6_read 0 = .ok (.aload_n 1, 1) := by decide +kernel
theorem dX6_read_1 : decode cX6_read 1 = .ok (.invokevirtual 26, 3) := by decide +kernel
theorem dX6_read_4 : decode cX6_read 4 = .ok (.aload_n 0, 1) := by decide +kernel
theorem dX6_read_5 : decode cX6_read 5 = .ok (.iconst 0, 1) := by decide +kernel
theorem dX6_read_6 : decode cX6_read 6 = .ok (.putfield 29, 3) := by decide +kernel
theorem dX6_read_9 : decode cX6_read 9 = .ok (.aload_n 0, 1) := by decide +kernel
theorem dX6_read_10 : decode cX6_read 10 = .ok (.iconst 0, 1) := by decide +kernel
theorem dX6_read_11 : decode cX6_read 11 = .ok (.putfield 33, 3) := by decide +kernel
theorem dX6_read_14 : decode cX6_read 14 = .ok (.aload_n 0, 1) := by decide +kernel
theorem dX6_read_15 : decode cX6_read 15 = .ok (.iconst 0, 1) := by decide +kernel
theorem dX6_read_16 : decode cX6_read 16 = .ok (.putfield 37, 3) := by decide +kernel
theorem dX6_read_19 : decode cX6_read 19 = .ok (.iconst 0, 1) := by decide +kernel
theorem dX6_read_20 : decode cX6_read 20 = .ok (.istore_n 2, 1) := by decide +kernel
theorem dX6_read_21 : decode cX6_read 21 = .ok (.iload_n 2, 1) := by decide +kernel
theorem dX6_read_22 : decode cX6_read 22 = .ok (.bipush 64, 2) := by decide +kernel
theorem dX6_read_24 : decode cX6_read 24 = .ok (.if_icmp .ge 53, 3) := by decide +kernel
theorem dX6_read_27 : decode cX6_read 27 = .ok (.aload_n 0, 1) := by decide +kernel
theorem dX6_read_28 : decode cX6_read 28 = .ok (.getfield 20, 3) := by decide +kernel
theorem dX6_read_31 : decode cX6_read 31 = .ok (.iload_n 2, 1) := by decide +kernel
theorem dX6_read_32 : decode cX6_read 32 = .ok (.aload_n 0, 1) := by decide +kernel
theorem dX6_read_33 : decode cX6_read 33 = .ok (.getfield 29, 3) := by decide +kernel
theorem dX6_read_36 : decode cX6_read 36 = .ok (.iastore, 1) := by decide +kernel
theorem dX6_read_37 : decode cX6_read 37 = .ok (.aload_n 0, 1) := by decide +kernel
theorem dX6_read_38 : decode cX6_read 38 = .ok (.aload_n 1, 1) := by decide +kernel
theorem dX6_read_39 : decode cX6_read 39 = .ok (.iload_n 2, 1) := by decide +kernel
theorem dX6_read_40 : decode cX6_read 40 = .ok (.invokevirtual 40, 3) := by decide +kernel
theorem dX6_read_43 : decode cX6_read 43 = .ok (.ifCond .ne 5, 3) := by decide +kernel
theorem dX6_read_46 : decode cX6_read 46 = .ok (.iconst 0, 1) := by decide +kernel
theorem dX6_read_47 : decode cX6_read 47 = .ok (.ireturn, 1) := by decide +kernel
theorem dX6_readClause_0 : decode cX6_readClause 0 = .ok (.aload_n 1, 1) := by decide +kernel
theorem dX6_readClause_1 : decode cX6_readClause 1 = .ok (.bipush 121, 2) := by decide +kernel
theorem dX6_readClause_3 : decode cX6_readClause 3 = .ok (.invokevirtual 55, 3) := by decide +kernel
theorem dX6_readClause_6 : decode cX6_readClause 6 = .ok (.ifCond .eq 12, 3) := by decide +kernel
theorem dX6_readClause_18 : decode cX6_readClause 18 = .ok (.iconst 0, 1) := by decide +kernel
theorem dX6_readClause_19 : decode cX6_readClause 19 = .ok (.ireturn, 1) := by decide +kernel
theorem dX7_allows_0 : decode cX7_allows 0 = .ok (.aload_n 0, 1) := by decide +kernel
theorem dX7_allows_1 : decode cX7_allows 1 = .ok (.getfield 31, 3) := by decide +kernel
theorem dX7_allows_4 : decode cX7_allows 4 = .ok (.getfield 36, 3) := by decide +kernel
theorem dX7_allows_7 : decode cX7_allows 7 = .ok (.astore 6, 2) := by decide +kernel
theorem dX7_allows_9 : decode cX7_allows 9 = .ok (.aload 6, 2) := by decide +kernel
theorem dX7_allows_11 : decode cX7_allows 11 = .ok (.getfield 42, 3) := by decide +kernel
theorem dX7_allows_14 : decode cX7_allows 14 = .ok (.ifCond .eq 10, 3) := by decide +kernel
theorem dX7_allows_24 : decode cX7_allows 24 = .ok (.iconst 0, 1) := by decide +kernel
theorem dX7_allows_25 : decode cX7_allows 25 = .ok (.ireturn, 1) := by decide +kernel
theorem dX8_face_0 : decode cX8_face 0 = .ok (.aload_n 0, 1) := by decide +kernel
theorem dX8_face_1 : decode cX8_face 1 = .ok (.aload_n 1, 1) := by decide +kernel
theorem dX8_face_2 : decode cX8_face 2 = .ok (.putfield 32, 3) := by decide +kernel
theorem dX8_face_5 : decode cX8_face 5 = .ok (.aload_n 0, 1) := by decide +kernel
theorem dX8_face_6 : decode cX8_face 6 = .ok (.aload_n 2, 1) := by decide +kernel
theorem dX8_face_7 : decode cX8_face 7 = .ok (.putfield 36, 3) := by decide +kernel
theorem dX8_face_10 : decode cX8_face 10 = .ok (.aload_n 0, 1) := by decide +kernel
theorem dX8_face_11 : decode cX8_face 11 = .ok (.getfield 11, 3) := by decide +kernel
theorem dX8_face_14 : decode cX8_face 14 = .ok (.iconst 0, 1) := by decide +kernel
theorem dX8_face_15 : decode cX8_face 15 = .ok (.invokestatic 40, 3) := by decide +kernel
theorem dX8_face_18 : decode cX8_face 18 = .ok (.aload_n 0, 1) := by decide +kernel
theorem dX8_face_19 : decode cX8_face 19 = .ok (.getfield 15, 3) := by decide +kernel
theorem dX8_face_22 : decode cX8_face 22 = .ok (.iconst 0, 1) := by decide +kernel
theorem dX8_face_23 : decode cX8_face 23 = .ok (.invokestatic 40, 3) := by decide +kernel
theorem dX8_face_26 : decode cX8_face 26 = .ok (.aload_n 0, 1) := by decide +kernel
theorem dX8_face_27 : decode cX8_face 27 = .ok (.getfield 18, 3) := by decide +kernel
theorem dX8_face_30 : decode cX8_face 30 = .ok (.iconst 0, 1) := by decide +kernel
theorem dX8_face_31 : decode cX8_face 31 = .ok (.invokestatic 40, 3) := by decide +kernel
theorem dX8_face_34 : decode cX8_face 34 = .ok (.return_, 1) := by decide +kernel
def P_US (tU : Nat) (fU : Nat → Int32) (A : Nat → Prop) (U : State) : Prop := va_Z RX4 "USUAL" "[I" (.ref tU) A U U.heap ∧ va_X tU 7 fU U U.heap ∧ tU < U.heap.size ∧ ¬ A tU
theorem P_US.blind {tU : Nat} {fU : Nat → Int32} {A : Nat → Prop} {U : State} {g : JFrame} {mk : MethodId} {a : Array Value} (h : P_US tU fU A U) : P_US tU fU A (U.calling g mk a) := ⟨va_Z.moved (Vm.Alike.refl _) h.1, va_X.moved (Vm.Alike.refl _) h.2.1, h.2.2.1, h.2.2.2⟩
theorem P_US.call {tU : Nat} {fU : Nat → Int32} {A B : Nat → Prop} {s U : State} {H : Heap} {locs : List Loc} (h : P_US tU fU A s) (hS : va_S A s.heap H locs) (hF : ∀ q, B q → A q) (hU : U.heap = H) (hW : s.WarmedH U.vm) : P_US tU fU B U := by
  subst hU
  exact ⟨((h.1.kept (fun a h1 h2 => hS.2.1 a h1 h2)).narrow hF).moved hW.alike, (h.2.1.kept (hS.2.1 tU h.2.2.1 h.2.2.2)).moved hW.alike, Nat.lt_of_lt_of_le h.2.2.1 hS.1, fun q => h.2.2.2 (hF _ q)⟩
theorem sw_out {x : Int32} (n : Nat) (hn : n < 1000) (h : ∀ k : Nat, k ≤ n → ¬ x = Int32.ofNat k) : x.toInt < 0 ∨ (n : Int) < x.toInt := by
  by_cases a : x.toInt < 0
  · exact Or.inl a
  · by_cases b : (n : Int) < x.toInt
    · exact Or.inr b
    · exfalso
      refine h x.toInt.toNat (by omega) ?_
      have e := nI_toInt (n := x.toInt.toNat) (by omega)
      rw [← Int32.toInt_inj, show Int32.ofNat x.toInt.toNat = nI x.toInt.toNat from rfl, e]
      omega
def F_end (v : Int32) : Int32 := if v = 0 then 1 else 0
def F_dr (v : Int32) : Int32 := if 0 < v ∧ v ≤ 99 then 1 else 0
def F_law (v : Int32) : Int32 := if v = -1 then 1 else 0
def F_count (v : Int32) : Int32 := if v = 0 then 0 else if v = 1 then 0 else if v = 2 then 0 else if v = 3 then 0 else if v = 4 then 0 else if v = 5 then -1 else if v = 6 then 0 else if v = 7 then 0 else if v = 8 then 0 else if v = 9 then 0 else if v = 10 then 0 else if v = 11 then 0 else if v = 12 then 0 else if v = 13 then 0 else if v = 14 then 0 else if v = 15 then 0 else -1000000
def F_fault (v : Int32) : Int32 := if v = 0 then 0 else if v = 1 then 0 else if v = 2 then 0 else -2
