def RJ0 : String := "java/lang/String"
def RJ1 : String := "java/lang/StringLatin1"
def RJ3 : String := "jdk/internal/util/Preconditions"
abbrev cJ0_charAt_5068e : ByteArray := prog_23_method_56_code
def yJ0_charAt_5068e : MethodName := ⟨RJ0, "charAt", "(I)C"⟩
abbrev cJ0_checkIndex_df160 : ByteArray := prog_23_method_155_code
def yJ0_checkIndex_df160 : MethodName := ⟨RJ0, "checkIndex", "(II)V"⟩
abbrev cJ0_coder_7d493 : ByteArray := prog_23_method_152_code
def yJ0_coder_7d493 : MethodName := ⟨RJ0, "coder", "()B"⟩
abbrev cJ0_isLatin1_aae02 : ByteArray := prog_23_method_154_code
def yJ0_isLatin1_aae02 : MethodName := ⟨RJ0, "isLatin1", "()Z"⟩
abbrev cJ0_length_8abf5 : ByteArray := prog_23_method_54_code
def yJ0_length_8abf5 : MethodName := ⟨RJ0, "length", "()I"⟩
abbrev cJ1_charAt_3b067 : ByteArray := prog_24_method_2_code
def yJ1_charAt_3b067 : MethodName := ⟨RJ1, "charAt", "([BI)C"⟩
abbrev cJ3_checkIndex_8e157 : ByteArray := prog_32_method_11_code
def yJ3_checkIndex_8e157 : MethodName := ⟨RJ3, "checkIndex", "(IILjava/util/function/BiFunction;)I"⟩
abbrev cX12_advice : ByteArray := prog_14_method_93_code
def yX12_advice : MethodName := ⟨RX12, "advice", "(I)I"⟩
abbrev cX12_alike : ByteArray := prog_14_method_119_code
def yX12_alike : MethodName := ⟨RX12, "alike", "(I)I"⟩
abbrev cX12_answers : ByteArray := prog_14_method_91_code
def yX12_answers : MethodName := ⟨RX12, "answers", "(I)I"⟩
abbrev cX12_back : ByteArray := prog_14_method_127_code
def yX12_back : MethodName := ⟨RX12, "back", "()I"⟩
abbrev cX12_book : ByteArray := prog_14_method_112_code
def yX12_book : MethodName := ⟨RX12, "book", "(IZ)I"⟩
abbrev cX12_canCut : ByteArray := prog_14_method_62_code
def yX12_canCut : MethodName := ⟨RX12, "canCut", "([IIII)Z"⟩
abbrev cX12_canDig : ByteArray := prog_14_method_67_code
def yX12_canDig : MethodName := ⟨RX12, "canDig", "([II)Z"⟩
abbrev cX12_canGrow : ByteArray := prog_14_method_58_code
def yX12_canGrow : MethodName := ⟨RX12, "canGrow", "([II)Z"⟩
abbrev cX12_cell : ByteArray := prog_14_method_52_code
def yX12_cell : MethodName := ⟨RX12, "cell", "(II)I"⟩
abbrev cX12_clause : ByteArray := prog_14_method_24_code
def yX12_clause : MethodName := ⟨RX12, "clause", "()V"⟩
abbrev cX12_count : ByteArray := prog_14_method_128_code
def yX12_count : MethodName := ⟨RX12, "count", "(I)I"⟩
abbrev cX12_cut : ByteArray := prog_14_method_64_code
def yX12_cut : MethodName := ⟨RX12, "cut", "(III)I"⟩
abbrev cX12_cuts : ByteArray := prog_14_method_90_code
def yX12_cuts : MethodName := ⟨RX12, "cuts", "(I)I"⟩
abbrev cX12_drought : ByteArray := prog_14_method_54_code
def yX12_drought : MethodName := ⟨RX12, "drought", "(I)Z"⟩
abbrev cX12_end : ByteArray := prog_14_method_9_code
def yX12_end : MethodName := ⟨RX12, "end", "(I)Z"⟩
abbrev cX12_fails : ByteArray := prog_14_method_11_code
def yX12_fails : MethodName := ⟨RX12, "fails", "()Z"⟩
abbrev cX12_fault : ByteArray := prog_14_method_39_code
def yX12_fault : MethodName := ⟨RX12, "fault", "(I)I"⟩
abbrev cX12_fewest : ByteArray := prog_14_method_110_code
def yX12_fewest : MethodName := ⟨RX12, "fewest", "()I"⟩
abbrev cX12_fit : ByteArray := prog_14_method_114_code
def yX12_fit : MethodName := ⟨RX12, "fit", "(I)I"⟩
abbrev cX12_forced : ByteArray := prog_14_method_98_code
def yX12_forced : MethodName := ⟨RX12, "forced", "()I"⟩
abbrev cX12_games : ByteArray := prog_14_method_73_code
def yX12_games : MethodName := ⟨RX12, "games", "(IJ)I"⟩
abbrev cX12_goThrough : ByteArray := prog_14_method_26_code
def yX12_goThrough : MethodName := ⟨RX12, "goThrough", "([BII)V"⟩
abbrev cX12_grow : ByteArray := prog_14_method_60_code
def yX12_grow : MethodName := ⟨RX12, "grow", "(I)I"⟩
abbrev cX12_holds : ByteArray := prog_14_method_97_code
def yX12_holds : MethodName := ⟨RX12, "holds", "(I)I"⟩
abbrev cX12_image : ByteArray := prog_14_method_126_code
def yX12_image : MethodName := ⟨RX12, "image", "()I"⟩
abbrev cX12_init : ByteArray := prog_14_method_1_code
def yX12_init : MethodName := ⟨RX12, "<init>", "()V"⟩
abbrev cX12_isAmong : ByteArray := prog_14_method_5_code
def yX12_isAmong : MethodName := ⟨RX12, "isAmong", "(Ljava/lang/String;I)Z"⟩
abbrev cX12_isCell : ByteArray := prog_14_method_42_code
def yX12_isCell : MethodName := ⟨RX12, "isCell", "(I)Z"⟩
abbrev cX12_isGame : ByteArray := prog_14_method_76_code
def yX12_isGame : MethodName := ⟨RX12, "isGame", "(I)Z"⟩
abbrev cX12_isGrass : ByteArray := prog_14_method_111_code
def yX12_isGrass : MethodName := ⟨RX12, "isGrass", "(I)Z"⟩
abbrev cX12_isIn : ByteArray := prog_14_method_3_code
def yX12_isIn : MethodName := ⟨RX12, "isIn", "(JJJ)Z"⟩
abbrev cX12_isNight : ByteArray := prog_14_method_95_code
def yX12_isNight : MethodName := ⟨RX12, "isNight", "()Z"⟩
abbrev cX12_isOpen : ByteArray := prog_14_method_57_code
def yX12_isOpen : MethodName := ⟨RX12, "isOpen", "([I)Z"⟩
abbrev cX12_law : ByteArray := prog_14_method_53_code
def yX12_law : MethodName := ⟨RX12, "law", "(I)Z"⟩
abbrev cX12_log : ByteArray := prog_14_method_75_code
def yX12_log : MethodName := ⟨RX12, "log", "(II)I"⟩
abbrev cX12_longest : ByteArray := prog_14_method_125_code
def yX12_longest : MethodName := ⟨RX12, "longest", "()I"⟩
abbrev cX12_look : ByteArray := prog_14_method_10_code
def yX12_look : MethodName := ⟨RX12, "look", "()I"⟩
abbrev cX12_meant : ByteArray := prog_14_method_99_code
def yX12_meant : MethodName := ⟨RX12, "meant", "()I"⟩
abbrev cX12_missing : ByteArray := prog_14_method_85_code
def yX12_missing : MethodName := ⟨RX12, "missing", "(III)I"⟩
abbrev cX12_mole : ByteArray := prog_14_method_69_code
def yX12_mole : MethodName := ⟨RX12, "mole", "(I)I"⟩
abbrev cX12_move : ByteArray := prog_14_method_77_code
def yX12_move : MethodName := ⟨RX12, "move", "(III)I"⟩
abbrev cX12_odds : ByteArray := prog_14_method_122_code
def yX12_odds : MethodName := ⟨RX12, "odds", "(II)I"⟩
abbrev cX12_openings : ByteArray := prog_14_method_120_code
def yX12_openings : MethodName := ⟨RX12, "openings", "()I"⟩
abbrev cX12_parts : ByteArray := prog_14_method_102_code
def yX12_parts : MethodName := ⟨RX12, "parts", "(I)I"⟩
abbrev cX12_perform : ByteArray := prog_14_method_83_code
def yX12_perform : MethodName := ⟨RX12, "perform", "(I)I"⟩
abbrev cX12_readClause : ByteArray := prog_14_method_34_code
def yX12_readClause : MethodName := ⟨RX12, "readClause", "()V"⟩
abbrev cX12_readGame : ByteArray := prog_14_method_38_code
def yX12_readGame : MethodName := ⟨RX12, "readGame", "()V"⟩
abbrev cX12_readLawn : ByteArray := prog_14_method_35_code
def yX12_readLawn : MethodName := ⟨RX12, "readLawn", "()V"⟩
abbrev cX12_readMove : ByteArray := prog_14_method_37_code
def yX12_readMove : MethodName := ⟨RX12, "readMove", "(I)V"⟩
abbrev cX12_room : ByteArray := prog_14_method_124_code
def yX12_room : MethodName := ⟨RX12, "room", "()I"⟩
abbrev cX12_rule : ByteArray := prog_14_method_51_code
def yX12_rule : MethodName := ⟨RX12, "rule", "(I)I"⟩
abbrev cX12_run : ByteArray := prog_14_method_82_code
def yX12_run : MethodName := ⟨RX12, "run", "(I)I"⟩
abbrev cX12_sit : ByteArray := prog_14_method_66_code
def yX12_sit : MethodName := ⟨RX12, "sit", "()I"⟩
abbrev cX12_spotOf : ByteArray := prog_14_method_28_code
def yX12_spotOf : MethodName := ⟨RX12, "spotOf", "(Ljava/lang/String;I)I"⟩
abbrev cX12_starts : ByteArray := prog_14_method_25_code
def yX12_starts : MethodName := ⟨RX12, "starts", "([BII)V"⟩
abbrev cX12_sumOf : ByteArray := prog_14_method_108_code
def yX12_sumOf : MethodName := ⟨RX12, "sumOf", "(I)I"⟩
abbrev cX12_tells : ByteArray := prog_14_method_115_code
def yX12_tells : MethodName := ⟨RX12, "tells", "()I"⟩
abbrev cX12_text : ByteArray := prog_14_method_40_code
def yX12_text : MethodName := ⟨RX12, "text", "(I)I"⟩
abbrev cX12_threats : ByteArray := prog_14_method_86_code
def yX12_threats : MethodName := ⟨RX12, "threats", "()I"⟩
abbrev cX12_thrown : ByteArray := prog_14_method_2_code
def yX12_thrown : MethodName := ⟨RX12, "thrown", "()I"⟩
abbrev cX12_undo : ByteArray := prog_14_method_74_code
def yX12_undo : MethodName := ⟨RX12, "undo", "()I"⟩
abbrev cX12_usual : ByteArray := prog_14_method_32_code
def yX12_usual : MethodName := ⟨RX12, "usual", "(II)I"⟩
abbrev cX12_where : ByteArray := prog_14_method_123_code
def yX12_where : MethodName := ⟨RX12, "where", "(I)I"⟩
abbrev cX12_winning : ByteArray := prog_14_method_109_code
def yX12_winning : MethodName := ⟨RX12, "winning", "()I"⟩
theorem dJ0_charAt_5068e_0 : decode cJ0_charAt_5068e 0 = .ok (.aload_n 0, 1) := by decide +kernel
theorem dJ0_charAt_5068e_1 : decode cJ0_charAt_5068e 1 = .ok (.invokevirtual 492, 3) := by decide +kernel
theorem dJ0_charAt_5068e_4 : decode cJ0_charAt_5068e 4 = .ok (.ifCond .eq 12, 3) := by decide +kernel
theorem dJ0_charAt_5068e_7 : decode cJ0_charAt_5068e 7 = .ok (.aload_n 0, 1) := by decide +kernel
theorem dJ0_charAt_5068e_8 : decode cJ0_charAt_5068e 8 = .ok (.getfield 9, 3) := by decide +kernel
theorem dJ0_charAt_5068e_11 : decode cJ0_charAt_5068e 11 = .ok (.iload_n 1, 1) := by decide +kernel
theorem dJ0_charAt_5068e_12 : decode cJ0_charAt_5068e 12 = .ok (.invokestatic 495, 3) := by decide +kernel
theorem dJ0_charAt_5068e_15 : decode cJ0_charAt_5068e 15 = .ok (.ireturn, 1) := by decide +kernel
theorem dJ0_checkIndex_df160_0 : decode cJ0_checkIndex_df160 0 = .ok (.iload_n 0, 1) := by decide +kernel
theorem dJ0_checkIndex_df160_1 : decode cJ0_checkIndex_df160 1 = .ok (.iload_n 1, 1) := by decide +kernel
theorem dJ0_checkIndex_df160_2 : decode cJ0_checkIndex_df160 2 = .ok (.getstatic 1053, 3) := by decide +kernel
theorem dJ0_checkIndex_df160_5 : decode cJ0_checkIndex_df160 5 = .ok (.invokestatic 1059, 3) := by decide +kernel
theorem dJ0_checkIndex_df160_8 : decode cJ0_checkIndex_df160 8 = .ok (.pop, 1) := by decide +kernel
theorem dJ0_checkIndex_df160_9 : decode cJ0_checkIndex_df160 9 = .ok (.return_, 1) := by decide +kernel
theorem dJ0_coder_7d493_0 : decode cJ0_coder_7d493 0 = .ok (.getstatic 38, 3) := by decide +kernel
theorem dJ0_coder_7d493_3 : decode cJ0_coder_7d493 3 = .ok (.ifCond .eq 10, 3) := by decide +kernel
theorem dJ0_coder_7d493_6 : decode cJ0_coder_7d493 6 = .ok (.aload_n 0, 1) := by decide +kernel
theorem dJ0_coder_7d493_7 : decode cJ0_coder_7d493 7 = .ok (.getfield 15, 3) := by decide +kernel
theorem dJ0_coder_7d493_10 : decode cJ0_coder_7d493 10 = .ok (.goto 4, 3) := by decide +kernel
theorem dJ0_coder_7d493_14 : decode cJ0_coder_7d493 14 = .ok (.ireturn, 1) := by decide +kernel
theorem dJ0_isLatin1_aae02_0 : decode cJ0_isLatin1_aae02 0 = .ok (.getstatic 38, 3) := by decide +kernel
theorem dJ0_isLatin1_aae02_3 : decode cJ0_isLatin1_aae02 3 = .ok (.ifCond .eq 14, 3) := by decide +kernel
theorem dJ0_isLatin1_aae02_6 : decode cJ0_isLatin1_aae02 6 = .ok (.aload_n 0, 1) := by decide +kernel
theorem dJ0_isLatin1_aae02_7 : decode cJ0_isLatin1_aae02 7 = .ok (.getfield 15, 3) := by decide +kernel
theorem dJ0_isLatin1_aae02_10 : decode cJ0_isLatin1_aae02 10 = .ok (.ifCond .ne 7, 3) := by decide +kernel
theorem dJ0_isLatin1_aae02_13 : decode cJ0_isLatin1_aae02 13 = .ok (.iconst 1, 1) := by decide +kernel
theorem dJ0_isLatin1_aae02_14 : decode cJ0_isLatin1_aae02 14 = .ok (.goto 4, 3) := by decide +kernel
theorem dJ0_isLatin1_aae02_18 : decode cJ0_isLatin1_aae02 18 = .ok (.ireturn, 1) := by decide +kernel
theorem dJ0_length_8abf5_0 : decode cJ0_length_8abf5 0 = .ok (.aload_n 0, 1) := by decide +kernel
theorem dJ0_length_8abf5_1 : decode cJ0_length_8abf5 1 = .ok (.getfield 9, 3) := by decide +kernel
theorem dJ0_length_8abf5_4 : decode cJ0_length_8abf5 4 = .ok (.arraylength, 1) := by decide +kernel
theorem dJ0_length_8abf5_5 : decode cJ0_length_8abf5 5 = .ok (.aload_n 0, 1) := by decide +kernel
theorem dJ0_length_8abf5_6 : decode cJ0_length_8abf5 6 = .ok (.invokevirtual 335, 3) := by decide +kernel
theorem dJ0_length_8abf5_9 : decode cJ0_length_8abf5 9 = .ok (.ishr, 1) := by decide +kernel
theorem dJ0_length_8abf5_10 : decode cJ0_length_8abf5 10 = .ok (.ireturn, 1) := by decide +kernel
theorem dJ1_charAt_3b067_0 : decode cJ1_charAt_3b067 0 = .ok (.iload_n 1, 1) := by decide +kernel
theorem dJ1_charAt_3b067_1 : decode cJ1_charAt_3b067 1 = .ok (.aload_n 0, 1) := by decide +kernel
theorem dJ1_charAt_3b067_2 : decode cJ1_charAt_3b067 2 = .ok (.arraylength, 1) := by decide +kernel
theorem dJ1_charAt_3b067_3 : decode cJ1_charAt_3b067 3 = .ok (.invokestatic 9, 3) := by decide +kernel
theorem dJ1_charAt_3b067_6 : decode cJ1_charAt_3b067 6 = .ok (.aload_n 0, 1) := by decide +kernel
theorem dJ1_charAt_3b067_7 : decode cJ1_charAt_3b067 7 = .ok (.iload_n 1, 1) := by decide +kernel
theorem dJ1_charAt_3b067_8 : decode cJ1_charAt_3b067 8 = .ok (.baload, 1) := by decide +kernel
theorem dJ1_charAt_3b067_9 : decode cJ1_charAt_3b067 9 = .ok (.sipush 255, 3) := by decide +kernel
theorem dJ1_charAt_3b067_12 : decode cJ1_charAt_3b067 12 = .ok (.iand, 1) := by decide +kernel
theorem dJ1_charAt_3b067_13 : decode cJ1_charAt_3b067 13 = .ok (.i2c, 1) := by decide +kernel
theorem dJ1_charAt_3b067_14 : decode cJ1_charAt_3b067 14 = .ok (.ireturn, 1) := by decide +kernel
theorem dJ3_checkIndex_8e157_0 : decode cJ3_checkIndex_8e157 0 = .ok (.iload_n 0, 1) := by decide +kernel
theorem dJ3_checkIndex_8e157_1 : decode cJ3_checkIndex_8e157 1 = .ok (.ifCond .lt 8, 3) := by decide +kernel
theorem dJ3_checkIndex_8e157_4 : decode cJ3_checkIndex_8e157 4 = .ok (.iload_n 0, 1) := by decide +kernel
theorem dJ3_checkIndex_8e157_5 : decode cJ3_checkIndex_8e157 5 = .ok (.iload_n 1, 1) := by decide +kernel
theorem dJ3_checkIndex_8e157_6 : decode cJ3_checkIndex_8e157 6 = .ok (.if_icmp .lt 10, 3) := by decide +kernel
theorem dJ3_checkIndex_8e157_16 : decode cJ3_checkIndex_8e157 16 = .ok (.iload_n 0, 1) := by decide +kernel
theorem dJ3_checkIndex_8e157_17 : decode cJ3_checkIndex_8e157 17 = .ok (.ireturn, 1) := by decide +kernel
theorem dX12_advice_0 : decode cX12_advice 0 = .ok (.aload_n 0, 1) := by decide +kernel
theorem dX12_advice_1 : decode cX12_advice 1 = .ok (.iconst 0, 1) := by decide +kernel
theorem dX12_advice_2 : decode cX12_advice 2 = .ok (.putfield 94, 3) := by decide +kernel
theorem dX12_advice_5 : decode cX12_advice 5 = .ok (.aload_n 0, 1) := by decide +kernel
theorem dX12_advice_6 : decode cX12_advice 6 = .ok (.getfield 302, 3) := by decide +kernel
theorem dX12_advice_9 : decode cX12_advice 9 = .ok (.ifCond .eq 13, 3) := by decide +kernel
theorem dX12_advice_22 : decode cX12_advice 22 = .ok (.iconst (-1), 1) := by decide +kernel
theorem dX12_advice_23 : decode cX12_advice 23 = .ok (.ireturn, 1) := by decide +kernel
theorem dX12_alike_0 : decode cX12_alike 0 = .ok (.aload_n 0, 1) := by decide +kernel
theorem dX12_alike_1 : decode cX12_alike 1 = .ok (.iconst 0, 1) := by decide +kernel
theorem dX12_alike_2 : decode cX12_alike 2 = .ok (.putfield 94, 3) := by decide +kernel
theorem dX12_alike_5 : decode cX12_alike 5 = .ok (.aload_n 0, 1) := by decide +kernel
theorem dX12_alike_6 : decode cX12_alike 6 = .ok (.getfield 302, 3) := by decide +kernel
theorem dX12_alike_9 : decode cX12_alike 9 = .ok (.ifCond .eq 13, 3) := by decide +kernel
theorem dX12_alike_22 : decode cX12_alike 22 = .ok (.iconst (-1), 1) := by decide +kernel
theorem dX12_alike_23 : decode cX12_alike 23 = .ok (.ireturn, 1) := by decide +kernel
theorem dX12_answers_0 : decode cX12_answers 0 = .ok (.aload_n 0, 1) := by decide +kernel
theorem dX12_answers_1 : decode cX12_answers 1 = .ok (.iconst 0, 1) := by decide +kernel
theorem dX12_answers_2 : decode cX12_answers 2 = .ok (.putfield 94, 3) := by decide +kernel
theorem dX12_answers_5 : decode cX12_answers 5 = .ok (.aload_n 0, 1) := by decide +kernel
theorem dX12_answers_6 : decode cX12_answers 6 = .ok (.getfield 302, 3) := by decide +kernel
theorem dX12_answers_9 : decode cX12_answers 9 = .ok (.ifCond .eq 8, 3) := by decide +kernel
theorem dX12_answers_17 : decode cX12_answers 17 = .ok (.iconst (-1), 1) := by decide +kernel
theorem dX12_answers_18 : decode cX12_answers 18 = .ok (.goto 9, 3) := by decide +kernel
theorem dX12_answers_27 : decode cX12_answers 27 = .ok (.ireturn, 1) := by decide +kernel
theorem dX12_back_0 : decode cX12_back 0 = .ok (.aload_n 0, 1) := by decide +kernel
theorem dX12_back_1 : decode cX12_back 1 = .ok (.iconst 0, 1) := by decide +kernel
theorem dX12_back_2 : decode cX12_back 2 = .ok (.putfield 94, 3) := by decide +kernel
theorem dX12_back_5 : decode cX12_back 5 = .ok (.aload_n 0, 1) := by decide +kernel
theorem dX12_back_6 : decode cX12_back 6 = .ok (.getfield 314, 3) := by decide +kernel
theorem dX12_back_9 : decode cX12_back 9 = .ok (.ifCond .ne 5, 3) := by decide +kernel
theorem dX12_back_12 : decode cX12_back 12 = .ok (.iconst (-1), 1) := by decide +kernel
theorem dX12_back_13 : decode cX12_back 13 = .ok (.ireturn, 1) := by decide +kernel
theorem dX12_book_0 : decode cX12_book 0 = .ok (.aload_n 0, 1) := by decide +kernel
theorem dX12_book_1 : decode cX12_book 1 = .ok (.iconst 0, 1) := by decide +kernel
theorem dX12_book_2 : decode cX12_book 2 = .ok (.putfield 94, 3) := by decide +kernel
theorem dX12_book_5 : decode cX12_book 5 = .ok (.aload_n 0, 1) := by decide +kernel
theorem dX12_book_6 : decode cX12_book 6 = .ok (.iload_n 1, 1) := by decide +kernel
theorem dX12_book_7 : decode cX12_book 7 = .ok (.invokevirtual 516, 3) := by decide +kernel
theorem dX12_book_10 : decode cX12_book 10 = .ok (.ifCond .eq 12, 3) := by decide +kernel
theorem dX12_book_22 : decode cX12_book 22 = .ok (.iconst (-1), 1) := by decide +kernel
theorem dX12_book_23 : decode cX12_book 23 = .ok (.ireturn, 1) := by decide +kernel
theorem dX12_canCut_0 : decode cX12_canCut 0 = .ok (.aload_n 0, 1) := by decide +kernel
theorem dX12_canCut_1 : decode cX12_canCut 1 = .ok (.aload_n 1, 1) := by decide +kernel
theorem dX12_canCut_2 : decode cX12_canCut 2 = .ok (.invokevirtual 363, 3) := by decide +kernel
theorem dX12_canCut_5 : decode cX12_canCut 5 = .ok (.ifCond .eq 29, 3) := by decide +kernel
theorem dX12_canCut_34 : decode cX12_canCut 34 = .ok (.iconst 0, 1) := by decide +kernel
theorem dX12_canCut_35 : decode cX12_canCut 35 = .ok (.ireturn, 1) := by decide +kernel
theorem dX12_canDig_0 : decode cX12_canDig 0 = .ok (.aload_n 0, 1) := by decide +kernel
theorem dX12_canDig_1 : decode cX12_canDig 1 = .ok (.aload_n 1, 1) := by decide +kernel
theorem dX12_canDig_2 : decode cX12_canDig 2 = .ok (.invokevirtual 363, 3) := by decide +kernel
theorem dX12_canDig_5 : decode cX12_canDig 5 = .ok (.ifCond .eq 30, 3) := by decide +kernel
theorem dX12_canDig_35 : decode cX12_canDig 35 = .ok (.iconst 0, 1) := by decide +kernel
theorem dX12_canDig_36 : decode cX12_canDig 36 = .ok (.ireturn, 1) := by decide +kernel
theorem dX12_canGrow_0 : decode cX12_canGrow 0 = .ok (.aload_n 0, 1) := by decide +kernel
theorem dX12_canGrow_1 : decode cX12_canGrow 1 = .ok (.aload_n 1, 1) := by decide +kernel
theorem dX12_canGrow_2 : decode cX12_canGrow 2 = .ok (.invokevirtual 363, 3) := by decide +kernel
theorem dX12_canGrow_5 : decode cX12_canGrow 5 = .ok (.ifCond .eq 38, 3) := by decide +kernel
theorem dX12_canGrow_43 : decode cX12_canGrow 43 = .ok (.iconst 0, 1) := by decide +kernel
theorem dX12_canGrow_44 : decode cX12_canGrow 44 = .ok (.ireturn, 1) := by decide +kernel
theorem dX12_cell_0 : decode cX12_cell 0 = .ok (.aload_n 0, 1) := by decide +kernel
theorem dX12_cell_1 : decode cX12_cell 1 = .ok (.aload_n 0, 1) := by decide +kernel
theorem dX12_cell_2 : decode cX12_cell 2 = .ok (.iload_n 1, 1) := by decide +kernel
theorem dX12_cell_3 : decode cX12_cell 3 = .ok (.invokevirtual 355, 3) := by decide +kernel
theorem dX12_cell_6 : decode cX12_cell 6 = .ok (.ifCond .eq 19, 3) := by decide +kernel
theorem dX12_cell_25 : decode cX12_cell 25 = .ok (.iconst 1, 1) := by decide +kernel
theorem dX12_cell_26 : decode cX12_cell 26 = .ok (.putfield 94, 3) := by decide +kernel
theorem dX12_cell_29 : decode cX12_cell 29 = .ok (.aload_n 0, 1) := by decide +kernel
theorem dX12_cell_30 : decode cX12_cell 30 = .ok (.getfield 94, 3) := by decide +kernel
theorem dX12_cell_33 : decode cX12_cell 33 = .ok (.ifCond .le 5, 3) := by decide +kernel
theorem dX12_cell_36 : decode cX12_cell 36 = .ok (.iconst 0, 1) := by decide +kernel
theorem dX12_cell_37 : decode cX12_cell 37 = .ok (.ireturn, 1) := by decide +kernel
theorem dX12_clause_0 : decode cX12_clause 0 = .ok (.aload_n 0, 1) := by decide +kernel
theorem dX12_clause_1 : decode cX12_clause 1 = .ok (.invokevirtual 136, 3) := by decide +kernel
theorem dX12_clause_4 : decode cX12_clause 4 = .ok (.istore_n 1, 1) := by decide +kernel
theorem dX12_clause_5 : decode cX12_clause 5 = .ok (.ldc 26, 2) := by decide +kernel
theorem dX12_clause_7 : decode cX12_clause 7 = .ok (.iload_n 1, 1) := by decide +kernel
theorem dX12_clause_8 : decode cX12_clause 8 = .ok (.invokestatic 152, 3) := by decide +kernel
theorem dX12_clause_11 : decode cX12_clause 11 = .ok (.ifCond .ne 9, 3) := by decide +kernel
theorem dX12_clause_14 : decode cX12_clause 14 = .ok (.aload_n 0, 1) := by decide +kernel
theorem dX12_clause_15 : decode cX12_clause 15 = .ok (.invokevirtual 132, 3) := by decide +kernel
theorem dX12_clause_18 : decode cX12_clause 18 = .ok (.pop, 1) := by decide +kernel
theorem dX12_clause_19 : decode cX12_clause 19 = .ok (.return_, 1) := by decide +kernel
theorem dX12_count_0 : decode cX12_count 0 = .ok (.aload_n 0, 1) := by decide +kernel
theorem dX12_count_1 : decode cX12_count 1 = .ok (.iconst 0, 1) := by decide +kernel
theorem dX12_count_2 : decode cX12_count 2 = .ok (.putfield 94, 3) := by decide +kernel
theorem dX12_count_5 : decode cX12_count 5 = .ok (.iload_n 1, 1) := by decide +kernel
theorem dX12_count_6 : decode cX12_count 6 = .ok (.tableswitch 179 0 15 #[78, 83, 93, 98, 103, 108, 113, 120, 127, 134, 141, 149, 154, 159, 167, 172], 78) := by decide +kernel
theorem dX12_count_84 : decode cX12_count 84 = .ok (.aload_n 0, 1) := by decide +kernel
theorem dX12_count_85 : decode cX12_count 85 = .ok (.getfield 302, 3) := by decide +kernel
theorem dX12_count_88 : decode cX12_count 88 = .ok (.ireturn, 1) := by decide +kernel
theorem dX12_count_89 : decode cX12_count 89 = .ok (.aload_n 0, 1) := by decide +kernel
theorem dX12_count_90 : decode cX12_count 90 = .ok (.getfield 52, 3) := by decide +kernel
theorem dX12_count_93 : decode cX12_count 93 = .ok (.iconst 0, 1) := by decide +kernel
theorem dX12_count_94 : decode cX12_count 94 = .ok (.iaload, 1) := by decide +kernel
theorem dX12_count_95 : decode cX12_count 95 = .ok (.invokestatic 333, 3) := by decide +kernel
theorem dX12_count_98 : decode cX12_count 98 = .ok (.ireturn, 1) := by decide +kernel
theorem dX12_count_99 : decode cX12_count 99 = .ok (.aload_n 0, 1) := by decide +kernel
theorem dX12_count_100 : decode cX12_count 100 = .ok (.getfield 294, 3) := by decide +kernel
theorem dX12_count_103 : decode cX12_count 103 = .ok (.ireturn, 1) := by decide +kernel
theorem dX12_count_104 : decode cX12_count 104 = .ok (.aload_n 0, 1) := by decide +kernel
theorem dX12_count_105 : decode cX12_count 105 = .ok (.getfield 297, 3) := by decide +kernel
theorem dX12_count_108 : decode cX12_count 108 = .ok (.ireturn, 1) := by decide +kernel
theorem dX12_count_109 : decode cX12_count 109 = .ok (.aload_n 0, 1) := by decide +kernel
theorem dX12_count_110 : decode cX12_count 110 = .ok (.getfield 107, 3) := by decide +kernel
theorem dX12_count_113 : decode cX12_count 113 = .ok (.ireturn, 1) := by decide +kernel
theorem dX12_count_114 : decode cX12_count 114 = .ok (.aload_n 0, 1) := by decide +kernel
theorem dX12_count_115 : decode cX12_count 115 = .ok (.getfield 58, 3) := by decide +kernel
theorem dX12_count_118 : decode cX12_count 118 = .ok (.ireturn, 1) := by decide +kernel
theorem dX12_count_119 : decode cX12_count 119 = .ok (.aload_n 0, 1) := by decide +kernel
theorem dX12_count_120 : decode cX12_count 120 = .ok (.getfield 52, 3) := by decide +kernel
theorem dX12_count_123 : decode cX12_count 123 = .ok (.iconst 4, 1) := by decide +kernel
theorem dX12_count_124 : decode cX12_count 124 = .ok (.iaload, 1) := by decide +kernel
theorem dX12_count_125 : decode cX12_count 125 = .ok (.ireturn, 1) := by decide +kernel
theorem dX12_count_126 : decode cX12_count 126 = .ok (.aload_n 0, 1) := by decide +kernel
theorem dX12_count_127 : decode cX12_count 127 = .ok (.getfield 52, 3) := by decide +kernel
theorem dX12_count_130 : decode cX12_count 130 = .ok (.iconst 2, 1) := by decide +kernel
theorem dX12_count_131 : decode cX12_count 131 = .ok (.iaload, 1) := by decide +kernel
theorem dX12_count_132 : decode cX12_count 132 = .ok (.ireturn, 1) := by decide +kernel
theorem dX12_count_133 : decode cX12_count 133 = .ok (.aload_n 0, 1) := by decide +kernel
theorem dX12_count_134 : decode cX12_count 134 = .ok (.getfield 52, 3) := by decide +kernel
theorem dX12_count_137 : decode cX12_count 137 = .ok (.iconst 3, 1) := by decide +kernel
theorem dX12_count_138 : decode cX12_count 138 = .ok (.iaload, 1) := by decide +kernel
theorem dX12_count_139 : decode cX12_count 139 = .ok (.ireturn, 1) := by decide +kernel
theorem dX12_count_140 : decode cX12_count 140 = .ok (.aload_n 0, 1) := by decide +kernel
theorem dX12_count_141 : decode cX12_count 141 = .ok (.getfield 52, 3) := by decide +kernel
theorem dX12_count_144 : decode cX12_count 144 = .ok (.iconst 5, 1) := by decide +kernel
theorem dX12_count_145 : decode cX12_count 145 = .ok (.iaload, 1) := by decide +kernel
theorem dX12_count_146 : decode cX12_count 146 = .ok (.ireturn, 1) := by decide +kernel
theorem dX12_count_147 : decode cX12_count 147 = .ok (.aload_n 0, 1) := by decide +kernel
theorem dX12_count_148 : decode cX12_count 148 = .ok (.getfield 52, 3) := by decide +kernel
theorem dX12_count_151 : decode cX12_count 151 = .ok (.bipush 6, 2) := by decide +kernel
theorem dX12_count_153 : decode cX12_count 153 = .ok (.iaload, 1) := by decide +kernel
theorem dX12_count_154 : decode cX12_count 154 = .ok (.ireturn, 1) := by decide +kernel
theorem dX12_count_155 : decode cX12_count 155 = .ok (.aload_n 0, 1) := by decide +kernel
theorem dX12_count_156 : decode cX12_count 156 = .ok (.getfield 360, 3) := by decide +kernel
theorem dX12_count_159 : decode cX12_count 159 = .ok (.ireturn, 1) := by decide +kernel
theorem dX12_count_160 : decode cX12_count 160 = .ok (.aload_n 0, 1) := by decide +kernel
theorem dX12_count_161 : decode cX12_count 161 = .ok (.getfield 308, 3) := by decide +kernel
theorem dX12_count_164 : decode cX12_count 164 = .ok (.ireturn, 1) := by decide +kernel
theorem dX12_count_165 : decode cX12_count 165 = .ok (.aload_n 0, 1) := by decide +kernel
theorem dX12_count_166 : decode cX12_count 166 = .ok (.getfield 52, 3) := by decide +kernel
theorem dX12_count_169 : decode cX12_count 169 = .ok (.bipush 8, 2) := by decide +kernel
theorem dX12_count_171 : decode cX12_count 171 = .ok (.iaload, 1) := by decide +kernel
theorem dX12_count_172 : decode cX12_count 172 = .ok (.ireturn, 1) := by decide +kernel
theorem dX12_count_173 : decode cX12_count 173 = .ok (.aload_n 0, 1) := by decide +kernel
theorem dX12_count_174 : decode cX12_count 174 = .ok (.getfield 311, 3) := by decide +kernel
theorem dX12_count_177 : decode cX12_count 177 = .ok (.ireturn, 1) := by decide +kernel
theorem dX12_count_178 : decode cX12_count 178 = .ok (.aload_n 0, 1) := by decide +kernel
theorem dX12_count_179 : decode cX12_count 179 = .ok (.getfield 52, 3) := by decide +kernel
theorem dX12_count_182 : decode cX12_count 182 = .ok (.iconst 0, 1) := by decide +kernel
theorem dX12_count_183 : decode cX12_count 183 = .ok (.iaload, 1) := by decide +kernel
theorem dX12_count_184 : decode cX12_count 184 = .ok (.ireturn, 1) := by decide +kernel
theorem dX12_count_185 : decode cX12_count 185 = .ok (.ldc_w 439, 3) := by decide +kernel
theorem dX12_count_188 : decode cX12_count 188 = .ok (.ireturn, 1) := by decide +kernel
theorem dX12_cut_0 : decode cX12_cut 0 = .ok (.aload_n 0, 1) := by decide +kernel
theorem dX12_cut_1 : decode cX12_cut 1 = .ok (.iconst 0, 1) := by decide +kernel
theorem dX12_cut_2 : decode cX12_cut 2 = .ok (.putfield 94, 3) := by decide +kernel
theorem dX12_cut_5 : decode cX12_cut 5 = .ok (.aload_n 0, 1) := by decide +kernel
theorem dX12_cut_6 : decode cX12_cut 6 = .ok (.aload_n 0, 1) := by decide +kernel
theorem dX12_cut_7 : decode cX12_cut 7 = .ok (.getfield 52, 3) := by decide +kernel
theorem dX12_cut_10 : decode cX12_cut 10 = .ok (.iload_n 1, 1) := by decide +kernel
theorem dX12_cut_11 : decode cX12_cut 11 = .ok (.iload_n 2, 1) := by decide +kernel
theorem dX12_cut_12 : decode cX12_cut 12 = .ok (.iload_n 3, 1) := by decide +kernel
theorem dX12_cut_13 : decode cX12_cut 13 = .ok (.invokevirtual 390, 3) := by decide +kernel
theorem dX12_cut_16 : decode cX12_cut 16 = .ok (.ifCond .ne 5, 3) := by decide +kernel
theorem dX12_cut_19 : decode cX12_cut 19 = .ok (.iconst (-1), 1) := by decide +kernel
theorem dX12_cut_20 : decode cX12_cut 20 = .ok (.ireturn, 1) := by decide +kernel
theorem dX12_cuts_0 : decode cX12_cuts 0 = .ok (.aload_n 0, 1) := by decide +kernel
theorem dX12_cuts_1 : decode cX12_cuts 1 = .ok (.iconst 0, 1) := by decide +kernel
theorem dX12_cuts_2 : decode cX12_cuts 2 = .ok (.putfield 94, 3) := by decide +kernel
theorem dX12_cuts_5 : decode cX12_cuts 5 = .ok (.aload_n 0, 1) := by decide +kernel
theorem dX12_cuts_6 : decode cX12_cuts 6 = .ok (.getfield 302, 3) := by decide +kernel
theorem dX12_cuts_9 : decode cX12_cuts 9 = .ok (.ifCond .eq 8, 3) := by decide +kernel
theorem dX12_cuts_17 : decode cX12_cuts 17 = .ok (.iconst (-1), 1) := by decide +kernel
theorem dX12_cuts_18 : decode cX12_cuts 18 = .ok (.goto 9, 3) := by decide +kernel
theorem dX12_cuts_27 : decode cX12_cuts 27 = .ok (.ireturn, 1) := by decide +kernel
theorem dX12_drought_0 : decode cX12_drought 0 = .ok (.aload_n 0, 1) := by decide +kernel
theorem dX12_drought_1 : decode cX12_drought 1 = .ok (.iconst 0, 1) := by decide +kernel
theorem dX12_drought_2 : decode cX12_drought 2 = .ok (.putfield 94, 3) := by decide +kernel
theorem dX12_drought_5 : decode cX12_drought 5 = .ok (.iload_n 1, 1) := by decide +kernel
theorem dX12_drought_6 : decode cX12_drought 6 = .ok (.i2l, 1) := by decide +kernel
theorem dX12_drought_7 : decode cX12_drought 7 = .ok (.lconst 0, 1) := by decide +kernel
theorem dX12_drought_8 : decode cX12_drought 8 = .ok (.ldc2_w 358, 3) := by decide +kernel
theorem dX12_drought_11 : decode cX12_drought 11 = .ok (.invokestatic 215, 3) := by decide +kernel
theorem dX12_drought_14 : decode cX12_drought 14 = .ok (.ifCond .eq 11, 3) := by decide +kernel
theorem dX12_drought_17 : decode cX12_drought 17 = .ok (.iload_n 1, 1) := by decide +kernel
theorem dX12_drought_18 : decode cX12_drought 18 = .ok (.aload_n 0, 1) := by decide +kernel
theorem dX12_drought_19 : decode cX12_drought 19 = .ok (.getfield 360, 3) := by decide +kernel
theorem dX12_drought_22 : decode cX12_drought 22 = .ok (.if_icmp .ne 5, 3) := by decide +kernel
theorem dX12_drought_25 : decode cX12_drought 25 = .ok (.iconst 0, 1) := by decide +kernel
theorem dX12_drought_26 : decode cX12_drought 26 = .ok (.ireturn, 1) := by decide +kernel
theorem dX12_drought_27 : decode cX12_drought 27 = .ok (.aload_n 0, 1) := by decide +kernel
theorem dX12_drought_28 : decode cX12_drought 28 = .ok (.iload_n 1, 1) := by decide +kernel
theorem dX12_drought_29 : decode cX12_drought 29 = .ok (.putfield 360, 3) := by decide +kernel
theorem dX12_drought_32 : decode cX12_drought 32 = .ok (.iconst 1, 1) := by decide +kernel
theorem dX12_drought_33 : decode cX12_drought 33 = .ok (.ireturn, 1) := by decide +kernel
theorem dX12_end_0 : decode cX12_end 0 = .ok (.aload_n 0, 1) := by decide +kernel
theorem dX12_end_1 : decode cX12_end 1 = .ok (.iconst 0, 1) := by decide +kernel
theorem dX12_end_2 : decode cX12_end 2 = .ok (.putfield 94, 3) := by decide +kernel
theorem dX12_end_5 : decode cX12_end 5 = .ok (.iload_n 1, 1) := by decide +kernel
theorem dX12_end_6 : decode cX12_end 6 = .ok (.ifCond .lt 11, 3) := by decide +kernel
theorem dX12_end_9 : decode cX12_end 9 = .ok (.iload_n 1, 1) := by decide +kernel
theorem dX12_end_10 : decode cX12_end 10 = .ok (.aload_n 0, 1) := by decide +kernel
theorem dX12_end_11 : decode cX12_end 11 = .ok (.getfield 107, 3) := by decide +kernel
theorem dX12_end_14 : decode cX12_end 14 = .ok (.if_icmp .le 5, 3) := by decide +kernel
theorem dX12_end_17 : decode cX12_end 17 = .ok (.iconst 0, 1) := by decide +kernel
theorem dX12_end_18 : decode cX12_end 18 = .ok (.ireturn, 1) := by decide +kernel
theorem dX12_end_19 : decode cX12_end 19 = .ok (.aload_n 0, 1) := by decide +kernel
theorem dX12_end_20 : decode cX12_end 20 = .ok (.iload_n 1, 1) := by decide +kernel
theorem dX12_end_21 : decode cX12_end 21 = .ok (.putfield 107, 3) := by decide +kernel
theorem dX12_end_24 : decode cX12_end 24 = .ok (.iconst 1, 1) := by decide +kernel
theorem dX12_end_25 : decode cX12_end 25 = .ok (.ireturn, 1) := by decide +kernel
theorem dX12_fails_0 : decode cX12_fails 0 = .ok (.aload_n 0, 1) := by decide +kernel
theorem dX12_fails_1 : decode cX12_fails 1 = .ok (.getfield 126, 3) := by decide +kernel
theorem dX12_fails_4 : decode cX12_fails 4 = .ok (.iconst (-1), 1) := by decide +kernel
theorem dX12_fails_5 : decode cX12_fails 5 = .ok (.if_icmp .ne 11, 3) := by decide +kernel
theorem dX12_fails_8 : decode cX12_fails 8 = .ok (.aload_n 0, 1) := by decide +kernel
theorem dX12_fails_9 : decode cX12_fails 9 = .ok (.aload_n 0, 1) := by decide +kernel
theorem dX12_fails_10 : decode cX12_fails 10 = .ok (.getfield 117, 3) := by decide +kernel
theorem dX12_fails_13 : decode cX12_fails 13 = .ok (.putfield 126, 3) := by decide +kernel
theorem dX12_fails_16 : decode cX12_fails 16 = .ok (.iconst 0, 1) := by decide +kernel
theorem dX12_fails_17 : decode cX12_fails 17 = .ok (.ireturn, 1) := by decide +kernel
theorem dX12_fault_0 : decode cX12_fault 0 = .ok (.aload_n 0, 1) := by decide +kernel
theorem dX12_fault_1 : decode cX12_fault 1 = .ok (.iconst 0, 1) := by decide +kernel
theorem dX12_fault_2 : decode cX12_fault 2 = .ok (.putfield 94, 3) := by decide +kernel
theorem dX12_fault_5 : decode cX12_fault 5 = .ok (.iload_n 1, 1) := by decide +kernel
theorem dX12_fault_6 : decode cX12_fault 6 = .ok (.i2l, 1) := by decide +kernel
theorem dX12_fault_7 : decode cX12_fault 7 = .ok (.lconst 0, 1) := by decide +kernel
theorem dX12_fault_8 : decode cX12_fault 8 = .ok (.ldc2_w 283, 3) := by decide +kernel
theorem dX12_fault_11 : decode cX12_fault 11 = .ok (.invokestatic 215, 3) := by decide +kernel
theorem dX12_fault_14 : decode cX12_fault 14 = .ok (.ifCond .ne 6, 3) := by decide +kernel
theorem dX12_fault_17 : decode cX12_fault 17 = .ok (.bipush (-2), 2) := by decide +kernel
theorem dX12_fault_19 : decode cX12_fault 19 = .ok (.ireturn, 1) := by decide +kernel
theorem dX12_fault_20 : decode cX12_fault 20 = .ok (.iload_n 1, 1) := by decide +kernel
theorem dX12_fault_21 : decode cX12_fault 21 = .ok (.ifCond .ne 7, 3) := by decide +kernel
theorem dX12_fault_24 : decode cX12_fault 24 = .ok (.aload_n 0, 1) := by decide +kernel
theorem dX12_fault_25 : decode cX12_fault 25 = .ok (.invokevirtual 285, 3) := by decide +kernel
theorem dX12_fault_28 : decode cX12_fault 28 = .ok (.iload_n 1, 1) := by decide +kernel
theorem dX12_fault_29 : decode cX12_fault 29 = .ok (.iconst 1, 1) := by decide +kernel
theorem dX12_fault_30 : decode cX12_fault 30 = .ok (.if_icmp .ne 16, 3) := by decide +kernel
theorem dX12_fault_33 : decode cX12_fault 33 = .ok (.aload_n 0, 1) := by decide +kernel
theorem dX12_fault_34 : decode cX12_fault 34 = .ok (.aload_n 0, 1) := by decide +kernel
theorem dX12_fault_35 : decode cX12_fault 35 = .ok (.getfield 9, 3) := by decide +kernel
theorem dX12_fault_38 : decode cX12_fault 38 = .ok (.iconst 0, 1) := by decide +kernel
theorem dX12_fault_39 : decode cX12_fault 39 = .ok (.aload_n 0, 1) := by decide +kernel
theorem dX12_fault_40 : decode cX12_fault 40 = .ok (.getfield 107, 3) := by decide +kernel
theorem dX12_fault_43 : decode cX12_fault 43 = .ok (.invokevirtual 288, 3) := by decide +kernel
theorem dX12_fault_46 : decode cX12_fault 46 = .ok (.iload_n 1, 1) := by decide +kernel
theorem dX12_fault_47 : decode cX12_fault 47 = .ok (.iconst 2, 1) := by decide +kernel
theorem dX12_fault_48 : decode cX12_fault 48 = .ok (.if_icmp .ne 7, 3) := by decide +kernel
theorem dX12_fault_51 : decode cX12_fault 51 = .ok (.aload_n 0, 1) := by decide +kernel
theorem dX12_fault_52 : decode cX12_fault 52 = .ok (.invokevirtual 291, 3) := by decide +kernel
theorem dX12_fault_55 : decode cX12_fault 55 = .ok (.aload_n 0, 1) := by decide +kernel
theorem dX12_fault_56 : decode cX12_fault 56 = .ok (.getfield 126, 3) := by decide +kernel
theorem dX12_fault_59 : decode cX12_fault 59 = .ok (.ireturn, 1) := by decide +kernel
theorem dX12_fewest_0 : decode cX12_fewest 0 = .ok (.aload_n 0, 1) := by decide +kernel
theorem dX12_fewest_1 : decode cX12_fewest 1 = .ok (.iconst 0, 1) := by decide +kernel
theorem dX12_fewest_2 : decode cX12_fewest 2 = .ok (.putfield 94, 3) := by decide +kernel
theorem dX12_fewest_5 : decode cX12_fewest 5 = .ok (.aload_n 0, 1) := by decide +kernel
theorem dX12_fewest_6 : decode cX12_fewest 6 = .ok (.getfield 302, 3) := by decide +kernel
theorem dX12_fewest_9 : decode cX12_fewest 9 = .ok (.ifCond .ne 5, 3) := by decide +kernel
theorem dX12_fewest_12 : decode cX12_fewest 12 = .ok (.iconst (-1), 1) := by decide +kernel
theorem dX12_fewest_13 : decode cX12_fewest 13 = .ok (.ireturn, 1) := by decide +kernel
theorem dX12_fit_0 : decode cX12_fit 0 = .ok (.aload_n 0, 1) := by decide +kernel
theorem dX12_fit_1 : decode cX12_fit 1 = .ok (.iconst 0, 1) := by decide +kernel
theorem dX12_fit_2 : decode cX12_fit 2 = .ok (.putfield 94, 3) := by decide +kernel
theorem dX12_fit_5 : decode cX12_fit 5 = .ok (.aload_n 0, 1) := by decide +kernel
theorem dX12_fit_6 : decode cX12_fit 6 = .ok (.getfield 302, 3) := by decide +kernel
theorem dX12_fit_9 : decode cX12_fit 9 = .ok (.ifCond .eq 8, 3) := by decide +kernel
theorem dX12_fit_17 : decode cX12_fit 17 = .ok (.iconst (-1), 1) := by decide +kernel
theorem dX12_fit_18 : decode cX12_fit 18 = .ok (.ireturn, 1) := by decide +kernel
theorem dX12_forced_0 : decode cX12_forced 0 = .ok (.aload_n 0, 1) := by decide +kernel
theorem dX12_forced_1 : decode cX12_forced 1 = .ok (.iconst 0, 1) := by decide +kernel
theorem dX12_forced_2 : decode cX12_forced 2 = .ok (.putfield 94, 3) := by decide +kernel
theorem dX12_forced_5 : decode cX12_forced 5 = .ok (.aload_n 0, 1) := by decide +kernel
theorem dX12_forced_6 : decode cX12_forced 6 = .ok (.invokevirtual 484, 3) := by decide +kernel
theorem dX12_forced_9 : decode cX12_forced 9 = .ok (.ifCond .ne 5, 3) := by decide +kernel
theorem dX12_forced_12 : decode cX12_forced 12 = .ok (.iconst (-1), 1) := by decide +kernel
theorem dX12_forced_13 : decode cX12_forced 13 = .ok (.ireturn, 1) := by decide +kernel
theorem dX12_games_0 : decode cX12_games 0 = .ok (.aload_n 0, 1) := by decide +kernel
theorem dX12_games_1 : decode cX12_games 1 = .ok (.iconst 0, 1) := by decide +kernel
theorem dX12_games_2 : decode cX12_games 2 = .ok (.putfield 94, 3) := by decide +kernel
theorem dX12_games_5 : decode cX12_games 5 = .ok (.aload_n 0, 1) := by decide +kernel
theorem dX12_games_6 : decode cX12_games 6 = .ok (.aload_n 0, 1) := by decide +kernel
theorem dX12_games_7 : decode cX12_games 7 = .ok (.getfield 52, 3) := by decide +kernel
theorem dX12_games_10 : decode cX12_games 10 = .ok (.invokevirtual 363, 3) := by decide +kernel
theorem dX12_games_13 : decode cX12_games 13 = .ok (.ifCond .eq 15, 3) := by decide +kernel
theorem dX12_games_28 : decode cX12_games 28 = .ok (.iconst (-1), 1) := by decide +kernel
theorem dX12_games_29 : decode cX12_games 29 = .ok (.ireturn, 1) := by decide +kernel
theorem dX12_goThrough_0 : decode cX12_goThrough 0 = .ok (.aload_n 0, 1) := by decide +kernel
theorem dX12_goThrough_1 : decode cX12_goThrough 1 = .ok (.aload_n 1, 1) := by decide +kernel
theorem dX12_goThrough_2 : decode cX12_goThrough 2 = .ok (.iload_n 2, 1) := by decide +kernel
theorem dX12_goThrough_3 : decode cX12_goThrough 3 = .ok (.iload_n 3, 1) := by decide +kernel
theorem dX12_goThrough_4 : decode cX12_goThrough 4 = .ok (.invokevirtual 205, 3) := by decide +kernel
theorem dX12_goThrough_7 : decode cX12_goThrough 7 = .ok (.aload_n 0, 1) := by decide +kernel
theorem dX12_goThrough_8 : decode cX12_goThrough 8 = .ok (.bipush 121, 2) := by decide +kernel
theorem dX12_goThrough_10 : decode cX12_goThrough 10 = .ok (.putfield 199, 3) := by decide +kernel
theorem dX12_goThrough_13 : decode cX12_goThrough 13 = .ok (.aload_n 0, 1) := by decide +kernel
theorem dX12_goThrough_14 : decode cX12_goThrough 14 = .ok (.iconst 0, 1) := by decide +kernel
theorem dX12_goThrough_15 : decode cX12_goThrough 15 = .ok (.putfield 129, 3) := by decide +kernel
theorem dX12_goThrough_18 : decode cX12_goThrough 18 = .ok (.aload_n 0, 1) := by decide +kernel
theorem dX12_goThrough_19 : decode cX12_goThrough 19 = .ok (.iconst 0, 1) := by decide +kernel
theorem dX12_goThrough_20 : decode cX12_goThrough 20 = .ok (.putfield 195, 3) := by decide +kernel
theorem dX12_goThrough_23 : decode cX12_goThrough 23 = .ok (.aload_n 0, 1) := by decide +kernel
theorem dX12_goThrough_24 : decode cX12_goThrough 24 = .ok (.iconst 0, 1) := by decide +kernel
theorem dX12_goThrough_25 : decode cX12_goThrough 25 = .ok (.putfield 202, 3) := by decide +kernel
theorem dX12_goThrough_28 : decode cX12_goThrough 28 = .ok (.aload_n 0, 1) := by decide +kernel
theorem dX12_goThrough_29 : decode cX12_goThrough 29 = .ok (.invokevirtual 209, 3) := by decide +kernel
theorem dX12_goThrough_32 : decode cX12_goThrough 32 = .ok (.aload_n 0, 1) := by decide +kernel
theorem dX12_goThrough_33 : decode cX12_goThrough 33 = .ok (.getfield 126, 3) := by decide +kernel
theorem dX12_goThrough_36 : decode cX12_goThrough 36 = .ok (.iconst (-1), 1) := by decide +kernel
theorem dX12_goThrough_37 : decode cX12_goThrough 37 = .ok (.if_icmp .ne 29, 3) := by decide +kernel
theorem dX12_goThrough_66 : decode cX12_goThrough 66 = .ok (.aload_n 0, 1) := by decide +kernel
theorem dX12_goThrough_67 : decode cX12_goThrough 67 = .ok (.getfield 126, 3) := by decide +kernel
theorem dX12_goThrough_70 : decode cX12_goThrough 70 = .ok (.iconst (-1), 1) := by decide +kernel
theorem dX12_goThrough_71 : decode cX12_goThrough 71 = .ok (.if_icmp .ne 16, 3) := by decide +kernel
theorem dX12_goThrough_87 : decode cX12_goThrough 87 = .ok (.return_, 1) := by decide +kernel
theorem dX12_grow_0 : decode cX12_grow 0 = .ok (.aload_n 0, 1) := by decide +kernel
theorem dX12_grow_1 : decode cX12_grow 1 = .ok (.iconst 0, 1) := by decide +kernel
theorem dX12_grow_2 : decode cX12_grow 2 = .ok (.putfield 94, 3) := by decide +kernel
theorem dX12_grow_5 : decode cX12_grow 5 = .ok (.aload_n 0, 1) := by decide +kernel
theorem dX12_grow_6 : decode cX12_grow 6 = .ok (.aload_n 0, 1) := by decide +kernel
theorem dX12_grow_7 : decode cX12_grow 7 = .ok (.getfield 52, 3) := by decide +kernel
theorem dX12_grow_10 : decode cX12_grow 10 = .ok (.iload_n 1, 1) := by decide +kernel
theorem dX12_grow_11 : decode cX12_grow 11 = .ok (.invokevirtual 375, 3) := by decide +kernel
theorem dX12_grow_14 : decode cX12_grow 14 = .ok (.ifCond .ne 5, 3) := by decide +kernel
theorem dX12_grow_17 : decode cX12_grow 17 = .ok (.iconst (-1), 1) := by decide +kernel
theorem dX12_grow_18 : decode cX12_grow 18 = .ok (.ireturn, 1) := by decide +kernel
theorem dX12_holds_0 : decode cX12_holds 0 = .ok (.aload_n 0, 1) := by decide +kernel
theorem dX12_holds_1 : decode cX12_holds 1 = .ok (.iconst 0, 1) := by decide +kernel
theorem dX12_holds_2 : decode cX12_holds 2 = .ok (.putfield 94, 3) := by decide +kernel
theorem dX12_holds_5 : decode cX12_holds 5 = .ok (.aload_n 0, 1) := by decide +kernel
theorem dX12_holds_6 : decode cX12_holds 6 = .ok (.invokevirtual 484, 3) := by decide +kernel
theorem dX12_holds_9 : decode cX12_holds 9 = .ok (.ifCond .eq 15, 3) := by decide +kernel
theorem dX12_holds_24 : decode cX12_holds 24 = .ok (.iconst (-1), 1) := by decide +kernel
theorem dX12_holds_25 : decode cX12_holds 25 = .ok (.ireturn, 1) := by decide +kernel
theorem dX12_image_0 : decode cX12_image 0 = .ok (.aload_n 0, 1) := by decide +kernel
theorem dX12_image_1 : decode cX12_image 1 = .ok (.iconst 0, 1) := by decide +kernel
theorem dX12_image_2 : decode cX12_image 2 = .ok (.putfield 94, 3) := by decide +kernel
theorem dX12_image_5 : decode cX12_image 5 = .ok (.aload_n 0, 1) := by decide +kernel
theorem dX12_image_6 : decode cX12_image 6 = .ok (.getfield 302, 3) := by decide +kernel
theorem dX12_image_9 : decode cX12_image 9 = .ok (.ifCond .ne 5, 3) := by decide +kernel
theorem dX12_image_12 : decode cX12_image 12 = .ok (.iconst (-1), 1) := by decide +kernel
theorem dX12_image_13 : decode cX12_image 13 = .ok (.ireturn, 1) := by decide +kernel
theorem dX12_init_0 : decode cX12_init 0 = .ok (.aload_n 0, 1) := by decide +kernel
theorem dX12_init_1 : decode cX12_init 1 = .ok (.invokespecial 3, 3) := by decide +kernel
theorem dX12_init_4 : decode cX12_init 4 = .ok (.aload_n 0, 1) := by decide +kernel
theorem dX12_init_5 : decode cX12_init 5 = .ok (.sipush 240, 3) := by decide +kernel
theorem dX12_init_8 : decode cX12_init 8 = .ok (.newarray .byte, 2) := by decide +kernel
theorem dX12_init_10 : decode cX12_init 10 = .ok (.putfield 9, 3) := by decide +kernel
theorem dX12_init_13 : decode cX12_init 13 = .ok (.aload_n 0, 1) := by decide +kernel
theorem dX12_init_14 : decode cX12_init 14 = .ok (.sipush 960, 3) := by decide +kernel
theorem dX12_init_17 : decode cX12_init 17 = .ok (.newarray .byte, 2) := by decide +kernel
theorem dX12_init_19 : decode cX12_init 19 = .ok (.putfield 13, 3) := by decide +kernel
theorem dX12_init_22 : decode cX12_init 22 = .ok (.aload_n 0, 1) := by decide +kernel
theorem dX12_init_23 : decode cX12_init 23 = .ok (.iconst 4, 1) := by decide +kernel
theorem dX12_init_24 : decode cX12_init 24 = .ok (.newarray .int, 2) := by decide +kernel
theorem dX12_init_26 : decode cX12_init 26 = .ok (.putfield 16, 3) := by decide +kernel
theorem dX12_init_29 : decode cX12_init 29 = .ok (.aload_n 0, 1) := by decide +kernel
theorem dX12_init_30 : decode cX12_init 30 = .ok (.sipush 128, 3) := by decide +kernel
theorem dX12_init_33 : decode cX12_init 33 = .ok (.newarray .int, 2) := by decide +kernel
theorem dX12_init_35 : decode cX12_init 35 = .ok (.putfield 20, 3) := by decide +kernel
theorem dX12_init_38 : decode cX12_init 38 = .ok (.aload_n 0, 1) := by decide +kernel
theorem dX12_init_39 : decode cX12_init 39 = .ok (.aload_n 0, 1) := by decide +kernel
theorem dX12_init_40 : decode cX12_init 40 = .ok (.getfield 9, 3) := by decide +kernel
theorem dX12_init_43 : decode cX12_init 43 = .ok (.putfield 23, 3) := by decide +kernel
theorem dX12_init_46 : decode cX12_init 46 = .ok (.aload_n 0, 1) := by decide +kernel
theorem dX12_init_47 : decode cX12_init 47 = .ok (.ldc 26, 2) := by decide +kernel
theorem dX12_init_49 : decode cX12_init 49 = .ok (.putfield 28, 3) := by decide +kernel
theorem dX12_init_52 : decode cX12_init 52 = .ok (.aload_n 0, 1) := by decide +kernel
theorem dX12_init_53 : decode cX12_init 53 = .ok (.ldc 32, 2) := by decide +kernel
theorem dX12_init_55 : decode cX12_init 55 = .ok (.putfield 34, 3) := by decide +kernel
theorem dX12_init_58 : decode cX12_init 58 = .ok (.aload_n 0, 1) := by decide +kernel
theorem dX12_init_59 : decode cX12_init 59 = .ok (.bipush 7, 2) := by decide +kernel
theorem dX12_init_61 : decode cX12_init 61 = .ok (.newarray .int, 2) := by decide +kernel
theorem dX12_init_63 : decode cX12_init 63 = .ok (.putfield 37, 3) := by decide +kernel
theorem dX12_init_66 : decode cX12_init 66 = .ok (.aload_n 0, 1) := by decide +kernel
theorem dX12_init_67 : decode cX12_init 67 = .ok (.bipush 7, 2) := by decide +kernel
theorem dX12_init_69 : decode cX12_init 69 = .ok (.newarray .int, 2) := by decide +kernel
theorem dX12_init_71 : decode cX12_init 71 = .ok (.putfield 40, 3) := by decide +kernel
theorem dX12_init_74 : decode cX12_init 74 = .ok (.aload_n 0, 1) := by decide +kernel
theorem dX12_init_75 : decode cX12_init 75 = .ok (.iconst 1, 1) := by decide +kernel
theorem dX12_init_76 : decode cX12_init 76 = .ok (.newarray .int, 2) := by decide +kernel
theorem dX12_init_78 : decode cX12_init 78 = .ok (.putfield 43, 3) := by decide +kernel
theorem dX12_init_81 : decode cX12_init 81 = .ok (.aload_n 0, 1) := by decide +kernel
theorem dX12_init_82 : decode cX12_init 82 = .ok (.sipush 320, 3) := by decide +kernel
theorem dX12_init_85 : decode cX12_init 85 = .ok (.newarray .int, 2) := by decide +kernel
theorem dX12_init_87 : decode cX12_init 87 = .ok (.putfield 46, 3) := by decide +kernel
theorem dX12_init_90 : decode cX12_init 90 = .ok (.aload_n 0, 1) := by decide +kernel
theorem dX12_init_91 : decode cX12_init 91 = .ok (.iconst 5, 1) := by decide +kernel
theorem dX12_init_92 : decode cX12_init 92 = .ok (.newarray .int, 2) := by decide +kernel
theorem dX12_init_94 : decode cX12_init 94 = .ok (.putfield 49, 3) := by decide +kernel
theorem dX12_init_97 : decode cX12_init 97 = .ok (.aload_n 0, 1) := by decide +kernel
theorem dX12_init_98 : decode cX12_init 98 = .ok (.sipush 249, 3) := by decide +kernel
theorem dX12_init_101 : decode cX12_init 101 = .ok (.newarray .int, 2) := by decide +kernel
theorem dX12_init_103 : decode cX12_init 103 = .ok (.putfield 52, 3) := by decide +kernel
theorem dX12_init_106 : decode cX12_init 106 = .ok (.aload_n 0, 1) := by decide +kernel
theorem dX12_init_107 : decode cX12_init 107 = .ok (.sipush 249, 3) := by decide +kernel
theorem dX12_init_110 : decode cX12_init 110 = .ok (.newarray .int, 2) := by decide +kernel
theorem dX12_init_112 : decode cX12_init 112 = .ok (.putfield 55, 3) := by decide +kernel
theorem dX12_init_115 : decode cX12_init 115 = .ok (.aload_n 0, 1) := by decide +kernel
theorem dX12_init_116 : decode cX12_init 116 = .ok (.iconst (-1), 1) := by decide +kernel
theorem dX12_init_117 : decode cX12_init 117 = .ok (.putfield 58, 3) := by decide +kernel
theorem dX12_init_120 : decode cX12_init 120 = .ok (.aload_n 0, 1) := by decide +kernel
theorem dX12_init_121 : decode cX12_init 121 = .ok (.sipush 8191, 3) := by decide +kernel
theorem dX12_init_124 : decode cX12_init 124 = .ok (.newarray .long, 2) := by decide +kernel
theorem dX12_init_126 : decode cX12_init 126 = .ok (.putfield 62, 3) := by decide +kernel
theorem dX12_init_129 : decode cX12_init 129 = .ok (.aload_n 0, 1) := by decide +kernel
theorem dX12_init_130 : decode cX12_init 130 = .ok (.sipush 8191, 3) := by decide +kernel
theorem dX12_init_133 : decode cX12_init 133 = .ok (.newarray .int, 2) := by decide +kernel
theorem dX12_init_135 : decode cX12_init 135 = .ok (.putfield 66, 3) := by decide +kernel
theorem dX12_init_138 : decode cX12_init 138 = .ok (.aload_n 0, 1) := by decide +kernel
theorem dX12_init_139 : decode cX12_init 139 = .ok (.sipush 9960, 3) := by decide +kernel
theorem dX12_init_142 : decode cX12_init 142 = .ok (.newarray .int, 2) := by decide +kernel
theorem dX12_init_144 : decode cX12_init 144 = .ok (.putfield 69, 3) := by decide +kernel
theorem dX12_init_147 : decode cX12_init 147 = .ok (.aload_n 0, 1) := by decide +kernel
theorem dX12_init_148 : decode cX12_init 148 = .ok (.iconst 3, 1) := by decide +kernel
theorem dX12_init_149 : decode cX12_init 149 = .ok (.newarray .int, 2) := by decide +kernel
theorem dX12_init_151 : decode cX12_init 151 = .ok (.putfield 72, 3) := by decide +kernel
theorem dX12_init_154 : decode cX12_init 154 = .ok (.aload_n 0, 1) := by decide +kernel
theorem dX12_init_155 : decode cX12_init 155 = .ok (.bipush 12, 2) := by decide +kernel
theorem dX12_init_157 : decode cX12_init 157 = .ok (.newarray .int, 2) := by decide +kernel
theorem dX12_init_159 : decode cX12_init 159 = .ok (.putfield 75, 3) := by decide +kernel
theorem dX12_init_162 : decode cX12_init 162 = .ok (.aload_n 0, 1) := by decide +kernel
theorem dX12_init_163 : decode cX12_init 163 = .ok (.sipush 4096, 3) := by decide +kernel
theorem dX12_init_166 : decode cX12_init 166 = .ok (.newarray .int, 2) := by decide +kernel
theorem dX12_init_168 : decode cX12_init 168 = .ok (.putfield 78, 3) := by decide +kernel
theorem dX12_init_171 : decode cX12_init 171 = .ok (.aload_n 0, 1) := by decide +kernel
theorem dX12_init_172 : decode cX12_init 172 = .ok (.sipush 4096, 3) := by decide +kernel
theorem dX12_init_175 : decode cX12_init 175 = .ok (.newarray .int, 2) := by decide +kernel
theorem dX12_init_177 : decode cX12_init 177 = .ok (.putfield 81, 3) := by decide +kernel
theorem dX12_init_180 : decode cX12_init 180 = .ok (.aload_n 0, 1) := by decide +kernel
theorem dX12_init_181 : decode cX12_init 181 = .ok (.bipush 12, 2) := by decide +kernel
theorem dX12_init_183 : decode cX12_init 183 = .ok (.newarray .int, 2) := by decide +kernel
theorem dX12_init_185 : decode cX12_init 185 = .ok (.putfield 84, 3) := by decide +kernel
theorem dX12_init_188 : decode cX12_init 188 = .ok (.aload_n 0, 1) := by decide +kernel
theorem dX12_init_189 : decode cX12_init 189 = .ok (.bipush 12, 2) := by decide +kernel
theorem dX12_init_191 : decode cX12_init 191 = .ok (.newarray .boolean, 2) := by decide +kernel
theorem dX12_init_193 : decode cX12_init 193 = .ok (.putfield 87, 3) := by decide +kernel
theorem dX12_init_196 : decode cX12_init 196 = .ok (.aload_n 0, 1) := by decide +kernel
theorem dX12_init_197 : decode cX12_init 197 = .ok (.sipush 249, 3) := by decide +kernel
theorem dX12_init_200 : decode cX12_init 200 = .ok (.newarray .int, 2) := by decide +kernel
theorem dX12_init_202 : decode cX12_init 202 = .ok (.putfield 91, 3) := by decide +kernel
theorem dX12_init_205 : decode cX12_init 205 = .ok (.return_, 1) := by decide +kernel
theorem dX12_isAmong_0 : decode cX12_isAmong 0 = .ok (.iconst 0, 1) := by decide +kernel
theorem dX12_isAmong_1 : decode cX12_isAmong 1 = .ok (.istore_n 2, 1) := by decide +kernel
theorem dX12_isAmong_2 : decode cX12_isAmong 2 = .ok (.iload_n 2, 1) := by decide +kernel
theorem dX12_isAmong_3 : decode cX12_isAmong 3 = .ok (.aload_n 0, 1) := by decide +kernel
theorem dX12_isAmong_4 : decode cX12_isAmong 4 = .ok (.invokevirtual 97, 3) := by decide +kernel
theorem dX12_isAmong_7 : decode cX12_isAmong 7 = .ok (.if_icmp .ge 20, 3) := by decide +kernel
theorem dX12_isAmong_10 : decode cX12_isAmong 10 = .ok (.aload_n 0, 1) := by decide +kernel
theorem dX12_isAmong_11 : decode cX12_isAmong 11 = .ok (.iload_n 2, 1) := by decide +kernel
theorem dX12_isAmong_12 : decode cX12_isAmong 12 = .ok (.invokevirtual 103, 3) := by decide +kernel
theorem dX12_isAmong_15 : decode cX12_isAmong 15 = .ok (.iload_n 1, 1) := by decide +kernel
theorem dX12_isAmong_16 : decode cX12_isAmong 16 = .ok (.if_icmp .ne 5, 3) := by decide +kernel
theorem dX12_isAmong_21 : decode cX12_isAmong 21 = .ok (.iinc 2 1, 3) := by decide +kernel
theorem dX12_isAmong_24 : decode cX12_isAmong 24 = .ok (.goto (-22), 3) := by decide +kernel
theorem dX12_isAmong_27 : decode cX12_isAmong 27 = .ok (.iconst 0, 1) := by decide +kernel
theorem dX12_isAmong_28 : decode cX12_isAmong 28 = .ok (.ireturn, 1) := by decide +kernel
theorem dX12_isCell_0 : decode cX12_isCell 0 = .ok (.iload_n 1, 1) := by decide +kernel
theorem dX12_isCell_1 : decode cX12_isCell 1 = .ok (.ifCond .lt 15, 3) := by decide +kernel
theorem dX12_isCell_4 : decode cX12_isCell 4 = .ok (.iload_n 1, 1) := by decide +kernel
theorem dX12_isCell_5 : decode cX12_isCell 5 = .ok (.aload_n 0, 1) := by decide +kernel
theorem dX12_isCell_6 : decode cX12_isCell 6 = .ok (.getfield 302, 3) := by decide +kernel
theorem dX12_isCell_9 : decode cX12_isCell 9 = .ok (.if_icmp .ge 7, 3) := by decide +kernel
theorem dX12_isCell_16 : decode cX12_isCell 16 = .ok (.iconst 0, 1) := by decide +kernel
theorem dX12_isCell_17 : decode cX12_isCell 17 = .ok (.ireturn, 1) := by decide +kernel
theorem dX12_isGame_0 : decode cX12_isGame 0 = .ok (.iload_n 1, 1) := by decide +kernel
theorem dX12_isGame_1 : decode cX12_isGame 1 = .ok (.ifCond .lt 15, 3) := by decide +kernel
theorem dX12_isGame_4 : decode cX12_isGame 4 = .ok (.iload_n 1, 1) := by decide +kernel
theorem dX12_isGame_5 : decode cX12_isGame 5 = .ok (.aload_n 0, 1) := by decide +kernel
theorem dX12_isGame_6 : decode cX12_isGame 6 = .ok (.getfield 297, 3) := by decide +kernel
theorem dX12_isGame_9 : decode cX12_isGame 9 = .ok (.if_icmp .ge 7, 3) := by decide +kernel
theorem dX12_isGame_16 : decode cX12_isGame 16 = .ok (.iconst 0, 1) := by decide +kernel
theorem dX12_isGame_17 : decode cX12_isGame 17 = .ok (.ireturn, 1) := by decide +kernel
theorem dX12_isGrass_0 : decode cX12_isGrass 0 = .ok (.aload_n 0, 1) := by decide +kernel
theorem dX12_isGrass_1 : decode cX12_isGrass 1 = .ok (.iload_n 1, 1) := by decide +kernel
theorem dX12_isGrass_2 : decode cX12_isGrass 2 = .ok (.invokevirtual 355, 3) := by decide +kernel
theorem dX12_isGrass_5 : decode cX12_isGrass 5 = .ok (.ifCond .eq 32, 3) := by decide +kernel
theorem dX12_isGrass_37 : decode cX12_isGrass 37 = .ok (.iconst 0, 1) := by decide +kernel
theorem dX12_isGrass_38 : decode cX12_isGrass 38 = .ok (.ireturn, 1) := by decide +kernel
theorem dX12_isIn_0 : decode cX12_isIn 0 = .ok (.lload_n 0, 1) := by decide +kernel
theorem dX12_isIn_1 : decode cX12_isIn 1 = .ok (.lload_n 2, 1) := by decide +kernel
theorem dX12_isIn_2 : decode cX12_isIn 2 = .ok (.lcmp, 1) := by decide +kernel
theorem dX12_isIn_3 : decode cX12_isIn 3 = .ok (.ifCond .lt 14, 3) := by decide +kernel
theorem dX12_isIn_6 : decode cX12_isIn 6 = .ok (.lload_n 0, 1) := by decide +kernel
theorem dX12_isIn_7 : decode cX12_isIn 7 = .ok (.lload 4, 2) := by decide +kernel
theorem dX12_isIn_9 : decode cX12_isIn 9 = .ok (.lcmp, 1) := by decide +kernel
theorem dX12_isIn_10 : decode cX12_isIn 10 = .ok (.ifCond .gt 7, 3) := by decide +kernel
theorem dX12_isIn_13 : decode cX12_isIn 13 = .ok (.iconst 1, 1) := by decide +kernel
theorem dX12_isIn_14 : decode cX12_isIn 14 = .ok (.goto 4, 3) := by decide +kernel
theorem dX12_isIn_17 : decode cX12_isIn 17 = .ok (.iconst 0, 1) := by decide +kernel
theorem dX12_isIn_18 : decode cX12_isIn 18 = .ok (.ireturn, 1) := by decide +kernel
theorem dX12_isNight_0 : decode cX12_isNight 0 = .ok (.aload_n 0, 1) := by decide +kernel
theorem dX12_isNight_1 : decode cX12_isNight 1 = .ok (.aload_n 0, 1) := by decide +kernel
theorem dX12_isNight_2 : decode cX12_isNight 2 = .ok (.getfield 52, 3) := by decide +kernel
theorem dX12_isNight_5 : decode cX12_isNight 5 = .ok (.invokevirtual 363, 3) := by decide +kernel
theorem dX12_isNight_8 : decode cX12_isNight 8 = .ok (.ifCond .eq 16, 3) := by decide +kernel
theorem dX12_isNight_24 : decode cX12_isNight 24 = .ok (.iconst 0, 1) := by decide +kernel
theorem dX12_isNight_25 : decode cX12_isNight 25 = .ok (.ireturn, 1) := by decide +kernel
theorem dX12_isOpen_0 : decode cX12_isOpen 0 = .ok (.aload_n 0, 1) := by decide +kernel
theorem dX12_isOpen_1 : decode cX12_isOpen 1 = .ok (.getfield 302, 3) := by decide +kernel
theorem dX12_isOpen_4 : decode cX12_isOpen 4 = .ok (.ifCond .le 13, 3) := by decide +kernel
theorem dX12_isOpen_17 : decode cX12_isOpen 17 = .ok (.iconst 0, 1) := by decide +kernel
theorem dX12_isOpen_18 : decode cX12_isOpen 18 = .ok (.ireturn, 1) := by decide +kernel
theorem dX12_law_0 : decode cX12_law 0 = .ok (.aload_n 0, 1) := by decide +kernel
theorem dX12_law_1 : decode cX12_law 1 = .ok (.iconst 0, 1) := by decide +kernel
theorem dX12_law_2 : decode cX12_law 2 = .ok (.putfield 94, 3) := by decide +kernel
theorem dX12_law_5 : decode cX12_law 5 = .ok (.iload_n 1, 1) := by decide +kernel
theorem dX12_law_6 : decode cX12_law 6 = .ok (.iconst (-1), 1) := by decide +kernel
theorem dX12_law_7 : decode cX12_law 7 = .ok (.if_icmp .eq 21, 3) := by decide +kernel
theorem dX12_law_10 : decode cX12_law 10 = .ok (.iload_n 1, 1) := by decide +kernel
theorem dX12_law_11 : decode cX12_law 11 = .ok (.i2l, 1) := by decide +kernel
theorem dX12_law_12 : decode cX12_law 12 = .ok (.lconst 0, 1) := by decide +kernel
theorem dX12_law_13 : decode cX12_law 13 = .ok (.aload_n 0, 1) := by decide +kernel
theorem dX12_law_14 : decode cX12_law 14 = .ok (.getfield 294, 3) := by decide +kernel
theorem dX12_law_17 : decode cX12_law 17 = .ok (.iconst 1, 1) := by decide +kernel
theorem dX12_law_18 : decode cX12_law 18 = .ok (.isub, 1) := by decide +kernel
theorem dX12_law_19 : decode cX12_law 19 = .ok (.i2l, 1) := by decide +kernel
theorem dX12_law_20 : decode cX12_law 20 = .ok (.invokestatic 215, 3) := by decide +kernel
theorem dX12_law_23 : decode cX12_law 23 = .ok (.ifCond .ne 5, 3) := by decide +kernel
theorem dX12_law_26 : decode cX12_law 26 = .ok (.iconst 0, 1) := by decide +kernel
theorem dX12_law_27 : decode cX12_law 27 = .ok (.ireturn, 1) := by decide +kernel
theorem dX12_law_28 : decode cX12_law 28 = .ok (.aload_n 0, 1) := by decide +kernel
theorem dX12_law_29 : decode cX12_law 29 = .ok (.iload_n 1, 1) := by decide +kernel
theorem dX12_law_30 : decode cX12_law 30 = .ok (.putfield 58, 3) := by decide +kernel
theorem dX12_law_33 : decode cX12_law 33 = .ok (.iconst 1, 1) := by decide +kernel
theorem dX12_law_34 : decode cX12_law 34 = .ok (.ireturn, 1) := by decide +kernel
theorem dX12_log_0 : decode cX12_log 0 = .ok (.aload_n 0, 1) := by decide +kernel
theorem dX12_log_1 : decode cX12_log 1 = .ok (.iconst 0, 1) := by decide +kernel
theorem dX12_log_2 : decode cX12_log 2 = .ok (.putfield 94, 3) := by decide +kernel
theorem dX12_log_5 : decode cX12_log 5 = .ok (.iload_n 1, 1) := by decide +kernel
theorem dX12_log_6 : decode cX12_log 6 = .ok (.i2l, 1) := by decide +kernel
theorem dX12_log_7 : decode cX12_log 7 = .ok (.lconst 0, 1) := by decide +kernel
theorem dX12_log_8 : decode cX12_log 8 = .ok (.aload_n 0, 1) := by decide +kernel
theorem dX12_log_9 : decode cX12_log 9 = .ok (.getfield 52, 3) := by decide +kernel
theorem dX12_log_12 : decode cX12_log 12 = .ok (.bipush 8, 2) := by decide +kernel
theorem dX12_log_14 : decode cX12_log 14 = .ok (.iaload, 1) := by decide +kernel
theorem dX12_log_15 : decode cX12_log 15 = .ok (.iconst 1, 1) := by decide +kernel
theorem dX12_log_16 : decode cX12_log 16 = .ok (.isub, 1) := by decide +kernel
theorem dX12_log_17 : decode cX12_log 17 = .ok (.i2l, 1) := by decide +kernel
theorem dX12_log_18 : decode cX12_log 18 = .ok (.invokestatic 215, 3) := by decide +kernel
theorem dX12_log_21 : decode cX12_log 21 = .ok (.ifCond .eq 41, 3) := by decide +kernel
theorem dX12_log_62 : decode cX12_log 62 = .ok (.ldc_w 439, 3) := by decide +kernel
theorem dX12_log_65 : decode cX12_log 65 = .ok (.ireturn, 1) := by decide +kernel
theorem dX12_longest_0 : decode cX12_longest 0 = .ok (.aload_n 0, 1) := by decide +kernel
theorem dX12_longest_1 : decode cX12_longest 1 = .ok (.iconst 0, 1) := by decide +kernel
theorem dX12_longest_2 : decode cX12_longest 2 = .ok (.putfield 94, 3) := by decide +kernel
theorem dX12_longest_5 : decode cX12_longest 5 = .ok (.aload_n 0, 1) := by decide +kernel
theorem dX12_longest_6 : decode cX12_longest 6 = .ok (.getfield 302, 3) := by decide +kernel
theorem dX12_longest_9 : decode cX12_longest 9 = .ok (.ifCond .ne 7, 3) := by decide +kernel
theorem dX12_longest_12 : decode cX12_longest 12 = .ok (.iconst (-1), 1) := by decide +kernel
theorem dX12_longest_13 : decode cX12_longest 13 = .ok (.goto 16, 3) := by decide +kernel
theorem dX12_longest_29 : decode cX12_longest 29 = .ok (.ireturn, 1) := by decide +kernel
theorem dX12_look_0 : decode cX12_look 0 = .ok (.aload_n 0, 1) := by decide +kernel
theorem dX12_look_1 : decode cX12_look 1 = .ok (.getfield 117, 3) := by decide +kernel
theorem dX12_look_4 : decode cX12_look 4 = .ok (.aload_n 0, 1) := by decide +kernel
theorem dX12_look_5 : decode cX12_look 5 = .ok (.getfield 120, 3) := by decide +kernel
theorem dX12_look_8 : decode cX12_look 8 = .ok (.if_icmp .ge 35, 3) := by decide +kernel
theorem dX12_look_43 : decode cX12_look 43 = .ok (.aload_n 0, 1) := by decide +kernel
theorem dX12_look_44 : decode cX12_look 44 = .ok (.getfield 117, 3) := by decide +kernel
theorem dX12_look_47 : decode cX12_look 47 = .ok (.aload_n 0, 1) := by decide +kernel
theorem dX12_look_48 : decode cX12_look 48 = .ok (.getfield 120, 3) := by decide +kernel
theorem dX12_look_51 : decode cX12_look 51 = .ok (.if_icmp .ge 24, 3) := by decide +kernel
theorem dX12_look_75 : decode cX12_look 75 = .ok (.iconst (-1), 1) := by decide +kernel
theorem dX12_look_76 : decode cX12_look 76 = .ok (.ireturn, 1) := by decide +kernel
theorem dX12_meant_0 : decode cX12_meant 0 = .ok (.aload_n 0, 1) := by decide +kernel
theorem dX12_meant_1 : decode cX12_meant 1 = .ok (.iconst 0, 1) := by decide +kernel
theorem dX12_meant_2 : decode cX12_meant 2 = .ok (.putfield 94, 3) := by decide +kernel
theorem dX12_meant_5 : decode cX12_meant 5 = .ok (.aload_n 0, 1) := by decide +kernel
theorem dX12_meant_6 : decode cX12_meant 6 = .ok (.getfield 302, 3) := by decide +kernel
theorem dX12_meant_9 : decode cX12_meant 9 = .ok (.ifCond .ne 7, 3) := by decide +kernel
theorem dX12_meant_12 : decode cX12_meant 12 = .ok (.iconst (-1), 1) := by decide +kernel
theorem dX12_meant_13 : decode cX12_meant 13 = .ok (.goto 10, 3) := by decide +kernel
theorem dX12_meant_23 : decode cX12_meant 23 = .ok (.ireturn, 1) := by decide +kernel
theorem dX12_missing_0 : decode cX12_missing 0 = .ok (.aload_n 0, 1) := by decide +kernel
theorem dX12_missing_1 : decode cX12_missing 1 = .ok (.iconst 0, 1) := by decide +kernel
theorem dX12_missing_2 : decode cX12_missing 2 = .ok (.putfield 94, 3) := by decide +kernel
theorem dX12_missing_5 : decode cX12_missing 5 = .ok (.aload_n 0, 1) := by decide +kernel
theorem dX12_missing_6 : decode cX12_missing 6 = .ok (.iload_n 1, 1) := by decide +kernel
theorem dX12_missing_7 : decode cX12_missing 7 = .ok (.invokevirtual 440, 3) := by decide +kernel
theorem dX12_missing_10 : decode cX12_missing 10 = .ok (.ifCond .eq 29, 3) := by decide +kernel
theorem dX12_missing_39 : decode cX12_missing 39 = .ok (.iconst (-1), 1) := by decide +kernel
theorem dX12_missing_40 : decode cX12_missing 40 = .ok (.ireturn, 1) := by decide +kernel
theorem dX12_mole_0 : decode cX12_mole 0 = .ok (.aload_n 0, 1) := by decide +kernel
theorem dX12_mole_1 : decode cX12_mole 1 = .ok (.iconst 0, 1) := by decide +kernel
theorem dX12_mole_2 : decode cX12_mole 2 = .ok (.putfield 94, 3) := by decide +kernel
theorem dX12_mole_5 : decode cX12_mole 5 = .ok (.aload_n 0, 1) := by decide +kernel
theorem dX12_mole_6 : decode cX12_mole 6 = .ok (.aload_n 0, 1) := by decide +kernel
theorem dX12_mole_7 : decode cX12_mole 7 = .ok (.getfield 52, 3) := by decide +kernel
theorem dX12_mole_10 : decode cX12_mole 10 = .ok (.iload_n 1, 1) := by decide +kernel
theorem dX12_mole_11 : decode cX12_mole 11 = .ok (.invokevirtual 402, 3) := by decide +kernel
theorem dX12_mole_14 : decode cX12_mole 14 = .ok (.ifCond .ne 5, 3) := by decide +kernel
theorem dX12_mole_17 : decode cX12_mole 17 = .ok (.iconst (-1), 1) := by decide +kernel
theorem dX12_mole_18 : decode cX12_mole 18 = .ok (.ireturn, 1) := by decide +kernel
theorem dX12_move_0 : decode cX12_move 0 = .ok (.aload_n 0, 1) := by decide +kernel
theorem dX12_move_1 : decode cX12_move 1 = .ok (.iconst 0, 1) := by decide +kernel
theorem dX12_move_2 : decode cX12_move 2 = .ok (.putfield 94, 3) := by decide +kernel
theorem dX12_move_5 : decode cX12_move 5 = .ok (.aload_n 0, 1) := by decide +kernel
theorem dX12_move_6 : decode cX12_move 6 = .ok (.iload_n 1, 1) := by decide +kernel
theorem dX12_move_7 : decode cX12_move 7 = .ok (.invokevirtual 440, 3) := by decide +kernel
theorem dX12_move_10 : decode cX12_move 10 = .ok (.ifCond .eq 51, 3) := by decide +kernel
theorem dX12_move_61 : decode cX12_move 61 = .ok (.ldc_w 439, 3) := by decide +kernel
theorem dX12_move_64 : decode cX12_move 64 = .ok (.ireturn, 1) := by decide +kernel
theorem dX12_odds_0 : decode cX12_odds 0 = .ok (.aload_n 0, 1) := by decide +kernel
theorem dX12_odds_1 : decode cX12_odds 1 = .ok (.iconst 0, 1) := by decide +kernel
theorem dX12_odds_2 : decode cX12_odds 2 = .ok (.putfield 94, 3) := by decide +kernel
theorem dX12_odds_5 : decode cX12_odds 5 = .ok (.aload_n 0, 1) := by decide +kernel
theorem dX12_odds_6 : decode cX12_odds 6 = .ok (.getfield 302, 3) := by decide +kernel
theorem dX12_odds_9 : decode cX12_odds 9 = .ok (.ifCond .eq 27, 3) := by decide +kernel
theorem dX12_odds_36 : decode cX12_odds 36 = .ok (.iconst (-1), 1) := by decide +kernel
theorem dX12_odds_37 : decode cX12_odds 37 = .ok (.ireturn, 1) := by decide +kernel
theorem dX12_openings_0 : decode cX12_openings 0 = .ok (.aload_n 0, 1) := by decide +kernel
theorem dX12_openings_1 : decode cX12_openings 1 = .ok (.iconst 0, 1) := by decide +kernel
theorem dX12_openings_2 : decode cX12_openings 2 = .ok (.putfield 94, 3) := by decide +kernel
theorem dX12_openings_5 : decode cX12_openings 5 = .ok (.aload_n 0, 1) := by decide +kernel
theorem dX12_openings_6 : decode cX12_openings 6 = .ok (.getfield 302, 3) := by decide +kernel
theorem dX12_openings_9 : decode cX12_openings 9 = .ok (.ifCond .ne 5, 3) := by decide +kernel
theorem dX12_openings_12 : decode cX12_openings 12 = .ok (.iconst (-1), 1) := by decide +kernel
theorem dX12_openings_13 : decode cX12_openings 13 = .ok (.ireturn, 1) := by decide +kernel
theorem dX12_parts_0 : decode cX12_parts 0 = .ok (.aload_n 0, 1) := by decide +kernel
theorem dX12_parts_1 : decode cX12_parts 1 = .ok (.iconst 0, 1) := by decide +kernel
theorem dX12_parts_2 : decode cX12_parts 2 = .ok (.putfield 94, 3) := by decide +kernel
theorem dX12_parts_5 : decode cX12_parts 5 = .ok (.aload_n 0, 1) := by decide +kernel
theorem dX12_parts_6 : decode cX12_parts 6 = .ok (.getfield 302, 3) := by decide +kernel
theorem dX12_parts_9 : decode cX12_parts 9 = .ok (.ifCond .eq 8, 3) := by decide +kernel
theorem dX12_parts_17 : decode cX12_parts 17 = .ok (.iconst (-1), 1) := by decide +kernel
theorem dX12_parts_18 : decode cX12_parts 18 = .ok (.goto 8, 3) := by decide +kernel
theorem dX12_parts_26 : decode cX12_parts 26 = .ok (.ireturn, 1) := by decide +kernel
theorem dX12_perform_0 : decode cX12_perform 0 = .ok (.aload_n 0, 1) := by decide +kernel
theorem dX12_perform_1 : decode cX12_perform 1 = .ok (.iconst 0, 1) := by decide +kernel
theorem dX12_perform_2 : decode cX12_perform 2 = .ok (.putfield 94, 3) := by decide +kernel
theorem dX12_perform_5 : decode cX12_perform 5 = .ok (.aload_n 0, 1) := by decide +kernel
theorem dX12_perform_6 : decode cX12_perform 6 = .ok (.iload_n 1, 1) := by decide +kernel
theorem dX12_perform_7 : decode cX12_perform 7 = .ok (.invokevirtual 440, 3) := by decide +kernel
theorem dX12_perform_10 : decode cX12_perform 10 = .ok (.ifCond .eq 10, 3) := by decide +kernel
theorem dX12_perform_20 : decode cX12_perform 20 = .ok (.iconst (-1), 1) := by decide +kernel
theorem dX12_perform_21 : decode cX12_perform 21 = .ok (.ireturn, 1) := by decide +kernel
theorem dX12_readClause_0 : decode cX12_readClause 0 = .ok (.aload_n 0, 1) := by decide +kernel
theorem dX12_readClause_1 : decode cX12_readClause 1 = .ok (.invokevirtual 136, 3) := by decide +kernel
theorem dX12_readClause_4 : decode cX12_readClause 4 = .ok (.istore_n 1, 1) := by decide +kernel
theorem dX12_readClause_5 : decode cX12_readClause 5 = .ok (.iload_n 1, 1) := by decide +kernel
theorem dX12_readClause_6 : decode cX12_readClause 6 = .ok (.bipush 115, 2) := by decide +kernel
theorem dX12_readClause_8 : decode cX12_readClause 8 = .ok (.if_icmp .ne 10, 3) := by decide +kernel
theorem dX12_readClause_18 : decode cX12_readClause 18 = .ok (.iload_n 1, 1) := by decide +kernel
theorem dX12_readClause_19 : decode cX12_readClause 19 = .ok (.bipush 116, 2) := by decide +kernel
theorem dX12_readClause_21 : decode cX12_readClause 21 = .ok (.if_icmp .ne 12, 3) := by decide +kernel
theorem dX12_readClause_33 : decode cX12_readClause 33 = .ok (.iload_n 1, 1) := by decide +kernel
theorem dX12_readClause_34 : decode cX12_readClause 34 = .ok (.bipush 98, 2) := by decide +kernel
theorem dX12_readClause_36 : decode cX12_readClause 36 = .ok (.if_icmp .ne 16, 3) := by decide +kernel
theorem dX12_readClause_52 : decode cX12_readClause 52 = .ok (.iconst 0, 1) := by decide +kernel
theorem dX12_readClause_53 : decode cX12_readClause 53 = .ok (.istore_n 2, 1) := by decide +kernel
theorem dX12_readClause_54 : decode cX12_readClause 54 = .ok (.iload_n 2, 1) := by decide +kernel
theorem dX12_readClause_55 : decode cX12_readClause 55 = .ok (.ifCond .ne 9, 3) := by decide +kernel
theorem dX12_readClause_58 : decode cX12_readClause 58 = .ok (.aload_n 0, 1) := by decide +kernel
theorem dX12_readClause_59 : decode cX12_readClause 59 = .ok (.invokevirtual 132, 3) := by decide +kernel
theorem dX12_readClause_62 : decode cX12_readClause 62 = .ok (.pop, 1) := by decide +kernel
theorem dX12_readClause_63 : decode cX12_readClause 63 = .ok (.return_, 1) := by decide +kernel
theorem dX12_readGame_0 : decode cX12_readGame 0 = .ok (.aload_n 0, 1) := by decide +kernel
theorem dX12_readGame_1 : decode cX12_readGame 1 = .ok (.aload_n 0, 1) := by decide +kernel
theorem dX12_readGame_2 : decode cX12_readGame 2 = .ok (.getfield 9, 3) := by decide +kernel
theorem dX12_readGame_5 : decode cX12_readGame 5 = .ok (.iconst 0, 1) := by decide +kernel
theorem dX12_readGame_6 : decode cX12_readGame 6 = .ok (.aload_n 0, 1) := by decide +kernel
theorem dX12_readGame_7 : decode cX12_readGame 7 = .ok (.getfield 107, 3) := by decide +kernel
theorem dX12_readGame_10 : decode cX12_readGame 10 = .ok (.invokevirtual 205, 3) := by decide +kernel
theorem dX12_readGame_13 : decode cX12_readGame 13 = .ok (.iconst 0, 1) := by decide +kernel
theorem dX12_readGame_14 : decode cX12_readGame 14 = .ok (.istore_n 1, 1) := by decide +kernel
theorem dX12_readGame_15 : decode cX12_readGame 15 = .ok (.iconst 1, 1) := by decide +kernel
theorem dX12_readGame_16 : decode cX12_readGame 16 = .ok (.istore_n 2, 1) := by decide +kernel
theorem dX12_readGame_17 : decode cX12_readGame 17 = .ok (.iload_n 2, 1) := by decide +kernel
theorem dX12_readGame_18 : decode cX12_readGame 18 = .ok (.ifCond .eq 73, 3) := by decide +kernel
theorem dX12_readGame_21 : decode cX12_readGame 21 = .ok (.aload_n 0, 1) := by decide +kernel
theorem dX12_readGame_22 : decode cX12_readGame 22 = .ok (.iconst 4, 1) := by decide +kernel
theorem dX12_readGame_23 : decode cX12_readGame 23 = .ok (.bipush 64, 2) := by decide +kernel
theorem dX12_readGame_25 : decode cX12_readGame 25 = .ok (.iload_n 1, 1) := by decide +kernel
theorem dX12_readGame_26 : decode cX12_readGame 26 = .ok (.iadd, 1) := by decide +kernel
theorem dX12_readGame_27 : decode cX12_readGame 27 = .ok (.imul, 1) := by decide +kernel
theorem dX12_readGame_28 : decode cX12_readGame 28 = .ok (.invokevirtual 280, 3) := by decide +kernel
theorem dX12_readGame_31 : decode cX12_readGame 31 = .ok (.aload_n 0, 1) := by decide +kernel
theorem dX12_readGame_32 : decode cX12_readGame 32 = .ok (.getfield 126, 3) := by decide +kernel
theorem dX12_readGame_35 : decode cX12_readGame 35 = .ok (.iconst (-1), 1) := by decide +kernel
theorem dX12_readGame_36 : decode cX12_readGame 36 = .ok (.if_icmp .eq 4, 3) := by decide +kernel
theorem dX12_readGame_39 : decode cX12_readGame 39 = .ok (.return_, 1) := by decide +kernel
theorem dX12_readLawn_0 : decode cX12_readLawn 0 = .ok (.aload_n 0, 1) := by decide +kernel
theorem dX12_readLawn_1 : decode cX12_readLawn 1 = .ok (.aload_n 0, 1) := by decide +kernel
theorem dX12_readLawn_2 : decode cX12_readLawn 2 = .ok (.getfield 9, 3) := by decide +kernel
theorem dX12_readLawn_5 : decode cX12_readLawn 5 = .ok (.iconst 0, 1) := by decide +kernel
theorem dX12_readLawn_6 : decode cX12_readLawn 6 = .ok (.aload_n 0, 1) := by decide +kernel
theorem dX12_readLawn_7 : decode cX12_readLawn 7 = .ok (.getfield 107, 3) := by decide +kernel
theorem dX12_readLawn_10 : decode cX12_readLawn 10 = .ok (.invokevirtual 205, 3) := by decide +kernel
theorem dX12_readLawn_13 : decode cX12_readLawn 13 = .ok (.aload_n 0, 1) := by decide +kernel
theorem dX12_readLawn_14 : decode cX12_readLawn 14 = .ok (.iconst 0, 1) := by decide +kernel
theorem dX12_readLawn_15 : decode cX12_readLawn 15 = .ok (.putfield 260, 3) := by decide +kernel
theorem dX12_readLawn_18 : decode cX12_readLawn 18 = .ok (.aload_n 0, 1) := by decide +kernel
theorem dX12_readLawn_19 : decode cX12_readLawn 19 = .ok (.iconst 0, 1) := by decide +kernel
theorem dX12_readLawn_20 : decode cX12_readLawn 20 = .ok (.putfield 263, 3) := by decide +kernel
theorem dX12_readLawn_23 : decode cX12_readLawn 23 = .ok (.aload_n 0, 1) := by decide +kernel
theorem dX12_readLawn_24 : decode cX12_readLawn 24 = .ok (.iconst 0, 1) := by decide +kernel
theorem dX12_readLawn_25 : decode cX12_readLawn 25 = .ok (.putfield 243, 3) := by decide +kernel
theorem dX12_readLawn_28 : decode cX12_readLawn 28 = .ok (.aload_n 0, 1) := by decide +kernel
theorem dX12_readLawn_29 : decode cX12_readLawn 29 = .ok (.iconst 0, 1) := by decide +kernel
theorem dX12_readLawn_30 : decode cX12_readLawn 30 = .ok (.putfield 246, 3) := by decide +kernel
theorem dX12_readLawn_33 : decode cX12_readLawn 33 = .ok (.aload_n 0, 1) := by decide +kernel
theorem dX12_readLawn_34 : decode cX12_readLawn 34 = .ok (.iconst 0, 1) := by decide +kernel
theorem dX12_readLawn_35 : decode cX12_readLawn 35 = .ok (.putfield 240, 3) := by decide +kernel
theorem dX12_readLawn_38 : decode cX12_readLawn 38 = .ok (.aload_n 0, 1) := by decide +kernel
theorem dX12_readLawn_39 : decode cX12_readLawn 39 = .ok (.iconst 0, 1) := by decide +kernel
theorem dX12_readLawn_40 : decode cX12_readLawn 40 = .ok (.putfield 257, 3) := by decide +kernel
theorem dX12_readLawn_43 : decode cX12_readLawn 43 = .ok (.iconst 0, 1) := by decide +kernel
theorem dX12_readLawn_44 : decode cX12_readLawn 44 = .ok (.istore_n 1, 1) := by decide +kernel
theorem dX12_readLawn_45 : decode cX12_readLawn 45 = .ok (.iload_n 1, 1) := by decide +kernel
theorem dX12_readLawn_46 : decode cX12_readLawn 46 = .ok (.bipush 7, 2) := by decide +kernel
theorem dX12_readLawn_48 : decode cX12_readLawn 48 = .ok (.if_icmp .ge 21, 3) := by decide +kernel
theorem dX12_readLawn_51 : decode cX12_readLawn 51 = .ok (.aload_n 0, 1) := by decide +kernel
theorem dX12_readLawn_52 : decode cX12_readLawn 52 = .ok (.getfield 40, 3) := by decide +kernel
theorem dX12_readLawn_55 : decode cX12_readLawn 55 = .ok (.iload_n 1, 1) := by decide +kernel
theorem dX12_readLawn_56 : decode cX12_readLawn 56 = .ok (.bipush 115, 2) := by decide +kernel
theorem dX12_readLawn_58 : decode cX12_readLawn 58 = .ok (.iload_n 1, 1) := by decide +kernel
theorem dX12_readLawn_59 : decode cX12_readLawn 59 = .ok (.invokestatic 219, 3) := by decide +kernel
theorem dX12_readLawn_62 : decode cX12_readLawn 62 = .ok (.iastore, 1) := by decide +kernel
theorem dX12_readLawn_63 : decode cX12_readLawn 63 = .ok (.iinc 1 1, 3) := by decide +kernel
theorem dX12_readLawn_66 : decode cX12_readLawn 66 = .ok (.goto (-21), 3) := by decide +kernel
theorem dX12_readLawn_69 : decode cX12_readLawn 69 = .ok (.iconst 1, 1) := by decide +kernel
theorem dX12_readLawn_70 : decode cX12_readLawn 70 = .ok (.istore_n 1, 1) := by decide +kernel
theorem dX12_readLawn_71 : decode cX12_readLawn 71 = .ok (.iload_n 1, 1) := by decide +kernel
theorem dX12_readLawn_72 : decode cX12_readLawn 72 = .ok (.ifCond .eq 55, 3) := by decide +kernel
theorem dX12_readLawn_75 : decode cX12_readLawn 75 = .ok (.aload_n 0, 1) := by decide +kernel
theorem dX12_readLawn_76 : decode cX12_readLawn 76 = .ok (.getfield 126, 3) := by decide +kernel
theorem dX12_readLawn_79 : decode cX12_readLawn 79 = .ok (.iconst (-1), 1) := by decide +kernel
theorem dX12_readLawn_80 : decode cX12_readLawn 80 = .ok (.if_icmp .ne 47, 3) := by decide +kernel
theorem dX12_readLawn_83 : decode cX12_readLawn 83 = .ok (.aload_n 0, 1) := by decide +kernel
theorem dX12_readLawn_84 : decode cX12_readLawn 84 = .ok (.invokevirtual 266, 3) := by decide +kernel
theorem dX12_readLawn_87 : decode cX12_readLawn 87 = .ok (.aload_n 0, 1) := by decide +kernel
theorem dX12_readLawn_88 : decode cX12_readLawn 88 = .ok (.getfield 126, 3) := by decide +kernel
theorem dX12_readLawn_91 : decode cX12_readLawn 91 = .ok (.iconst (-1), 1) := by decide +kernel
theorem dX12_readLawn_92 : decode cX12_readLawn 92 = .ok (.if_icmp .ne 16, 3) := by decide +kernel
theorem dX12_readLawn_108 : decode cX12_readLawn 108 = .ok (.iconst 0, 1) := by decide +kernel
theorem dX12_readLawn_109 : decode cX12_readLawn 109 = .ok (.istore_n 1, 1) := by decide +kernel
theorem dX12_readLawn_110 : decode cX12_readLawn 110 = .ok (.iload_n 1, 1) := by decide +kernel
theorem dX12_readLawn_111 : decode cX12_readLawn 111 = .ok (.ifCond .eq (-40), 3) := by decide +kernel
theorem dX12_readLawn_127 : decode cX12_readLawn 127 = .ok (.aload_n 0, 1) := by decide +kernel
theorem dX12_readLawn_128 : decode cX12_readLawn 128 = .ok (.getfield 126, 3) := by decide +kernel
theorem dX12_readLawn_131 : decode cX12_readLawn 131 = .ok (.iconst (-1), 1) := by decide +kernel
theorem dX12_readLawn_132 : decode cX12_readLawn 132 = .ok (.if_icmp .eq 4, 3) := by decide +kernel
theorem dX12_readLawn_135 : decode cX12_readLawn 135 = .ok (.return_, 1) := by decide +kernel
theorem dX12_readMove_0 : decode cX12_readMove 0 = .ok (.ldc_w 273, 3) := by decide +kernel
theorem dX12_readMove_3 : decode cX12_readMove 3 = .ok (.aload_n 0, 1) := by decide +kernel
theorem dX12_readMove_4 : decode cX12_readMove 4 = .ok (.invokevirtual 136, 3) := by decide +kernel
theorem dX12_readMove_7 : decode cX12_readMove 7 = .ok (.invokestatic 223, 3) := by decide +kernel
theorem dX12_readMove_10 : decode cX12_readMove 10 = .ok (.istore_n 2, 1) := by decide +kernel
theorem dX12_readMove_11 : decode cX12_readMove 11 = .ok (.iload_n 2, 1) := by decide +kernel
theorem dX12_readMove_12 : decode cX12_readMove 12 = .ok (.iconst (-1), 1) := by decide +kernel
theorem dX12_readMove_13 : decode cX12_readMove 13 = .ok (.if_icmp .ne 9, 3) := by decide +kernel
theorem dX12_readMove_16 : decode cX12_readMove 16 = .ok (.aload_n 0, 1) := by decide +kernel
theorem dX12_readMove_17 : decode cX12_readMove 17 = .ok (.invokevirtual 132, 3) := by decide +kernel
theorem dX12_readMove_20 : decode cX12_readMove 20 = .ok (.pop, 1) := by decide +kernel
theorem dX12_readMove_21 : decode cX12_readMove 21 = .ok (.return_, 1) := by decide +kernel
theorem dX12_room_0 : decode cX12_room 0 = .ok (.aload_n 0, 1) := by decide +kernel
theorem dX12_room_1 : decode cX12_room 1 = .ok (.iconst 0, 1) := by decide +kernel
theorem dX12_room_2 : decode cX12_room 2 = .ok (.putfield 94, 3) := by decide +kernel
theorem dX12_room_5 : decode cX12_room 5 = .ok (.aload_n 0, 1) := by decide +kernel
theorem dX12_room_6 : decode cX12_room 6 = .ok (.getfield 302, 3) := by decide +kernel
theorem dX12_room_9 : decode cX12_room 9 = .ok (.ifCond .ne 7, 3) := by decide +kernel
theorem dX12_room_12 : decode cX12_room 12 = .ok (.iconst (-1), 1) := by decide +kernel
theorem dX12_room_13 : decode cX12_room 13 = .ok (.goto 28, 3) := by decide +kernel
theorem dX12_room_41 : decode cX12_room 41 = .ok (.ireturn, 1) := by decide +kernel
theorem dX12_rule_0 : decode cX12_rule 0 = .ok (.aload_n 0, 1) := by decide +kernel
theorem dX12_rule_1 : decode cX12_rule 1 = .ok (.iconst 0, 1) := by decide +kernel
theorem dX12_rule_2 : decode cX12_rule 2 = .ok (.putfield 94, 3) := by decide +kernel
theorem dX12_rule_5 : decode cX12_rule 5 = .ok (.aload_n 0, 1) := by decide +kernel
theorem dX12_rule_6 : decode cX12_rule 6 = .ok (.getfield 302, 3) := by decide +kernel
theorem dX12_rule_9 : decode cX12_rule 9 = .ok (.ifCond .le 24, 3) := by decide +kernel
theorem dX12_rule_33 : decode cX12_rule 33 = .ok (.iconst (-1), 1) := by decide +kernel
theorem dX12_rule_34 : decode cX12_rule 34 = .ok (.ireturn, 1) := by decide +kernel
theorem dX12_run_0 : decode cX12_run 0 = .ok (.aload_n 0, 1) := by decide +kernel
theorem dX12_run_1 : decode cX12_run 1 = .ok (.iconst 0, 1) := by decide +kernel
theorem dX12_run_2 : decode cX12_run 2 = .ok (.putfield 94, 3) := by decide +kernel
theorem dX12_run_5 : decode cX12_run 5 = .ok (.aload_n 0, 1) := by decide +kernel
theorem dX12_run_6 : decode cX12_run 6 = .ok (.iload_n 1, 1) := by decide +kernel
theorem dX12_run_7 : decode cX12_run 7 = .ok (.invokevirtual 440, 3) := by decide +kernel
theorem dX12_run_10 : decode cX12_run 10 = .ok (.ifCond .eq 10, 3) := by decide +kernel
theorem dX12_run_20 : decode cX12_run 20 = .ok (.ldc_w 439, 3) := by decide +kernel
theorem dX12_run_23 : decode cX12_run 23 = .ok (.ireturn, 1) := by decide +kernel
theorem dX12_sit_0 : decode cX12_sit 0 = .ok (.aload_n 0, 1) := by decide +kernel
theorem dX12_sit_1 : decode cX12_sit 1 = .ok (.iconst 0, 1) := by decide +kernel
theorem dX12_sit_2 : decode cX12_sit 2 = .ok (.putfield 94, 3) := by decide +kernel
theorem dX12_sit_5 : decode cX12_sit 5 = .ok (.aload_n 0, 1) := by decide +kernel
theorem dX12_sit_6 : decode cX12_sit 6 = .ok (.aload_n 0, 1) := by decide +kernel
theorem dX12_sit_7 : decode cX12_sit 7 = .ok (.getfield 52, 3) := by decide +kernel
theorem dX12_sit_10 : decode cX12_sit 10 = .ok (.invokevirtual 363, 3) := by decide +kernel
theorem dX12_sit_13 : decode cX12_sit 13 = .ok (.ifCond .ne 5, 3) := by decide +kernel
theorem dX12_sit_16 : decode cX12_sit 16 = .ok (.iconst (-1), 1) := by decide +kernel
theorem dX12_sit_17 : decode cX12_sit 17 = .ok (.ireturn, 1) := by decide +kernel
theorem dX12_spotOf_0 : decode cX12_spotOf 0 = .ok (.iconst 0, 1) := by decide +kernel
theorem dX12_spotOf_1 : decode cX12_spotOf 1 = .ok (.istore_n 2, 1) := by decide +kernel
theorem dX12_spotOf_2 : decode cX12_spotOf 2 = .ok (.iload_n 2, 1) := by decide +kernel
theorem dX12_spotOf_3 : decode cX12_spotOf 3 = .ok (.aload_n 0, 1) := by decide +kernel
theorem dX12_spotOf_4 : decode cX12_spotOf 4 = .ok (.invokevirtual 97, 3) := by decide +kernel
theorem dX12_spotOf_7 : decode cX12_spotOf 7 = .ok (.if_icmp .ge 20, 3) := by decide +kernel
theorem dX12_spotOf_10 : decode cX12_spotOf 10 = .ok (.aload_n 0, 1) := by decide +kernel
theorem dX12_spotOf_11 : decode cX12_spotOf 11 = .ok (.iload_n 2, 1) := by decide +kernel
theorem dX12_spotOf_12 : decode cX12_spotOf 12 = .ok (.invokevirtual 103, 3) := by decide +kernel
theorem dX12_spotOf_15 : decode cX12_spotOf 15 = .ok (.iload_n 1, 1) := by decide +kernel
theorem dX12_spotOf_16 : decode cX12_spotOf 16 = .ok (.if_icmp .ne 5, 3) := by decide +kernel
theorem dX12_spotOf_21 : decode cX12_spotOf 21 = .ok (.iinc 2 1, 3) := by decide +kernel
theorem dX12_spotOf_24 : decode cX12_spotOf 24 = .ok (.goto (-22), 3) := by decide +kernel
theorem dX12_spotOf_27 : decode cX12_spotOf 27 = .ok (.iconst (-1), 1) := by decide +kernel
theorem dX12_spotOf_28 : decode cX12_spotOf 28 = .ok (.ireturn, 1) := by decide +kernel
theorem dX12_starts_0 : decode cX12_starts 0 = .ok (.aload_n 0, 1) := by decide +kernel
theorem dX12_starts_1 : decode cX12_starts 1 = .ok (.aload_n 1, 1) := by decide +kernel
theorem dX12_starts_2 : decode cX12_starts 2 = .ok (.putfield 23, 3) := by decide +kernel
theorem dX12_starts_5 : decode cX12_starts 5 = .ok (.aload_n 0, 1) := by decide +kernel
theorem dX12_starts_6 : decode cX12_starts 6 = .ok (.iload_n 2, 1) := by decide +kernel
theorem dX12_starts_7 : decode cX12_starts 7 = .ok (.putfield 123, 3) := by decide +kernel
theorem dX12_starts_10 : decode cX12_starts 10 = .ok (.aload_n 0, 1) := by decide +kernel
theorem dX12_starts_11 : decode cX12_starts 11 = .ok (.iload_n 3, 1) := by decide +kernel
theorem dX12_starts_12 : decode cX12_starts 12 = .ok (.putfield 120, 3) := by decide +kernel
theorem dX12_starts_15 : decode cX12_starts 15 = .ok (.aload_n 0, 1) := by decide +kernel
theorem dX12_starts_16 : decode cX12_starts 16 = .ok (.iconst 0, 1) := by decide +kernel
theorem dX12_starts_17 : decode cX12_starts 17 = .ok (.putfield 117, 3) := by decide +kernel
theorem dX12_starts_20 : decode cX12_starts 20 = .ok (.aload_n 0, 1) := by decide +kernel
theorem dX12_starts_21 : decode cX12_starts 21 = .ok (.iconst (-1), 1) := by decide +kernel
theorem dX12_starts_22 : decode cX12_starts 22 = .ok (.putfield 126, 3) := by decide +kernel
theorem dX12_starts_25 : decode cX12_starts 25 = .ok (.return_, 1) := by decide +kernel
theorem dX12_sumOf_0 : decode cX12_sumOf 0 = .ok (.aload_n 0, 1) := by decide +kernel
theorem dX12_sumOf_1 : decode cX12_sumOf 1 = .ok (.iconst 0, 1) := by decide +kernel
theorem dX12_sumOf_2 : decode cX12_sumOf 2 = .ok (.putfield 94, 3) := by decide +kernel
theorem dX12_sumOf_5 : decode cX12_sumOf 5 = .ok (.aload_n 0, 1) := by decide +kernel
theorem dX12_sumOf_6 : decode cX12_sumOf 6 = .ok (.getfield 302, 3) := by decide +kernel
theorem dX12_sumOf_9 : decode cX12_sumOf 9 = .ok (.ifCond .eq 29, 3) := by decide +kernel
theorem dX12_sumOf_38 : decode cX12_sumOf 38 = .ok (.ldc_w 439, 3) := by decide +kernel
theorem dX12_sumOf_41 : decode cX12_sumOf 41 = .ok (.ireturn, 1) := by decide +kernel
theorem dX12_tells_0 : decode cX12_tells 0 = .ok (.aload_n 0, 1) := by decide +kernel
theorem dX12_tells_1 : decode cX12_tells 1 = .ok (.iconst 0, 1) := by decide +kernel
theorem dX12_tells_2 : decode cX12_tells 2 = .ok (.putfield 94, 3) := by decide +kernel
theorem dX12_tells_5 : decode cX12_tells 5 = .ok (.iconst (-1), 1) := by decide +kernel
theorem dX12_tells_6 : decode cX12_tells 6 = .ok (.istore_n 1, 1) := by decide +kernel
theorem dX12_tells_7 : decode cX12_tells 7 = .ok (.iconst 0, 1) := by decide +kernel
theorem dX12_tells_8 : decode cX12_tells 8 = .ok (.istore_n 2, 1) := by decide +kernel
theorem dX12_tells_9 : decode cX12_tells 9 = .ok (.iconst 0, 1) := by decide +kernel
theorem dX12_tells_10 : decode cX12_tells 10 = .ok (.istore_n 3, 1) := by decide +kernel
theorem dX12_tells_11 : decode cX12_tells 11 = .ok (.iload_n 3, 1) := by decide +kernel
theorem dX12_tells_12 : decode cX12_tells 12 = .ok (.aload_n 0, 1) := by decide +kernel
theorem dX12_tells_13 : decode cX12_tells 13 = .ok (.getfield 302, 3) := by decide +kernel
theorem dX12_tells_16 : decode cX12_tells 16 = .ok (.if_icmp .ge 130, 3) := by decide +kernel
theorem dX12_tells_146 : decode cX12_tells 146 = .ok (.iload_n 1, 1) := by decide +kernel
theorem dX12_tells_147 : decode cX12_tells 147 = .ok (.ireturn, 1) := by decide +kernel
theorem dX12_text_0 : decode cX12_text 0 = .ok (.aload_n 0, 1) := by decide +kernel
theorem dX12_text_1 : decode cX12_text 1 = .ok (.iconst 0, 1) := by decide +kernel
theorem dX12_text_2 : decode cX12_text 2 = .ok (.putfield 94, 3) := by decide +kernel
theorem dX12_text_5 : decode cX12_text 5 = .ok (.iload_n 1, 1) := by decide +kernel
theorem dX12_text_6 : decode cX12_text 6 = .ok (.i2l, 1) := by decide +kernel
theorem dX12_text_7 : decode cX12_text 7 = .ok (.lconst 0, 1) := by decide +kernel
theorem dX12_text_8 : decode cX12_text 8 = .ok (.ldc2_w 283, 3) := by decide +kernel
theorem dX12_text_11 : decode cX12_text 11 = .ok (.invokestatic 215, 3) := by decide +kernel
theorem dX12_text_14 : decode cX12_text 14 = .ok (.ifCond .eq 38, 3) := by decide +kernel
theorem dX12_text_17 : decode cX12_text 17 = .ok (.iload_n 1, 1) := by decide +kernel
theorem dX12_text_18 : decode cX12_text 18 = .ok (.iconst 1, 1) := by decide +kernel
theorem dX12_text_19 : decode cX12_text 19 = .ok (.if_icmp .ne 11, 3) := by decide +kernel
theorem dX12_text_22 : decode cX12_text 22 = .ok (.aload_n 0, 1) := by decide +kernel
theorem dX12_text_23 : decode cX12_text 23 = .ok (.getfield 294, 3) := by decide +kernel
theorem dX12_text_26 : decode cX12_text 26 = .ok (.iconst 4, 1) := by decide +kernel
theorem dX12_text_27 : decode cX12_text 27 = .ok (.if_icmp .eq 25, 3) := by decide +kernel
theorem dX12_text_30 : decode cX12_text 30 = .ok (.iload_n 1, 1) := by decide +kernel
theorem dX12_text_31 : decode cX12_text 31 = .ok (.iconst 2, 1) := by decide +kernel
theorem dX12_text_32 : decode cX12_text 32 = .ok (.if_icmp .ne 11, 3) := by decide +kernel
theorem dX12_text_35 : decode cX12_text 35 = .ok (.aload_n 0, 1) := by decide +kernel
theorem dX12_text_36 : decode cX12_text 36 = .ok (.getfield 297, 3) := by decide +kernel
theorem dX12_text_39 : decode cX12_text 39 = .ok (.iconst 4, 1) := by decide +kernel
theorem dX12_text_40 : decode cX12_text 40 = .ok (.if_icmp .eq 12, 3) := by decide +kernel
theorem dX12_text_43 : decode cX12_text 43 = .ok (.aload_n 0, 1) := by decide +kernel
theorem dX12_text_44 : decode cX12_text 44 = .ok (.iload_n 1, 1) := by decide +kernel
theorem dX12_text_45 : decode cX12_text 45 = .ok (.invokevirtual 300, 3) := by decide +kernel
theorem dX12_text_48 : decode cX12_text 48 = .ok (.iconst (-1), 1) := by decide +kernel
theorem dX12_text_49 : decode cX12_text 49 = .ok (.if_icmp .eq 5, 3) := by decide +kernel
theorem dX12_text_52 : decode cX12_text 52 = .ok (.iconst (-1), 1) := by decide +kernel
theorem dX12_text_53 : decode cX12_text 53 = .ok (.ireturn, 1) := by decide +kernel
theorem dX12_threats_0 : decode cX12_threats 0 = .ok (.aload_n 0, 1) := by decide +kernel
theorem dX12_threats_1 : decode cX12_threats 1 = .ok (.iconst 0, 1) := by decide +kernel
theorem dX12_threats_2 : decode cX12_threats 2 = .ok (.putfield 94, 3) := by decide +kernel
theorem dX12_threats_5 : decode cX12_threats 5 = .ok (.aload_n 0, 1) := by decide +kernel
theorem dX12_threats_6 : decode cX12_threats 6 = .ok (.getfield 302, 3) := by decide +kernel
theorem dX12_threats_9 : decode cX12_threats 9 = .ok (.ifCond .ne 7, 3) := by decide +kernel
theorem dX12_threats_12 : decode cX12_threats 12 = .ok (.iconst (-1), 1) := by decide +kernel
theorem dX12_threats_13 : decode cX12_threats 13 = .ok (.goto 25, 3) := by decide +kernel
theorem dX12_threats_38 : decode cX12_threats 38 = .ok (.ireturn, 1) := by decide +kernel
theorem dX12_thrown_0 : decode cX12_thrown 0 = .ok (.aload_n 0, 1) := by decide +kernel
theorem dX12_thrown_1 : decode cX12_thrown 1 = .ok (.getfield 94, 3) := by decide +kernel
theorem dX12_thrown_4 : decode cX12_thrown 4 = .ok (.ireturn, 1) := by decide +kernel
theorem dX12_undo_0 : decode cX12_undo 0 = .ok (.aload_n 0, 1) := by decide +kernel
theorem dX12_undo_1 : decode cX12_undo 1 = .ok (.iconst 0, 1) := by decide +kernel
theorem dX12_undo_2 : decode cX12_undo 2 = .ok (.putfield 94, 3) := by decide +kernel
theorem dX12_undo_5 : decode cX12_undo 5 = .ok (.aload_n 0, 1) := by decide +kernel
theorem dX12_undo_6 : decode cX12_undo 6 = .ok (.getfield 311, 3) := by decide +kernel
theorem dX12_undo_9 : decode cX12_undo 9 = .ok (.ifCond .ne 5, 3) := by decide +kernel
theorem dX12_undo_12 : decode cX12_undo 12 = .ok (.iconst (-1), 1) := by decide +kernel
theorem dX12_undo_13 : decode cX12_undo 13 = .ok (.ireturn, 1) := by decide +kernel
theorem dX12_usual_0 : decode cX12_usual 0 = .ok (.iload_n 0, 1) := by decide +kernel
theorem dX12_usual_1 : decode cX12_usual 1 = .ok (.bipush 115, 2) := by decide +kernel
theorem dX12_usual_3 : decode cX12_usual 3 = .ok (.if_icmp .eq 5, 3) := by decide +kernel
theorem dX12_usual_8 : decode cX12_usual 8 = .ok (.iload_n 1, 1) := by decide +kernel
theorem dX12_usual_9 : decode cX12_usual 9 = .ok (.ifCond .ne 7, 3) := by decide +kernel
theorem dX12_usual_12 : decode cX12_usual 12 = .ok (.iconst 5, 1) := by decide +kernel
theorem dX12_usual_13 : decode cX12_usual 13 = .ok (.goto 41, 3) := by decide +kernel
theorem dX12_usual_16 : decode cX12_usual 16 = .ok (.iload_n 1, 1) := by decide +kernel
theorem dX12_usual_17 : decode cX12_usual 17 = .ok (.iconst 1, 1) := by decide +kernel
theorem dX12_usual_18 : decode cX12_usual 18 = .ok (.if_icmp .ne 7, 3) := by decide +kernel
theorem dX12_usual_21 : decode cX12_usual 21 = .ok (.iconst 4, 1) := by decide +kernel
theorem dX12_usual_22 : decode cX12_usual 22 = .ok (.goto 32, 3) := by decide +kernel
theorem dX12_usual_25 : decode cX12_usual 25 = .ok (.iload_n 1, 1) := by decide +kernel
theorem dX12_usual_26 : decode cX12_usual 26 = .ok (.iconst 2, 1) := by decide +kernel
theorem dX12_usual_27 : decode cX12_usual 27 = .ok (.if_icmp .ne 7, 3) := by decide +kernel
theorem dX12_usual_30 : decode cX12_usual 30 = .ok (.iconst 3, 1) := by decide +kernel
theorem dX12_usual_31 : decode cX12_usual 31 = .ok (.goto 23, 3) := by decide +kernel
theorem dX12_usual_34 : decode cX12_usual 34 = .ok (.iload_n 1, 1) := by decide +kernel
theorem dX12_usual_35 : decode cX12_usual 35 = .ok (.iconst 3, 1) := by decide +kernel
theorem dX12_usual_36 : decode cX12_usual 36 = .ok (.if_icmp .ne 7, 3) := by decide +kernel
theorem dX12_usual_39 : decode cX12_usual 39 = .ok (.iconst 2, 1) := by decide +kernel
theorem dX12_usual_40 : decode cX12_usual 40 = .ok (.goto 14, 3) := by decide +kernel
theorem dX12_usual_43 : decode cX12_usual 43 = .ok (.iload_n 1, 1) := by decide +kernel
theorem dX12_usual_44 : decode cX12_usual 44 = .ok (.iconst 5, 1) := by decide +kernel
theorem dX12_usual_45 : decode cX12_usual 45 = .ok (.if_icmp .ne 8, 3) := by decide +kernel
theorem dX12_usual_48 : decode cX12_usual 48 = .ok (.bipush 8, 2) := by decide +kernel
theorem dX12_usual_50 : decode cX12_usual 50 = .ok (.goto 4, 3) := by decide +kernel
theorem dX12_usual_53 : decode cX12_usual 53 = .ok (.iconst 0, 1) := by decide +kernel
theorem dX12_usual_54 : decode cX12_usual 54 = .ok (.ireturn, 1) := by decide +kernel
theorem dX12_where_0 : decode cX12_where 0 = .ok (.aload_n 0, 1) := by decide +kernel
theorem dX12_where_1 : decode cX12_where 1 = .ok (.iconst 0, 1) := by decide +kernel
theorem dX12_where_2 : decode cX12_where 2 = .ok (.putfield 94, 3) := by decide +kernel
theorem dX12_where_5 : decode cX12_where 5 = .ok (.aload_n 0, 1) := by decide +kernel
theorem dX12_where_6 : decode cX12_where 6 = .ok (.getfield 302, 3) := by decide +kernel
theorem dX12_where_9 : decode cX12_where 9 = .ok (.ifCond .eq 13, 3) := by decide +kernel
theorem dX12_where_22 : decode cX12_where 22 = .ok (.iconst (-1), 1) := by decide +kernel
theorem dX12_where_23 : decode cX12_where 23 = .ok (.ireturn, 1) := by decide +kernel
theorem dX12_winning_0 : decode cX12_winning 0 = .ok (.aload_n 0, 1) := by decide +kernel
theorem dX12_winning_1 : decode cX12_winning 1 = .ok (.iconst 0, 1) := by decide +kernel
theorem dX12_winning_2 : decode cX12_winning 2 = .ok (.putfield 94, 3) := by decide +kernel
theorem dX12_winning_5 : decode cX12_winning 5 = .ok (.aload_n 0, 1) := by decide +kernel
theorem dX12_winning_6 : decode cX12_winning 6 = .ok (.getfield 302, 3) := by decide +kernel
theorem dX12_winning_9 : decode cX12_winning 9 = .ok (.ifCond .ne 5, 3) := by decide +kernel
theorem dX12_winning_12 : decode cX12_winning 12 = .ok (.iconst (-1), 1) := by decide +kernel
theorem dX12_winning_13 : decode cX12_winning 13 = .ok (.ireturn, 1) := by decide +kernel
theorem va_ldcSW {p : Program} {l : Launch} {e : Env} {R : Room} {s : State} {m : MethodId} {args : Array Value} {below : List Frame} {meth : Method} {c : Code} {H : Heap} {locs : List Loc} {cells slots : Nat} {Q : State → Prop} {cc : ByteArray} {pc : Nat} {ls : Array Slot} {rest : List Value} (hexec : p.tables.exec = Jvm.exec) (hb : c.code = cc) {own tx : String} {index q : Nat} (hown : s.vm.findClass own = some m.cls) (hZ : vk_R own index tx q s) (hdg : decode cc pc = .ok (.ldc_w index, 3))
    (k : W p l e R s m args below meth c H locs cells slots Q (F0 m (pc + 3) ls (.ref q :: rest))) : W p l e R s m args below meth c H locs cells slots Q (F0 m pc ls rest) := by
  intro T hT X
  obtain ⟨t, a1, b1⟩ := k T hT X
  exact ⟨t, X.ldcStringW hexec hown (text := tx) (a := q) hZ.1 hZ.2 (g := F0 m pc ls rest) rfl (by rw [hb]; exact hdg) t a1, b1⟩
theorem cmp_iff (x y : Int64) : (lg_cmp x y < 0 ↔ x.toInt < y.toInt) ∧ (0 < lg_cmp x y ↔ y.toInt < x.toInt) := by
  unfold lg_cmp
  by_cases h1 : y < x
  · have h2 : y.toInt < x.toInt := Int64.lt_iff_toInt_lt.mp h1
    rw [if_pos h1]
    exact ⟨⟨fun q => absurd q (by decide), fun q => by omega⟩, ⟨fun _ => h2, fun _ => by decide⟩⟩
  · have h2 : ¬ y.toInt < x.toInt := fun q => h1 (Int64.lt_iff_toInt_lt.mpr q)
    rw [if_neg h1]
    by_cases h3 : x = y
    · rw [if_pos h3]
      subst h3
      exact ⟨⟨fun q => absurd q (by decide), fun q => by omega⟩, ⟨fun q => absurd q (by decide), fun q => by omega⟩⟩
    · have h4 : x.toInt ≠ y.toInt := fun q => h3 (Int64.toInt_inj.mp q)
      rw [if_neg h3]
      exact ⟨⟨fun _ => by omega, fun _ => by decide⟩, ⟨fun q => absurd q (by decide), fun q => absurd q h2⟩⟩
/-- a String constant, as it lies: the object a, its bytes v -/
def P_S (a v n : Nat) (bs : List Int32) (A : Nat → Prop) (U : State) : Prop := va_O "java/lang/String" a A U U.heap ∧ va_OF "java/lang/String" "coder" "B" (.int 0) a A U U.heap ∧ va_OF "java/lang/String" "value" "[B" (.ref v) a A U U.heap ∧ va_T .byte v n (fun j => .int (bs.getD j 0)) A U U.heap ∧ va_Z "java/lang/String" "COMPACT_STRINGS" "Z" (.int 1) A U U.heap ∧ va_Zq "jdk/internal/util/Preconditions" "SIOOBE_FORMATTER" "Ljava/util/function/BiFunction;" A U U.heap
theorem P_S.blind {a v n : Nat} {bs : List Int32} {A : Nat → Prop} {U : State} {g : JFrame} {mk : MethodId} {ar : Array Value} (h : P_S a v n bs A U) : P_S a v n bs A (U.calling g mk ar) := ⟨va_O.moved (Vm.Alike.refl _) h.1, va_OF.moved (Vm.Alike.refl _) h.2.1, va_OF.moved (Vm.Alike.refl _) h.2.2.1, va_T.moved (Vm.Alike.refl _) h.2.2.2.1, va_Z.moved (Vm.Alike.refl _) h.2.2.2.2.1, va_Zq.moved (Vm.Alike.refl _) h.2.2.2.2.2⟩
theorem P_S.call {a v n : Nat} {bs : List Int32} {A B : Nat → Prop} {s U : State} {H : Heap} {locs : List Loc} (h : P_S a v n bs A s) (hS : va_S A s.heap H locs) (hF : ∀ q, B q → A q) (hU : U.heap = H) (hW : s.WarmedH U.vm) : P_S a v n bs B U := by
  subst hU
  exact ⟨((h.1.kept hS.2.1).narrow hF).moved hW.alike, ((h.2.1.kept hS.2.1).narrow hF).moved hW.alike, ((h.2.2.1.kept hS.2.1).narrow hF).moved hW.alike, ((h.2.2.2.1.kept hS.2.1).narrow hF).moved hW.alike, ((h.2.2.2.2.1.kept hS.2.1).narrow hF).moved hW.alike, ((h.2.2.2.2.2.kept hS.2.1).narrow hF).moved hW.alike⟩
theorem P_S.recv {a v n : Nat} {bs : List Int32} {A : Nat → Prop} {s : State} {H : Heap} {locs : List Loc} (h : P_S a v n bs A s) (hS : va_S A s.heap H locs) : ∃ cell : Cell, H[a]? = some cell ∧ cell.vm.isStatics = false ∧ s.vm.findClass RJ0 = some cell.cls := by
  obtain ⟨cell, h1, h2, h3, -⟩ := h.1.kept hS.2.1
  exact ⟨cell, h1, h2, h3⟩
def F_in2 (v : Int32) : Int32 := if 0 ≤ v ∧ v ≤ 2 then 1 else 0
def F_in99 (v : Int32) : Int32 := if 0 ≤ v ∧ v ≤ 99 then 1 else 0
theorem F_in2_iff {r v : Int32} (h : r = F_in2 v) : r = 0 ↔ ¬ (0 ≤ v ∧ v ≤ 2) := by
  subst h
  unfold F_in2
  by_cases q : 0 ≤ v ∧ v ≤ 2
  · rw [if_pos q]; exact ⟨fun z => absurd z (by decide), fun z => absurd q z⟩
  · rw [if_neg q]; exact ⟨fun _ => q, fun _ => rfl⟩
theorem F_in99_iff {r v : Int32} (h : r = F_in99 v) : r = 0 ↔ ¬ (0 ≤ v ∧ v ≤ 99) := by
  subst h
  unfold F_in99
  by_cases q : 0 ≤ v ∧ v ≤ 99
  · rw [if_pos q]; exact ⟨fun z => absurd z (by decide), fun z => absurd q z⟩
  · rw [if_neg q]; exact ⟨fun _ => q, fun _ => rfl⟩
theorem F_fault_eq (v : Int32) : F_fault v = if 0 ≤ v ∧ v ≤ 2 then 0 else -2 := by
  unfold F_fault
  by_cases h0 : v = 0
  · subst h0; decide +kernel
  · by_cases h1 : v = 1
    · subst h1; decide +kernel
    · by_cases h2 : v = 2
      · subst h2; decide +kernel
      · rw [if_neg h0, if_neg h1, if_neg h2, if_neg]
        intro q
        have l0 : (0 : Int32).toInt = 0 := (by decide +kernel); have l1 : ((-1) : Int32).toInt = -1 := (by decide +kernel); have l2 : (1 : Int32).toInt = 1 := (by decide +kernel); have l3 : (2 : Int32).toInt = 2 := (by decide +kernel); have l4 : (3 : Int32).toInt = 3 := (by decide +kernel); have l5 : (4 : Int32).toInt = 4 := (by decide +kernel); have l6 : (5 : Int32).toInt = 5 := (by decide +kernel); have l7 : (10 : Int32).toInt = 10 := (by decide +kernel); have l8 : (12 : Int32).toInt = 12 := (by decide +kernel); have l9 : (15 : Int32).toInt = 15 := (by decide +kernel); have l10 : (30 : Int32).toInt = 30 := (by decide +kernel); have l11 : (99 : Int32).toInt = 99 := (by decide +kernel); have l12 : (100 : Int32).toInt = 100 := (by decide +kernel); have l13 : (240 : Int32).toInt = 240 := (by decide +kernel); simp only [Int32.lt_iff_toInt_lt, Int32.le_iff_toInt_le, ← Int32.toInt_inj, l0, l1, l2, l3, l4, l5, l6, l7, l8, l9, l10, l11, l12, l13] at h0 h1 h2 q; omega
theorem F_fault_ne (v : Int32) : ¬ F_fault v = -1 := by
  rw [F_fault_eq]
  split <;> decide
