abbrev cX11_advice : ByteArray := prog_1_method_34_code
def yX11_advice : MethodName := ⟨RX11, "advice", "(I)I"⟩
abbrev cX11_answers : ByteArray := prog_1_method_33_code
def yX11_answers : MethodName := ⟨RX11, "answers", "(I)I"⟩
abbrev cX11_book : ByteArray := prog_1_method_43_code
def yX11_book : MethodName := ⟨RX11, "book", "(IZ)I"⟩
abbrev cX11_cuts : ByteArray := prog_1_method_32_code
def yX11_cuts : MethodName := ⟨RX11, "cuts", "(I)I"⟩
abbrev cX11_forced : ByteArray := prog_1_method_37_code
def yX11_forced : MethodName := ⟨RX11, "forced", "()I"⟩
abbrev cX11_holds : ByteArray := prog_1_method_36_code
def yX11_holds : MethodName := ⟨RX11, "holds", "(I)I"⟩
abbrev cX11_meant : ByteArray := prog_1_method_38_code
def yX11_meant : MethodName := ⟨RX11, "meant", "()I"⟩
abbrev cX11_missing : ByteArray := prog_1_method_30_code
def yX11_missing : MethodName := ⟨RX11, "missing", "(III)I"⟩
abbrev cX11_move : ByteArray := prog_1_method_27_code
def yX11_move : MethodName := ⟨RX11, "move", "(III)I"⟩
abbrev cX11_openNight : ByteArray := prog_1_method_35_code
def yX11_openNight : MethodName := ⟨RX11, "openNight", "()Z"⟩
abbrev cX11_parts : ByteArray := prog_1_method_39_code
def yX11_parts : MethodName := ⟨RX11, "parts", "(I)I"⟩
abbrev cX11_perform : ByteArray := prog_1_method_29_code
def yX11_perform : MethodName := ⟨RX11, "perform", "(I)I"⟩
abbrev cX11_run : ByteArray := prog_1_method_28_code
def yX11_run : MethodName := ⟨RX11, "run", "(I)I"⟩
abbrev cX11_threats : ByteArray := prog_1_method_31_code
def yX11_threats : MethodName := ⟨RX11, "threats", "()I"⟩
theorem dX11_advice_0 : decode cX11_advice 0 = .ok (.aload_n 0, 1) := by decide +kernel
theorem dX11_advice_1 : decode cX11_advice 1 = .ok (.invokevirtual 155, 3) := by decide +kernel
theorem dX11_advice_4 : decode cX11_advice 4 = .ok (.ifCond .ne 26, 3) := by decide +kernel
theorem dX11_advice_7 : decode cX11_advice 7 = .ok (.iload_n 1, 1) := by decide +kernel
theorem dX11_advice_8 : decode cX11_advice 8 = .ok (.ifCond .lt 22, 3) := by decide +kernel
theorem dX11_advice_11 : decode cX11_advice 11 = .ok (.iload_n 1, 1) := by decide +kernel
theorem dX11_advice_12 : decode cX11_advice 12 = .ok (.iconst 1, 1) := by decide +kernel
theorem dX11_advice_13 : decode cX11_advice 13 = .ok (.if_icmp .gt 17, 3) := by decide +kernel
theorem dX11_advice_16 : decode cX11_advice 16 = .ok (.aload_n 0, 1) := by decide +kernel
theorem dX11_advice_17 : decode cX11_advice 17 = .ok (.getfield 75, 3) := by decide +kernel
theorem dX11_advice_20 : decode cX11_advice 20 = .ok (.aload_n 0, 1) := by decide +kernel
theorem dX11_advice_21 : decode cX11_advice 21 = .ok (.getfield 33, 3) := by decide +kernel
theorem dX11_advice_24 : decode cX11_advice 24 = .ok (.invokevirtual 251, 3) := by decide +kernel
theorem dX11_advice_27 : decode cX11_advice 27 = .ok (.ifCond .ne 5, 3) := by decide +kernel
theorem dX11_advice_30 : decode cX11_advice 30 = .ok (.iconst (-1), 1) := by decide +kernel
theorem dX11_advice_31 : decode cX11_advice 31 = .ok (.ireturn, 1) := by decide +kernel
theorem dX11_advice_32 : decode cX11_advice 32 = .ok (.iload_n 1, 1) := by decide +kernel
theorem dX11_advice_33 : decode cX11_advice 33 = .ok (.ifCond .ne 13, 3) := by decide +kernel
theorem dX11_advice_36 : decode cX11_advice 36 = .ok (.aload_n 0, 1) := by decide +kernel
theorem dX11_advice_37 : decode cX11_advice 37 = .ok (.getfield 75, 3) := by decide +kernel
theorem dX11_advice_40 : decode cX11_advice 40 = .ok (.getfield 255, 3) := by decide +kernel
theorem dX11_advice_43 : decode cX11_advice 43 = .ok (.goto 10, 3) := by decide +kernel
theorem dX11_advice_46 : decode cX11_advice 46 = .ok (.aload_n 0, 1) := by decide +kernel
theorem dX11_advice_47 : decode cX11_advice 47 = .ok (.getfield 75, 3) := by decide +kernel
theorem dX11_advice_50 : decode cX11_advice 50 = .ok (.getfield 326, 3) := by decide +kernel
theorem dX11_advice_53 : decode cX11_advice 53 = .ok (.ireturn, 1) := by decide +kernel
theorem dX11_answers_0 : decode cX11_answers 0 = .ok (.aload_n 0, 1) := by decide +kernel
theorem dX11_answers_1 : decode cX11_answers 1 = .ok (.invokevirtual 155, 3) := by decide +kernel
theorem dX11_answers_4 : decode cX11_answers 4 = .ok (.ifCond .ne 8, 3) := by decide +kernel
theorem dX11_answers_7 : decode cX11_answers 7 = .ok (.iload_n 1, 1) := by decide +kernel
theorem dX11_answers_8 : decode cX11_answers 8 = .ok (.iconst (-1), 1) := by decide +kernel
theorem dX11_answers_9 : decode cX11_answers 9 = .ok (.if_icmp .ge 7, 3) := by decide +kernel
theorem dX11_answers_12 : decode cX11_answers 12 = .ok (.iconst (-1), 1) := by decide +kernel
theorem dX11_answers_13 : decode cX11_answers 13 = .ok (.goto 15, 3) := by decide +kernel
theorem dX11_answers_16 : decode cX11_answers 16 = .ok (.aload_n 0, 1) := by decide +kernel
theorem dX11_answers_17 : decode cX11_answers 17 = .ok (.getfield 75, 3) := by decide +kernel
theorem dX11_answers_20 : decode cX11_answers 20 = .ok (.aload_n 0, 1) := by decide +kernel
theorem dX11_answers_21 : decode cX11_answers 21 = .ok (.getfield 33, 3) := by decide +kernel
theorem dX11_answers_24 : decode cX11_answers 24 = .ok (.iload_n 1, 1) := by decide +kernel
theorem dX11_answers_25 : decode cX11_answers 25 = .ok (.invokevirtual 323, 3) := by decide +kernel
theorem dX11_answers_28 : decode cX11_answers 28 = .ok (.ireturn, 1) := by decide +kernel
theorem dX11_book_0 : decode cX11_book 0 = .ok (.aload_n 0, 1) := by decide +kernel
theorem dX11_book_1 : decode cX11_book 1 = .ok (.iload_n 1, 1) := by decide +kernel
theorem dX11_book_2 : decode cX11_book 2 = .ok (.invokevirtual 159, 3) := by decide +kernel
theorem dX11_book_5 : decode cX11_book 5 = .ok (.ifCond .eq 13, 3) := by decide +kernel
theorem dX11_book_8 : decode cX11_book 8 = .ok (.aload_n 0, 1) := by decide +kernel
theorem dX11_book_9 : decode cX11_book 9 = .ok (.iconst 1, 1) := by decide +kernel
theorem dX11_book_10 : decode cX11_book 10 = .ok (.iload_n 1, 1) := by decide +kernel
theorem dX11_book_11 : decode cX11_book 11 = .ok (.ishl, 1) := by decide +kernel
theorem dX11_book_12 : decode cX11_book 12 = .ok (.invokevirtual 166, 3) := by decide +kernel
theorem dX11_book_15 : decode cX11_book 15 = .ok (.ifCond .eq 5, 3) := by decide +kernel
theorem dX11_book_18 : decode cX11_book 18 = .ok (.iconst (-1), 1) := by decide +kernel
theorem dX11_book_19 : decode cX11_book 19 = .ok (.ireturn, 1) := by decide +kernel
theorem dX11_book_20 : decode cX11_book 20 = .ok (.aload_n 0, 1) := by decide +kernel
theorem dX11_book_21 : decode cX11_book 21 = .ok (.getfield 89, 3) := by decide +kernel
theorem dX11_book_24 : decode cX11_book 24 = .ok (.aload_n 0, 1) := by decide +kernel
theorem dX11_book_25 : decode cX11_book 25 = .ok (.getfield 47, 3) := by decide +kernel
theorem dX11_book_28 : decode cX11_book 28 = .ok (.iload_n 1, 1) := by decide +kernel
theorem dX11_book_29 : decode cX11_book 29 = .ok (.aload_n 0, 1) := by decide +kernel
theorem dX11_book_30 : decode cX11_book 30 = .ok (.getfield 33, 3) := by decide +kernel
theorem dX11_book_33 : decode cX11_book 33 = .ok (.getfield 169, 3) := by decide +kernel
theorem dX11_book_36 : decode cX11_book 36 = .ok (.invokevirtual 170, 3) := by decide +kernel
theorem dX11_book_39 : decode cX11_book 39 = .ok (.iload_n 2, 1) := by decide +kernel
theorem dX11_book_40 : decode cX11_book 40 = .ok (.invokevirtual 366, 3) := by decide +kernel
theorem dX11_book_43 : decode cX11_book 43 = .ok (.ireturn, 1) := by decide +kernel
theorem dX11_cuts_0 : decode cX11_cuts 0 = .ok (.aload_n 0, 1) := by decide +kernel
theorem dX11_cuts_1 : decode cX11_cuts 1 = .ok (.invokevirtual 155, 3) := by decide +kernel
theorem dX11_cuts_4 : decode cX11_cuts 4 = .ok (.ifCond .eq 5, 3) := by decide +kernel
theorem dX11_cuts_7 : decode cX11_cuts 7 = .ok (.iconst (-1), 1) := by decide +kernel
theorem dX11_cuts_8 : decode cX11_cuts 8 = .ok (.ireturn, 1) := by decide +kernel
theorem dX11_cuts_9 : decode cX11_cuts 9 = .ok (.aload_n 0, 1) := by decide +kernel
theorem dX11_cuts_10 : decode cX11_cuts 10 = .ok (.getfield 59, 3) := by decide +kernel
theorem dX11_cuts_13 : decode cX11_cuts 13 = .ok (.aload_n 0, 1) := by decide +kernel
theorem dX11_cuts_14 : decode cX11_cuts 14 = .ok (.getfield 33, 3) := by decide +kernel
theorem dX11_cuts_17 : decode cX11_cuts 17 = .ok (.getfield 169, 3) := by decide +kernel
theorem dX11_cuts_20 : decode cX11_cuts 20 = .ok (.invokevirtual 314, 3) := by decide +kernel
theorem dX11_cuts_23 : decode cX11_cuts 23 = .ok (.iload_n 1, 1) := by decide +kernel
theorem dX11_cuts_24 : decode cX11_cuts 24 = .ok (.ifCond .lt 14, 3) := by decide +kernel
theorem dX11_cuts_27 : decode cX11_cuts 27 = .ok (.iload_n 1, 1) := by decide +kernel
theorem dX11_cuts_28 : decode cX11_cuts 28 = .ok (.aload_n 0, 1) := by decide +kernel
theorem dX11_cuts_29 : decode cX11_cuts 29 = .ok (.getfield 59, 3) := by decide +kernel
theorem dX11_cuts_32 : decode cX11_cuts 32 = .ok (.getfield 317, 3) := by decide +kernel
theorem dX11_cuts_35 : decode cX11_cuts 35 = .ok (.if_icmp .lt 20, 3) := by decide +kernel
theorem dX11_cuts_38 : decode cX11_cuts 38 = .ok (.iload_n 1, 1) := by decide +kernel
theorem dX11_cuts_39 : decode cX11_cuts 39 = .ok (.iconst (-1), 1) := by decide +kernel
theorem dX11_cuts_40 : decode cX11_cuts 40 = .ok (.if_icmp .ne 13, 3) := by decide +kernel
theorem dX11_cuts_43 : decode cX11_cuts 43 = .ok (.aload_n 0, 1) := by decide +kernel
theorem dX11_cuts_44 : decode cX11_cuts 44 = .ok (.getfield 59, 3) := by decide +kernel
theorem dX11_cuts_47 : decode cX11_cuts 47 = .ok (.getfield 317, 3) := by decide +kernel
theorem dX11_cuts_50 : decode cX11_cuts 50 = .ok (.goto 4, 3) := by decide +kernel
theorem dX11_cuts_53 : decode cX11_cuts 53 = .ok (.iconst (-1), 1) := by decide +kernel
theorem dX11_cuts_54 : decode cX11_cuts 54 = .ok (.ireturn, 1) := by decide +kernel
theorem dX11_cuts_55 : decode cX11_cuts 55 = .ok (.aload_n 0, 1) := by decide +kernel
theorem dX11_cuts_56 : decode cX11_cuts 56 = .ok (.getfield 59, 3) := by decide +kernel
theorem dX11_cuts_59 : decode cX11_cuts 59 = .ok (.getfield 320, 3) := by decide +kernel
theorem dX11_cuts_62 : decode cX11_cuts 62 = .ok (.iload_n 1, 1) := by decide +kernel
theorem dX11_cuts_63 : decode cX11_cuts 63 = .ok (.iaload, 1) := by decide +kernel
theorem dX11_cuts_64 : decode cX11_cuts 64 = .ok (.ireturn, 1) := by decide +kernel
theorem dX11_forced_0 : decode cX11_forced 0 = .ok (.aload_n 0, 1) := by decide +kernel
theorem dX11_forced_1 : decode cX11_forced 1 = .ok (.invokevirtual 329, 3) := by decide +kernel
theorem dX11_forced_4 : decode cX11_forced 4 = .ok (.ifCond .eq 17, 3) := by decide +kernel
theorem dX11_forced_7 : decode cX11_forced 7 = .ok (.aload_n 0, 1) := by decide +kernel
theorem dX11_forced_8 : decode cX11_forced 8 = .ok (.getfield 75, 3) := by decide +kernel
theorem dX11_forced_11 : decode cX11_forced 11 = .ok (.aload_n 0, 1) := by decide +kernel
theorem dX11_forced_12 : decode cX11_forced 12 = .ok (.getfield 33, 3) := by decide +kernel
theorem dX11_forced_15 : decode cX11_forced 15 = .ok (.invokevirtual 335, 3) := by decide +kernel
theorem dX11_forced_18 : decode cX11_forced 18 = .ok (.goto 4, 3) := by decide +kernel
theorem dX11_forced_21 : decode cX11_forced 21 = .ok (.iconst (-1), 1) := by decide +kernel
theorem dX11_forced_22 : decode cX11_forced 22 = .ok (.ireturn, 1) := by decide +kernel
theorem dX11_holds_0 : decode cX11_holds 0 = .ok (.aload_n 0, 1) := by decide +kernel
theorem dX11_holds_1 : decode cX11_holds 1 = .ok (.invokevirtual 329, 3) := by decide +kernel
theorem dX11_holds_4 : decode cX11_holds 4 = .ok (.ifCond .eq 13, 3) := by decide +kernel
theorem dX11_holds_7 : decode cX11_holds 7 = .ok (.iload_n 1, 1) := by decide +kernel
theorem dX11_holds_8 : decode cX11_holds 8 = .ok (.iconst 1, 1) := by decide +kernel
theorem dX11_holds_9 : decode cX11_holds 9 = .ok (.if_icmp .lt 8, 3) := by decide +kernel
theorem dX11_holds_12 : decode cX11_holds 12 = .ok (.iload_n 1, 1) := by decide +kernel
theorem dX11_holds_13 : decode cX11_holds 13 = .ok (.iconst 2, 1) := by decide +kernel
theorem dX11_holds_14 : decode cX11_holds 14 = .ok (.if_icmp .le 5, 3) := by decide +kernel
theorem dX11_holds_17 : decode cX11_holds 17 = .ok (.iconst (-1), 1) := by decide +kernel
theorem dX11_holds_18 : decode cX11_holds 18 = .ok (.ireturn, 1) := by decide +kernel
theorem dX11_holds_19 : decode cX11_holds 19 = .ok (.aload_n 0, 1) := by decide +kernel
theorem dX11_holds_20 : decode cX11_holds 20 = .ok (.getfield 59, 3) := by decide +kernel
theorem dX11_holds_23 : decode cX11_holds 23 = .ok (.aload_n 0, 1) := by decide +kernel
theorem dX11_holds_24 : decode cX11_holds 24 = .ok (.getfield 33, 3) := by decide +kernel
theorem dX11_holds_27 : decode cX11_holds 27 = .ok (.getfield 169, 3) := by decide +kernel
theorem dX11_holds_30 : decode cX11_holds 30 = .ok (.aload_n 0, 1) := by decide +kernel
theorem dX11_holds_31 : decode cX11_holds 31 = .ok (.getfield 33, 3) := by decide +kernel
theorem dX11_holds_34 : decode cX11_holds 34 = .ok (.getfield 174, 3) := by decide +kernel
theorem dX11_holds_37 : decode cX11_holds 37 = .ok (.aload_n 0, 1) := by decide +kernel
theorem dX11_holds_38 : decode cX11_holds 38 = .ok (.getfield 33, 3) := by decide +kernel
theorem dX11_holds_41 : decode cX11_holds 41 = .ok (.getfield 177, 3) := by decide +kernel
theorem dX11_holds_44 : decode cX11_holds 44 = .ok (.invokevirtual 215, 3) := by decide +kernel
theorem dX11_holds_47 : decode cX11_holds 47 = .ok (.ifCond .eq 5, 3) := by decide +kernel
theorem dX11_holds_50 : decode cX11_holds 50 = .ok (.iconst 0, 1) := by decide +kernel
theorem dX11_holds_51 : decode cX11_holds 51 = .ok (.ireturn, 1) := by decide +kernel
theorem dX11_holds_52 : decode cX11_holds 52 = .ok (.iload_n 1, 1) := by decide +kernel
theorem dX11_holds_53 : decode cX11_holds 53 = .ok (.iconst 1, 1) := by decide +kernel
theorem dX11_holds_54 : decode cX11_holds 54 = .ok (.if_icmp .eq 49, 3) := by decide +kernel
theorem dX11_holds_57 : decode cX11_holds 57 = .ok (.aload_n 0, 1) := by decide +kernel
theorem dX11_holds_58 : decode cX11_holds 58 = .ok (.getfield 75, 3) := by decide +kernel
theorem dX11_holds_61 : decode cX11_holds 61 = .ok (.aload_n 0, 1) := by decide +kernel
theorem dX11_holds_62 : decode cX11_holds 62 = .ok (.getfield 33, 3) := by decide +kernel
theorem dX11_holds_65 : decode cX11_holds 65 = .ok (.getfield 169, 3) := by decide +kernel
theorem dX11_holds_68 : decode cX11_holds 68 = .ok (.aload_n 0, 1) := by decide +kernel
theorem dX11_holds_69 : decode cX11_holds 69 = .ok (.getfield 33, 3) := by decide +kernel
theorem dX11_holds_72 : decode cX11_holds 72 = .ok (.getfield 174, 3) := by decide +kernel
theorem dX11_holds_75 : decode cX11_holds 75 = .ok (.aload_n 0, 1) := by decide +kernel
theorem dX11_holds_76 : decode cX11_holds 76 = .ok (.getfield 33, 3) := by decide +kernel
theorem dX11_holds_79 : decode cX11_holds 79 = .ok (.getfield 177, 3) := by decide +kernel
theorem dX11_holds_82 : decode cX11_holds 82 = .ok (.invokevirtual 332, 3) := by decide +kernel
theorem dX11_holds_85 : decode cX11_holds 85 = .ok (.ifCond .eq 22, 3) := by decide +kernel
theorem dX11_holds_88 : decode cX11_holds 88 = .ok (.aload_n 0, 1) := by decide +kernel
theorem dX11_holds_89 : decode cX11_holds 89 = .ok (.getfield 75, 3) := by decide +kernel
theorem dX11_holds_92 : decode cX11_holds 92 = .ok (.aload_n 0, 1) := by decide +kernel
theorem dX11_holds_93 : decode cX11_holds 93 = .ok (.getfield 33, 3) := by decide +kernel
theorem dX11_holds_96 : decode cX11_holds 96 = .ok (.invokevirtual 335, 3) := by decide +kernel
theorem dX11_holds_99 : decode cX11_holds 99 = .ok (.iconst (-1), 1) := by decide +kernel
theorem dX11_holds_100 : decode cX11_holds 100 = .ok (.if_icmp .ne 7, 3) := by decide +kernel
theorem dX11_holds_103 : decode cX11_holds 103 = .ok (.iconst 1, 1) := by decide +kernel
theorem dX11_holds_104 : decode cX11_holds 104 = .ok (.goto 4, 3) := by decide +kernel
theorem dX11_holds_107 : decode cX11_holds 107 = .ok (.iconst 0, 1) := by decide +kernel
theorem dX11_holds_108 : decode cX11_holds 108 = .ok (.istore_n 2, 1) := by decide +kernel
theorem dX11_holds_109 : decode cX11_holds 109 = .ok (.iload_n 2, 1) := by decide +kernel
theorem dX11_holds_110 : decode cX11_holds 110 = .ok (.ifCond .eq 7, 3) := by decide +kernel
theorem dX11_holds_113 : decode cX11_holds 113 = .ok (.iconst 1, 1) := by decide +kernel
theorem dX11_holds_114 : decode cX11_holds 114 = .ok (.goto 4, 3) := by decide +kernel
theorem dX11_holds_117 : decode cX11_holds 117 = .ok (.iconst 0, 1) := by decide +kernel
theorem dX11_holds_118 : decode cX11_holds 118 = .ok (.ireturn, 1) := by decide +kernel
theorem dX11_meant_0 : decode cX11_meant 0 = .ok (.aload_n 0, 1) := by decide +kernel
theorem dX11_meant_1 : decode cX11_meant 1 = .ok (.invokevirtual 155, 3) := by decide +kernel
theorem dX11_meant_4 : decode cX11_meant 4 = .ok (.ifCond .eq 7, 3) := by decide +kernel
theorem dX11_meant_7 : decode cX11_meant 7 = .ok (.iconst (-1), 1) := by decide +kernel
theorem dX11_meant_8 : decode cX11_meant 8 = .ok (.goto 10, 3) := by decide +kernel
theorem dX11_meant_11 : decode cX11_meant 11 = .ok (.aload_n 0, 1) := by decide +kernel
theorem dX11_meant_12 : decode cX11_meant 12 = .ok (.getfield 33, 3) := by decide +kernel
theorem dX11_meant_15 : decode cX11_meant 15 = .ok (.getfield 231, 3) := by decide +kernel
theorem dX11_meant_18 : decode cX11_meant 18 = .ok (.ireturn, 1) := by decide +kernel
theorem dX11_missing_0 : decode cX11_missing 0 = .ok (.aload_n 0, 1) := by decide +kernel
theorem dX11_missing_1 : decode cX11_missing 1 = .ok (.iload_n 1, 1) := by decide +kernel
theorem dX11_missing_2 : decode cX11_missing 2 = .ok (.invokevirtual 278, 3) := by decide +kernel
theorem dX11_missing_5 : decode cX11_missing 5 = .ok (.ifCond .eq 23, 3) := by decide +kernel
theorem dX11_missing_8 : decode cX11_missing 8 = .ok (.aload_n 0, 1) := by decide +kernel
theorem dX11_missing_9 : decode cX11_missing 9 = .ok (.invokevirtual 155, 3) := by decide +kernel
theorem dX11_missing_12 : decode cX11_missing 12 = .ok (.ifCond .ne 16, 3) := by decide +kernel
theorem dX11_missing_15 : decode cX11_missing 15 = .ok (.aload_n 0, 1) := by decide +kernel
theorem dX11_missing_16 : decode cX11_missing 16 = .ok (.getfield 24, 3) := by decide +kernel
theorem dX11_missing_19 : decode cX11_missing 19 = .ok (.iload_n 1, 1) := by decide +kernel
theorem dX11_missing_20 : decode cX11_missing 20 = .ok (.aaload, 1) := by decide +kernel
theorem dX11_missing_21 : decode cX11_missing 21 = .ok (.getfield 295, 3) := by decide +kernel
theorem dX11_missing_24 : decode cX11_missing 24 = .ok (.iconst 3, 1) := by decide +kernel
theorem dX11_missing_25 : decode cX11_missing 25 = .ok (.if_icmp .le 5, 3) := by decide +kernel
theorem dX11_missing_28 : decode cX11_missing 28 = .ok (.iconst (-1), 1) := by decide +kernel
theorem dX11_missing_29 : decode cX11_missing 29 = .ok (.ireturn, 1) := by decide +kernel
theorem dX11_missing_30 : decode cX11_missing 30 = .ok (.iload_n 2, 1) := by decide +kernel
theorem dX11_missing_31 : decode cX11_missing 31 = .ok (.aload_n 0, 1) := by decide +kernel
theorem dX11_missing_32 : decode cX11_missing 32 = .ok (.getfield 47, 3) := by decide +kernel
theorem dX11_missing_35 : decode cX11_missing 35 = .ok (.getfield 298, 3) := by decide +kernel
theorem dX11_missing_38 : decode cX11_missing 38 = .ok (.iconst (-1), 1) := by decide +kernel
theorem dX11_missing_39 : decode cX11_missing 39 = .ok (.ixor, 1) := by decide +kernel
theorem dX11_missing_40 : decode cX11_missing 40 = .ok (.iand, 1) := by decide +kernel
theorem dX11_missing_41 : decode cX11_missing 41 = .ok (.ifCond .ne 8, 3) := by decide +kernel
theorem dX11_missing_44 : decode cX11_missing 44 = .ok (.iload_n 3, 1) := by decide +kernel
theorem dX11_missing_45 : decode cX11_missing 45 = .ok (.iconst (-1), 1) := by decide +kernel
theorem dX11_missing_46 : decode cX11_missing 46 = .ok (.if_icmp .ge 5, 3) := by decide +kernel
theorem dX11_missing_49 : decode cX11_missing 49 = .ok (.iconst (-1), 1) := by decide +kernel
theorem dX11_missing_50 : decode cX11_missing 50 = .ok (.ireturn, 1) := by decide +kernel
theorem dX11_missing_51 : decode cX11_missing 51 = .ok (.aload_n 0, 1) := by decide +kernel
theorem dX11_missing_52 : decode cX11_missing 52 = .ok (.getfield 68, 3) := by decide +kernel
theorem dX11_missing_55 : decode cX11_missing 55 = .ok (.aload_n 0, 1) := by decide +kernel
theorem dX11_missing_56 : decode cX11_missing 56 = .ok (.getfield 24, 3) := by decide +kernel
theorem dX11_missing_59 : decode cX11_missing 59 = .ok (.iload_n 1, 1) := by decide +kernel
theorem dX11_missing_60 : decode cX11_missing 60 = .ok (.aaload, 1) := by decide +kernel
theorem dX11_missing_61 : decode cX11_missing 61 = .ok (.aload_n 0, 1) := by decide +kernel
theorem dX11_missing_62 : decode cX11_missing 62 = .ok (.getfield 33, 3) := by decide +kernel
theorem dX11_missing_65 : decode cX11_missing 65 = .ok (.iload_n 2, 1) := by decide +kernel
theorem dX11_missing_66 : decode cX11_missing 66 = .ok (.iload_n 3, 1) := by decide +kernel
theorem dX11_missing_67 : decode cX11_missing 67 = .ok (.invokevirtual 301, 3) := by decide +kernel
theorem dX11_missing_70 : decode cX11_missing 70 = .ok (.iload_n 3, 1) := by decide +kernel
theorem dX11_missing_71 : decode cX11_missing 71 = .ok (.iconst (-1), 1) := by decide +kernel
theorem dX11_missing_72 : decode cX11_missing 72 = .ok (.if_icmp .ne 13, 3) := by decide +kernel
theorem dX11_missing_75 : decode cX11_missing 75 = .ok (.aload_n 0, 1) := by decide +kernel
theorem dX11_missing_76 : decode cX11_missing 76 = .ok (.getfield 68, 3) := by decide +kernel
theorem dX11_missing_79 : decode cX11_missing 79 = .ok (.getfield 305, 3) := by decide +kernel
theorem dX11_missing_82 : decode cX11_missing 82 = .ok (.goto 10, 3) := by decide +kernel
theorem dX11_missing_85 : decode cX11_missing 85 = .ok (.aload_n 0, 1) := by decide +kernel
theorem dX11_missing_86 : decode cX11_missing 86 = .ok (.getfield 68, 3) := by decide +kernel
theorem dX11_missing_89 : decode cX11_missing 89 = .ok (.getfield 308, 3) := by decide +kernel
theorem dX11_missing_92 : decode cX11_missing 92 = .ok (.ireturn, 1) := by decide +kernel
theorem dX11_move_0 : decode cX11_move 0 = .ok (.aload_n 0, 1) := by decide +kernel
theorem dX11_move_1 : decode cX11_move 1 = .ok (.iload_n 1, 1) := by decide +kernel
theorem dX11_move_2 : decode cX11_move 2 = .ok (.invokevirtual 278, 3) := by decide +kernel
theorem dX11_move_5 : decode cX11_move 5 = .ok (.ifCond .eq 29, 3) := by decide +kernel
theorem dX11_move_8 : decode cX11_move 8 = .ok (.iload_n 2, 1) := by decide +kernel
theorem dX11_move_9 : decode cX11_move 9 = .ok (.ifCond .lt 25, 3) := by decide +kernel
theorem dX11_move_12 : decode cX11_move 12 = .ok (.iload_n 2, 1) := by decide +kernel
theorem dX11_move_13 : decode cX11_move 13 = .ok (.aload_n 0, 1) := by decide +kernel
theorem dX11_move_14 : decode cX11_move 14 = .ok (.getfield 24, 3) := by decide +kernel
theorem dX11_move_17 : decode cX11_move 17 = .ok (.iload_n 1, 1) := by decide +kernel
theorem dX11_move_18 : decode cX11_move 18 = .ok (.aaload, 1) := by decide +kernel
theorem dX11_move_19 : decode cX11_move 19 = .ok (.getfield 281, 3) := by decide +kernel
theorem dX11_move_22 : decode cX11_move 22 = .ok (.if_icmp .ge 12, 3) := by decide +kernel
theorem dX11_move_25 : decode cX11_move 25 = .ok (.iload_n 3, 1) := by decide +kernel
theorem dX11_move_26 : decode cX11_move 26 = .ok (.ifCond .lt 8, 3) := by decide +kernel
theorem dX11_move_29 : decode cX11_move 29 = .ok (.iload_n 3, 1) := by decide +kernel
theorem dX11_move_30 : decode cX11_move 30 = .ok (.iconst 3, 1) := by decide +kernel
theorem dX11_move_31 : decode cX11_move 31 = .ok (.if_icmp .le 7, 3) := by decide +kernel
theorem dX11_move_34 : decode cX11_move 34 = .ok (.ldc_w 271, 3) := by decide +kernel
theorem dX11_move_37 : decode cX11_move 37 = .ok (.ireturn, 1) := by decide +kernel
theorem dX11_move_38 : decode cX11_move 38 = .ok (.aload_n 0, 1) := by decide +kernel
theorem dX11_move_39 : decode cX11_move 39 = .ok (.getfield 24, 3) := by decide +kernel
theorem dX11_move_42 : decode cX11_move 42 = .ok (.iload_n 1, 1) := by decide +kernel
theorem dX11_move_43 : decode cX11_move 43 = .ok (.aaload, 1) := by decide +kernel
theorem dX11_move_44 : decode cX11_move 44 = .ok (.getfield 284, 3) := by decide +kernel
theorem dX11_move_47 : decode cX11_move 47 = .ok (.iload_n 2, 1) := by decide +kernel
theorem dX11_move_48 : decode cX11_move 48 = .ok (.iaload, 1) := by decide +kernel
theorem dX11_move_49 : decode cX11_move 49 = .ok (.iload_n 3, 1) := by decide +kernel
theorem dX11_move_50 : decode cX11_move 50 = .ok (.invokestatic 275, 3) := by decide +kernel
theorem dX11_move_53 : decode cX11_move 53 = .ok (.ireturn, 1) := by decide +kernel
theorem dX11_openNight_0 : decode cX11_openNight 0 = .ok (.aload_n 0, 1) := by decide +kernel
theorem dX11_openNight_1 : decode cX11_openNight 1 = .ok (.invokevirtual 155, 3) := by decide +kernel
theorem dX11_openNight_4 : decode cX11_openNight 4 = .ok (.ifCond .ne 27, 3) := by decide +kernel
theorem dX11_openNight_7 : decode cX11_openNight 7 = .ok (.aload_n 0, 1) := by decide +kernel
theorem dX11_openNight_8 : decode cX11_openNight 8 = .ok (.getfield 33, 3) := by decide +kernel
theorem dX11_openNight_11 : decode cX11_openNight 11 = .ok (.getfield 193, 3) := by decide +kernel
theorem dX11_openNight_14 : decode cX11_openNight 14 = .ok (.ifCond .ne 17, 3) := by decide +kernel
theorem dX11_openNight_17 : decode cX11_openNight 17 = .ok (.aload_n 0, 1) := by decide +kernel
theorem dX11_openNight_18 : decode cX11_openNight 18 = .ok (.getfield 33, 3) := by decide +kernel
theorem dX11_openNight_21 : decode cX11_openNight 21 = .ok (.getfield 197, 3) := by decide +kernel
theorem dX11_openNight_24 : decode cX11_openNight 24 = .ok (.ifCond .ne 7, 3) := by decide +kernel
theorem dX11_openNight_27 : decode cX11_openNight 27 = .ok (.iconst 1, 1) := by decide +kernel
theorem dX11_openNight_28 : decode cX11_openNight 28 = .ok (.goto 4, 3) := by decide +kernel
theorem dX11_openNight_31 : decode cX11_openNight 31 = .ok (.iconst 0, 1) := by decide +kernel
theorem dX11_openNight_32 : decode cX11_openNight 32 = .ok (.ireturn, 1) := by decide +kernel
theorem dX11_parts_0 : decode cX11_parts 0 = .ok (.aload_n 0, 1) := by decide +kernel
theorem dX11_parts_1 : decode cX11_parts 1 = .ok (.invokevirtual 155, 3) := by decide +kernel
theorem dX11_parts_4 : decode cX11_parts 4 = .ok (.ifCond .eq 5, 3) := by decide +kernel
theorem dX11_parts_7 : decode cX11_parts 7 = .ok (.iconst (-1), 1) := by decide +kernel
theorem dX11_parts_8 : decode cX11_parts 8 = .ok (.ireturn, 1) := by decide +kernel
theorem dX11_parts_9 : decode cX11_parts 9 = .ok (.aload_n 0, 1) := by decide +kernel
theorem dX11_parts_10 : decode cX11_parts 10 = .ok (.getfield 82, 3) := by decide +kernel
theorem dX11_parts_13 : decode cX11_parts 13 = .ok (.aload_n 0, 1) := by decide +kernel
theorem dX11_parts_14 : decode cX11_parts 14 = .ok (.getfield 33, 3) := by decide +kernel
theorem dX11_parts_17 : decode cX11_parts 17 = .ok (.getfield 169, 3) := by decide +kernel
theorem dX11_parts_20 : decode cX11_parts 20 = .ok (.invokevirtual 339, 3) := by decide +kernel
theorem dX11_parts_23 : decode cX11_parts 23 = .ok (.iload_n 1, 1) := by decide +kernel
theorem dX11_parts_24 : decode cX11_parts 24 = .ok (.ifCond .lt 14, 3) := by decide +kernel
theorem dX11_parts_27 : decode cX11_parts 27 = .ok (.iload_n 1, 1) := by decide +kernel
theorem dX11_parts_28 : decode cX11_parts 28 = .ok (.aload_n 0, 1) := by decide +kernel
theorem dX11_parts_29 : decode cX11_parts 29 = .ok (.getfield 82, 3) := by decide +kernel
theorem dX11_parts_32 : decode cX11_parts 32 = .ok (.getfield 342, 3) := by decide +kernel
theorem dX11_parts_35 : decode cX11_parts 35 = .ok (.if_icmp .lt 20, 3) := by decide +kernel
theorem dX11_parts_38 : decode cX11_parts 38 = .ok (.iload_n 1, 1) := by decide +kernel
theorem dX11_parts_39 : decode cX11_parts 39 = .ok (.iconst (-1), 1) := by decide +kernel
theorem dX11_parts_40 : decode cX11_parts 40 = .ok (.if_icmp .ne 13, 3) := by decide +kernel
theorem dX11_parts_43 : decode cX11_parts 43 = .ok (.aload_n 0, 1) := by decide +kernel
theorem dX11_parts_44 : decode cX11_parts 44 = .ok (.getfield 82, 3) := by decide +kernel
theorem dX11_parts_47 : decode cX11_parts 47 = .ok (.getfield 342, 3) := by decide +kernel
theorem dX11_parts_50 : decode cX11_parts 50 = .ok (.goto 4, 3) := by decide +kernel
theorem dX11_parts_53 : decode cX11_parts 53 = .ok (.iconst (-1), 1) := by decide +kernel
theorem dX11_parts_54 : decode cX11_parts 54 = .ok (.ireturn, 1) := by decide +kernel
theorem dX11_parts_55 : decode cX11_parts 55 = .ok (.aload_n 0, 1) := by decide +kernel
theorem dX11_parts_56 : decode cX11_parts 56 = .ok (.getfield 82, 3) := by decide +kernel
theorem dX11_parts_59 : decode cX11_parts 59 = .ok (.getfield 345, 3) := by decide +kernel
theorem dX11_parts_62 : decode cX11_parts 62 = .ok (.iload_n 1, 1) := by decide +kernel
theorem dX11_parts_63 : decode cX11_parts 63 = .ok (.iaload, 1) := by decide +kernel
theorem dX11_parts_64 : decode cX11_parts 64 = .ok (.ireturn, 1) := by decide +kernel
theorem dX11_perform_0 : decode cX11_perform 0 = .ok (.aload_n 0, 1) := by decide +kernel
theorem dX11_perform_1 : decode cX11_perform 1 = .ok (.iload_n 1, 1) := by decide +kernel
theorem dX11_perform_2 : decode cX11_perform 2 = .ok (.invokevirtual 278, 3) := by decide +kernel
theorem dX11_perform_5 : decode cX11_perform 5 = .ok (.ifCond .eq 10, 3) := by decide +kernel
theorem dX11_perform_8 : decode cX11_perform 8 = .ok (.aload_n 0, 1) := by decide +kernel
theorem dX11_perform_9 : decode cX11_perform 9 = .ok (.invokevirtual 155, 3) := by decide +kernel
theorem dX11_perform_12 : decode cX11_perform 12 = .ok (.ifCond .eq 5, 3) := by decide +kernel
theorem dX11_perform_15 : decode cX11_perform 15 = .ok (.iconst (-1), 1) := by decide +kernel
theorem dX11_perform_16 : decode cX11_perform 16 = .ok (.ireturn, 1) := by decide +kernel
theorem dX11_perform_17 : decode cX11_perform 17 = .ok (.aload_n 0, 1) := by decide +kernel
theorem dX11_perform_18 : decode cX11_perform 18 = .ok (.getfield 24, 3) := by decide +kernel
theorem dX11_perform_21 : decode cX11_perform 21 = .ok (.iload_n 1, 1) := by decide +kernel
theorem dX11_perform_22 : decode cX11_perform 22 = .ok (.aaload, 1) := by decide +kernel
theorem dX11_perform_23 : decode cX11_perform 23 = .ok (.astore_n 2, 1) := by decide +kernel
theorem dX11_perform_24 : decode cX11_perform 24 = .ok (.iconst 0, 1) := by decide +kernel
theorem dX11_perform_25 : decode cX11_perform 25 = .ok (.istore_n 3, 1) := by decide +kernel
theorem dX11_perform_26 : decode cX11_perform 26 = .ok (.iload_n 3, 1) := by decide +kernel
theorem dX11_perform_27 : decode cX11_perform 27 = .ok (.aload_n 2, 1) := by decide +kernel
theorem dX11_perform_28 : decode cX11_perform 28 = .ok (.getfield 281, 3) := by decide +kernel
theorem dX11_perform_31 : decode cX11_perform 31 = .ok (.if_icmp .ge 61, 3) := by decide +kernel
theorem dX11_perform_34 : decode cX11_perform 34 = .ok (.aload_n 2, 1) := by decide +kernel
theorem dX11_perform_35 : decode cX11_perform 35 = .ok (.getfield 284, 3) := by decide +kernel
theorem dX11_perform_38 : decode cX11_perform 38 = .ok (.iload_n 3, 1) := by decide +kernel
theorem dX11_perform_39 : decode cX11_perform 39 = .ok (.iaload, 1) := by decide +kernel
theorem dX11_perform_40 : decode cX11_perform 40 = .ok (.istore 4, 2) := by decide +kernel
theorem dX11_perform_42 : decode cX11_perform 42 = .ok (.aload_n 0, 1) := by decide +kernel
theorem dX11_perform_43 : decode cX11_perform 43 = .ok (.getfield 68, 3) := by decide +kernel
theorem dX11_perform_46 : decode cX11_perform 46 = .ok (.aload_n 0, 1) := by decide +kernel
theorem dX11_perform_47 : decode cX11_perform 47 = .ok (.getfield 33, 3) := by decide +kernel
theorem dX11_perform_50 : decode cX11_perform 50 = .ok (.iload 4, 2) := by decide +kernel
theorem dX11_perform_52 : decode cX11_perform 52 = .ok (.invokevirtual 291, 3) := by decide +kernel
theorem dX11_perform_55 : decode cX11_perform 55 = .ok (.istore 5, 2) := by decide +kernel
theorem dX11_perform_57 : decode cX11_perform 57 = .ok (.aload_n 0, 1) := by decide +kernel
theorem dX11_perform_58 : decode cX11_perform 58 = .ok (.iload 4, 2) := by decide +kernel
theorem dX11_perform_60 : decode cX11_perform 60 = .ok (.iconst 0, 1) := by decide +kernel
theorem dX11_perform_61 : decode cX11_perform 61 = .ok (.invokestatic 275, 3) := by decide +kernel
theorem dX11_perform_64 : decode cX11_perform 64 = .ok (.iload 5, 2) := by decide +kernel
theorem dX11_perform_66 : decode cX11_perform 66 = .ok (.iload 4, 2) := by decide +kernel
theorem dX11_perform_68 : decode cX11_perform 68 = .ok (.iconst 2, 1) := by decide +kernel
theorem dX11_perform_69 : decode cX11_perform 69 = .ok (.invokestatic 275, 3) := by decide +kernel
theorem dX11_perform_72 : decode cX11_perform 72 = .ok (.iload 4, 2) := by decide +kernel
theorem dX11_perform_74 : decode cX11_perform 74 = .ok (.iconst 3, 1) := by decide +kernel
theorem dX11_perform_75 : decode cX11_perform 75 = .ok (.invokestatic 275, 3) := by decide +kernel
theorem dX11_perform_78 : decode cX11_perform 78 = .ok (.invokevirtual 190, 3) := by decide +kernel
theorem dX11_perform_81 : decode cX11_perform 81 = .ok (.ifCond .ne 5, 3) := by decide +kernel
theorem dX11_perform_84 : decode cX11_perform 84 = .ok (.iload_n 3, 1) := by decide +kernel
theorem dX11_perform_85 : decode cX11_perform 85 = .ok (.ireturn, 1) := by decide +kernel
theorem dX11_perform_86 : decode cX11_perform 86 = .ok (.iinc 3 1, 3) := by decide +kernel
theorem dX11_perform_89 : decode cX11_perform 89 = .ok (.goto (-63), 3) := by decide +kernel
theorem dX11_perform_92 : decode cX11_perform 92 = .ok (.aload_n 2, 1) := by decide +kernel
theorem dX11_perform_93 : decode cX11_perform 93 = .ok (.getfield 281, 3) := by decide +kernel
theorem dX11_perform_96 : decode cX11_perform 96 = .ok (.ireturn, 1) := by decide +kernel
theorem dX11_run_0 : decode cX11_run 0 = .ok (.aload_n 0, 1) := by decide +kernel
theorem dX11_run_1 : decode cX11_run 1 = .ok (.iload_n 1, 1) := by decide +kernel
theorem dX11_run_2 : decode cX11_run 2 = .ok (.invokevirtual 278, 3) := by decide +kernel
theorem dX11_run_5 : decode cX11_run 5 = .ok (.ifCond .eq 10, 3) := by decide +kernel
theorem dX11_run_8 : decode cX11_run 8 = .ok (.aload_n 0, 1) := by decide +kernel
theorem dX11_run_9 : decode cX11_run 9 = .ok (.invokevirtual 155, 3) := by decide +kernel
theorem dX11_run_12 : decode cX11_run 12 = .ok (.ifCond .eq 7, 3) := by decide +kernel
theorem dX11_run_15 : decode cX11_run 15 = .ok (.ldc_w 271, 3) := by decide +kernel
theorem dX11_run_18 : decode cX11_run 18 = .ok (.ireturn, 1) := by decide +kernel
theorem dX11_run_19 : decode cX11_run 19 = .ok (.aload_n 0, 1) := by decide +kernel
theorem dX11_run_20 : decode cX11_run 20 = .ok (.getfield 68, 3) := by decide +kernel
theorem dX11_run_23 : decode cX11_run 23 = .ok (.aload_n 0, 1) := by decide +kernel
theorem dX11_run_24 : decode cX11_run 24 = .ok (.getfield 24, 3) := by decide +kernel
theorem dX11_run_27 : decode cX11_run 27 = .ok (.iload_n 1, 1) := by decide +kernel
theorem dX11_run_28 : decode cX11_run 28 = .ok (.aaload, 1) := by decide +kernel
theorem dX11_run_29 : decode cX11_run 29 = .ok (.aload_n 0, 1) := by decide +kernel
theorem dX11_run_30 : decode cX11_run 30 = .ok (.getfield 33, 3) := by decide +kernel
theorem dX11_run_33 : decode cX11_run 33 = .ok (.invokevirtual 287, 3) := by decide +kernel
theorem dX11_run_36 : decode cX11_run 36 = .ok (.istore_n 2, 1) := by decide +kernel
theorem dX11_run_37 : decode cX11_run 37 = .ok (.iload_n 2, 1) := by decide +kernel
theorem dX11_run_38 : decode cX11_run 38 = .ok (.aload_n 0, 1) := by decide +kernel
theorem dX11_run_39 : decode cX11_run 39 = .ok (.getfield 24, 3) := by decide +kernel
theorem dX11_run_42 : decode cX11_run 42 = .ok (.iload_n 1, 1) := by decide +kernel
theorem dX11_run_43 : decode cX11_run 43 = .ok (.aaload, 1) := by decide +kernel
theorem dX11_run_44 : decode cX11_run 44 = .ok (.getfield 281, 3) := by decide +kernel
theorem dX11_run_47 : decode cX11_run 47 = .ok (.if_icmp .ne 7, 3) := by decide +kernel
theorem dX11_run_50 : decode cX11_run 50 = .ok (.iconst (-1), 1) := by decide +kernel
theorem dX11_run_51 : decode cX11_run 51 = .ok (.goto 4, 3) := by decide +kernel
theorem dX11_run_54 : decode cX11_run 54 = .ok (.iload_n 2, 1) := by decide +kernel
theorem dX11_run_55 : decode cX11_run 55 = .ok (.ireturn, 1) := by decide +kernel
theorem dX11_threats_0 : decode cX11_threats 0 = .ok (.aload_n 0, 1) := by decide +kernel
theorem dX11_threats_1 : decode cX11_threats 1 = .ok (.invokevirtual 155, 3) := by decide +kernel
theorem dX11_threats_4 : decode cX11_threats 4 = .ok (.ifCond .eq 7, 3) := by decide +kernel
theorem dX11_threats_7 : decode cX11_threats 7 = .ok (.iconst (-1), 1) := by decide +kernel
theorem dX11_threats_8 : decode cX11_threats 8 = .ok (.goto 31, 3) := by decide +kernel
theorem dX11_threats_11 : decode cX11_threats 11 = .ok (.aload_n 0, 1) := by decide +kernel
theorem dX11_threats_12 : decode cX11_threats 12 = .ok (.getfield 59, 3) := by decide +kernel
theorem dX11_threats_15 : decode cX11_threats 15 = .ok (.aload_n 0, 1) := by decide +kernel
theorem dX11_threats_16 : decode cX11_threats 16 = .ok (.getfield 33, 3) := by decide +kernel
theorem dX11_threats_19 : decode cX11_threats 19 = .ok (.getfield 169, 3) := by decide +kernel
theorem dX11_threats_22 : decode cX11_threats 22 = .ok (.aload_n 0, 1) := by decide +kernel
theorem dX11_threats_23 : decode cX11_threats 23 = .ok (.getfield 33, 3) := by decide +kernel
theorem dX11_threats_26 : decode cX11_threats 26 = .ok (.getfield 174, 3) := by decide +kernel
theorem dX11_threats_29 : decode cX11_threats 29 = .ok (.aload_n 0, 1) := by decide +kernel
theorem dX11_threats_30 : decode cX11_threats 30 = .ok (.getfield 33, 3) := by decide +kernel
theorem dX11_threats_33 : decode cX11_threats 33 = .ok (.getfield 177, 3) := by decide +kernel
theorem dX11_threats_36 : decode cX11_threats 36 = .ok (.invokevirtual 311, 3) := by decide +kernel
theorem dX11_threats_39 : decode cX11_threats 39 = .ok (.ireturn, 1) := by decide +kernel
theorem wl_5_21 : (.methodLink RX11 278 yX11_isGame : Cond) ∈ sg_tbl := tb_5 _ (List.mem_of_getElem? (i := 21) (by decide +kernel)) (by decide +kernel)
theorem wl_2_197 : (.fieldLink RX11 24 "LawnAhead" "gameShelf" "[LLawnAhead$Game;" : Cond) ∈ sg_tbl := tb_2 _ (List.mem_of_getElem? (i := 197) (by decide +kernel)) (by decide +kernel)
theorem wl_1_99 : (.fieldLink RX11 281 "LawnAhead$Game" "count" "I" : Cond) ∈ sg_tbl := tb_1 _ (List.mem_of_getElem? (i := 99) (by decide +kernel)) (by decide +kernel)
theorem wl_1_96 : (.fieldLink RX11 284 "LawnAhead$Game" "moves" "[I" : Cond) ∈ sg_tbl := tb_1 _ (List.mem_of_getElem? (i := 96) (by decide +kernel)) (by decide +kernel)
theorem wl_5_29 : (.methodLink RX11 287 yX7_runApart : Cond) ∈ sg_tbl := tb_5 _ (List.mem_of_getElem? (i := 29) (by decide +kernel)) (by decide +kernel)
theorem wl_5_56 : (.methodLink RX11 291 yX7_cellOf : Cond) ∈ sg_tbl := tb_5 _ (List.mem_of_getElem? (i := 56) (by decide +kernel)) (by decide +kernel)
theorem wl_1_101 : (.fieldLink RX11 295 "LawnAhead$Game" "leaves" "I" : Cond) ∈ sg_tbl := tb_1 _ (List.mem_of_getElem? (i := 101) (by decide +kernel)) (by decide +kernel)
theorem wl_1_224 : (.fieldLink RX11 298 "LawnAhead$Ground" "all" "I" : Cond) ∈ sg_tbl := tb_1 _ (List.mem_of_getElem? (i := 224) (by decide +kernel)) (by decide +kernel)
theorem wl_5_61 : (.methodLink RX11 301 yX7_fillLeaves : Cond) ∈ sg_tbl := tb_5 _ (List.mem_of_getElem? (i := 61) (by decide +kernel)) (by decide +kernel)
theorem wl_2_94 : (.fieldLink RX11 308 "LawnAhead$Play" "foundCode" "I" : Cond) ∈ sg_tbl := tb_2 _ (List.mem_of_getElem? (i := 94) (by decide +kernel)) (by decide +kernel)
theorem wl_2_92 : (.fieldLink RX11 305 "LawnAhead$Play" "found" "I" : Cond) ∈ sg_tbl := tb_2 _ (List.mem_of_getElem? (i := 92) (by decide +kernel)) (by decide +kernel)
theorem wl_5_86 : (.methodLink RX11 311 yX8_threatBits : Cond) ∈ sg_tbl := tb_5 _ (List.mem_of_getElem? (i := 86) (by decide +kernel)) (by decide +kernel)
theorem wl_5_91 : (.methodLink RX11 314 yX8_listCuts : Cond) ∈ sg_tbl := tb_5 _ (List.mem_of_getElem? (i := 91) (by decide +kernel)) (by decide +kernel)
theorem wl_2_54 : (.fieldLink RX11 317 "LawnAhead$Sight" "listed" "I" : Cond) ∈ sg_tbl := tb_2 _ (List.mem_of_getElem? (i := 54) (by decide +kernel)) (by decide +kernel)
theorem wl_2_47 : (.fieldLink RX11 320 "LawnAhead$Sight" "codes" "[I" : Cond) ∈ sg_tbl := tb_2 _ (List.mem_of_getElem? (i := 47) (by decide +kernel)) (by decide +kernel)
theorem wl_5_96 : (.methodLink RX11 323 yX0_answer : Cond) ∈ sg_tbl := tb_5 _ (List.mem_of_getElem? (i := 96) (by decide +kernel)) (by decide +kernel)
theorem wl_2_126 : (.fieldLink RX11 326 "LawnAhead$Ahead" "bestThreats" "I" : Cond) ∈ sg_tbl := tb_2 _ (List.mem_of_getElem? (i := 126) (by decide +kernel)) (by decide +kernel)
theorem wl_5_109 : (.methodLink RX11 329 yX11_openNight : Cond) ∈ sg_tbl := tb_5 _ (List.mem_of_getElem? (i := 109) (by decide +kernel)) (by decide +kernel)
theorem wl_5_113 : (.methodLink RX11 332 yX0_canHold : Cond) ∈ sg_tbl := tb_5 _ (List.mem_of_getElem? (i := 113) (by decide +kernel)) (by decide +kernel)
theorem wl_5_117 : (.methodLink RX11 335 yX0_forcing : Cond) ∈ sg_tbl := tb_5 _ (List.mem_of_getElem? (i := 117) (by decide +kernel)) (by decide +kernel)
theorem wl_2_203 : (.fieldLink RX11 82 "LawnAhead" "ends" "LLawnAhead$Ends;" : Cond) ∈ sg_tbl := tb_2 _ (List.mem_of_getElem? (i := 203) (by decide +kernel)) (by decide +kernel)
theorem wl_5_136 : (.methodLink RX11 339 yX2_findParts : Cond) ∈ sg_tbl := tb_5 _ (List.mem_of_getElem? (i := 136) (by decide +kernel)) (by decide +kernel)
theorem wl_2_152 : (.fieldLink RX11 342 "LawnAhead$Ends" "partCount" "I" : Cond) ∈ sg_tbl := tb_2 _ (List.mem_of_getElem? (i := 152) (by decide +kernel)) (by decide +kernel)
theorem wl_2_146 : (.fieldLink RX11 345 "LawnAhead$Ends" "parts" "[I" : Cond) ∈ sg_tbl := tb_2 _ (List.mem_of_getElem? (i := 146) (by decide +kernel)) (by decide +kernel)
theorem wl_5_217 : (.methodLink RX11 159 yX11_isCell : Cond) ∈ sg_tbl := tb_5 _ (List.mem_of_getElem? (i := 217) (by decide +kernel)) (by decide +kernel)
theorem wl_5_221 : (.methodLink RX11 166 yX11_kindOf : Cond) ∈ sg_tbl := tb_5 _ (List.mem_of_getElem? (i := 221) (by decide +kernel)) (by decide +kernel)
theorem wl_2_204 : (.fieldLink RX11 89 "LawnAhead" "books" "LLawnAhead$Books;" : Cond) ∈ sg_tbl := tb_2 _ (List.mem_of_getElem? (i := 204) (by decide +kernel)) (by decide +kernel)
theorem wl_5_225 : (.methodLink RX11 170 yX4_around : Cond) ∈ sg_tbl := tb_5 _ (List.mem_of_getElem? (i := 225) (by decide +kernel)) (by decide +kernel)
theorem wl_5_226 : (.methodLink RX11 366 yX1_add : Cond) ∈ sg_tbl := tb_5 _ (List.mem_of_getElem? (i := 226) (by decide +kernel)) (by decide +kernel)
theorem wl_5_20 : (.code yX11_move cX11_move 4 (some .int) : Cond) ∈ sg_tbl := tb_5 _ (List.mem_of_getElem? (i := 20) (by decide +kernel)) (by decide +kernel)
theorem wl_5_18 : (.instanceMethod yX11_move : Cond) ∈ sg_tbl := tb_5 _ (List.mem_of_getElem? (i := 18) (by decide +kernel)) (by decide +kernel)
theorem wl_5_19 : (.selects RX11 yX11_move yX11_move : Cond) ∈ sg_tbl := tb_5 _ (List.mem_of_getElem? (i := 19) (by decide +kernel)) (by decide +kernel)
theorem wl_5_28 : (.code yX11_run cX11_run 3 (some .int) : Cond) ∈ sg_tbl := tb_5 _ (List.mem_of_getElem? (i := 28) (by decide +kernel)) (by decide +kernel)
theorem wl_5_26 : (.instanceMethod yX11_run : Cond) ∈ sg_tbl := tb_5 _ (List.mem_of_getElem? (i := 26) (by decide +kernel)) (by decide +kernel)
theorem wl_5_27 : (.selects RX11 yX11_run yX11_run : Cond) ∈ sg_tbl := tb_5 _ (List.mem_of_getElem? (i := 27) (by decide +kernel)) (by decide +kernel)
theorem wl_5_55 : (.code yX11_perform cX11_perform 6 (some .int) : Cond) ∈ sg_tbl := tb_5 _ (List.mem_of_getElem? (i := 55) (by decide +kernel)) (by decide +kernel)
theorem wl_5_53 : (.instanceMethod yX11_perform : Cond) ∈ sg_tbl := tb_5 _ (List.mem_of_getElem? (i := 53) (by decide +kernel)) (by decide +kernel)
theorem wl_5_54 : (.selects RX11 yX11_perform yX11_perform : Cond) ∈ sg_tbl := tb_5 _ (List.mem_of_getElem? (i := 54) (by decide +kernel)) (by decide +kernel)
theorem wl_5_60 : (.code yX11_missing cX11_missing 4 (some .int) : Cond) ∈ sg_tbl := tb_5 _ (List.mem_of_getElem? (i := 60) (by decide +kernel)) (by decide +kernel)
theorem wl_5_58 : (.instanceMethod yX11_missing : Cond) ∈ sg_tbl := tb_5 _ (List.mem_of_getElem? (i := 58) (by decide +kernel)) (by decide +kernel)
theorem wl_5_59 : (.selects RX11 yX11_missing yX11_missing : Cond) ∈ sg_tbl := tb_5 _ (List.mem_of_getElem? (i := 59) (by decide +kernel)) (by decide +kernel)
theorem wl_5_85 : (.code yX11_threats cX11_threats 1 (some .int) : Cond) ∈ sg_tbl := tb_5 _ (List.mem_of_getElem? (i := 85) (by decide +kernel)) (by decide +kernel)
theorem wl_5_83 : (.instanceMethod yX11_threats : Cond) ∈ sg_tbl := tb_5 _ (List.mem_of_getElem? (i := 83) (by decide +kernel)) (by decide +kernel)
theorem wl_5_84 : (.selects RX11 yX11_threats yX11_threats : Cond) ∈ sg_tbl := tb_5 _ (List.mem_of_getElem? (i := 84) (by decide +kernel)) (by decide +kernel)
theorem wl_5_90 : (.code yX11_cuts cX11_cuts 2 (some .int) : Cond) ∈ sg_tbl := tb_5 _ (List.mem_of_getElem? (i := 90) (by decide +kernel)) (by decide +kernel)
theorem wl_5_88 : (.instanceMethod yX11_cuts : Cond) ∈ sg_tbl := tb_5 _ (List.mem_of_getElem? (i := 88) (by decide +kernel)) (by decide +kernel)
theorem wl_5_89 : (.selects RX11 yX11_cuts yX11_cuts : Cond) ∈ sg_tbl := tb_5 _ (List.mem_of_getElem? (i := 89) (by decide +kernel)) (by decide +kernel)
theorem wl_5_95 : (.code yX11_answers cX11_answers 2 (some .int) : Cond) ∈ sg_tbl := tb_5 _ (List.mem_of_getElem? (i := 95) (by decide +kernel)) (by decide +kernel)
theorem wl_5_93 : (.instanceMethod yX11_answers : Cond) ∈ sg_tbl := tb_5 _ (List.mem_of_getElem? (i := 93) (by decide +kernel)) (by decide +kernel)
theorem wl_5_94 : (.selects RX11 yX11_answers yX11_answers : Cond) ∈ sg_tbl := tb_5 _ (List.mem_of_getElem? (i := 94) (by decide +kernel)) (by decide +kernel)
theorem wl_5_104 : (.code yX11_advice cX11_advice 2 (some .int) : Cond) ∈ sg_tbl := tb_5 _ (List.mem_of_getElem? (i := 104) (by decide +kernel)) (by decide +kernel)
theorem wl_5_102 : (.instanceMethod yX11_advice : Cond) ∈ sg_tbl := tb_5 _ (List.mem_of_getElem? (i := 102) (by decide +kernel)) (by decide +kernel)
theorem wl_5_103 : (.selects RX11 yX11_advice yX11_advice : Cond) ∈ sg_tbl := tb_5 _ (List.mem_of_getElem? (i := 103) (by decide +kernel)) (by decide +kernel)
theorem wl_5_112 : (.code yX11_openNight cX11_openNight 1 (some .boolean) : Cond) ∈ sg_tbl := tb_5 _ (List.mem_of_getElem? (i := 112) (by decide +kernel)) (by decide +kernel)
theorem wl_5_111 : (.instanceMethod yX11_openNight : Cond) ∈ sg_tbl := tb_5 _ (List.mem_of_getElem? (i := 111) (by decide +kernel)) (by decide +kernel)
theorem wl_0_34 : (.selects RX11 yX11_openNight yX11_openNight : Cond) ∈ sg_tbl := tb_0 _ (List.mem_of_getElem? (i := 34) (by decide +kernel)) (by decide +kernel)
theorem wl_5_108 : (.code yX11_holds cX11_holds 3 (some .int) : Cond) ∈ sg_tbl := tb_5 _ (List.mem_of_getElem? (i := 108) (by decide +kernel)) (by decide +kernel)
theorem wl_5_106 : (.instanceMethod yX11_holds : Cond) ∈ sg_tbl := tb_5 _ (List.mem_of_getElem? (i := 106) (by decide +kernel)) (by decide +kernel)
theorem wl_5_107 : (.selects RX11 yX11_holds yX11_holds : Cond) ∈ sg_tbl := tb_5 _ (List.mem_of_getElem? (i := 107) (by decide +kernel)) (by decide +kernel)
theorem wl_5_127 : (.code yX11_forced cX11_forced 1 (some .int) : Cond) ∈ sg_tbl := tb_5 _ (List.mem_of_getElem? (i := 127) (by decide +kernel)) (by decide +kernel)
theorem wl_5_125 : (.instanceMethod yX11_forced : Cond) ∈ sg_tbl := tb_5 _ (List.mem_of_getElem? (i := 125) (by decide +kernel)) (by decide +kernel)
theorem wl_5_126 : (.selects RX11 yX11_forced yX11_forced : Cond) ∈ sg_tbl := tb_5 _ (List.mem_of_getElem? (i := 126) (by decide +kernel)) (by decide +kernel)
theorem wl_5_131 : (.code yX11_meant cX11_meant 1 (some .int) : Cond) ∈ sg_tbl := tb_5 _ (List.mem_of_getElem? (i := 131) (by decide +kernel)) (by decide +kernel)
theorem wl_5_129 : (.instanceMethod yX11_meant : Cond) ∈ sg_tbl := tb_5 _ (List.mem_of_getElem? (i := 129) (by decide +kernel)) (by decide +kernel)
theorem wl_5_130 : (.selects RX11 yX11_meant yX11_meant : Cond) ∈ sg_tbl := tb_5 _ (List.mem_of_getElem? (i := 130) (by decide +kernel)) (by decide +kernel)
theorem wl_5_135 : (.code yX11_parts cX11_parts 2 (some .int) : Cond) ∈ sg_tbl := tb_5 _ (List.mem_of_getElem? (i := 135) (by decide +kernel)) (by decide +kernel)
theorem wl_5_133 : (.instanceMethod yX11_parts : Cond) ∈ sg_tbl := tb_5 _ (List.mem_of_getElem? (i := 133) (by decide +kernel)) (by decide +kernel)
theorem wl_5_134 : (.selects RX11 yX11_parts yX11_parts : Cond) ∈ sg_tbl := tb_5 _ (List.mem_of_getElem? (i := 134) (by decide +kernel)) (by decide +kernel)
theorem wl_5_216 : (.code yX11_book cX11_book 3 (some .int) : Cond) ∈ sg_tbl := tb_5 _ (List.mem_of_getElem? (i := 216) (by decide +kernel)) (by decide +kernel)
theorem wl_5_214 : (.instanceMethod yX11_book : Cond) ∈ sg_tbl := tb_5 _ (List.mem_of_getElem? (i := 214) (by decide +kernel)) (by decide +kernel)
theorem wl_5_215 : (.selects RX11 yX11_book yX11_book : Cond) ∈ sg_tbl := tb_5 _ (List.mem_of_getElem? (i := 215) (by decide +kernel)) (by decide +kernel)
section
variable {p : Program} {l : Launch} {e : Env} {R : Room} {s : State} {m : MethodId} {args : Array Value} {below : List Frame} {meth : Method} {c : Code} {H : Heap} {locs : List Loc} {cells slots : Nat} {Q : State → Prop} {cc : ByteArray} {nL pc : Nat} {ls : Array Slot} {rest : List Value} {own : String} {D : va_G} {A : Nat → Prop} {tys : List (ClassId × FieldType)} {ad ks : List Nat} {P : sgPm} {H0 : Heap} {index : Nat} {base : Nat} {st0 : List Value} {a : Nat}
theorem gf_X11_2   (X : CallFix p m c cc nL s args sg_tbl own) (hK : va_K D vwCl tys s) (hG : sgG (KT P) D vwCl A tys ad ks H) (ha : isK ad ks 11 a) (hl : Cond.fieldLink own index "LawnAhead" "gameShelf" "[LLawnAhead$Game;" ∈ sg_tbl) (hdg : decode cc pc = .ok (.getfield index, 3)) (kk : ∀ x : Nat, isK ad ks 44 x → fld D H 11 a 2 (.ref x) → W p l e R s m args below meth c H locs cells slots Q (F0 m (pc + 3) ls (.ref x :: rest))) : W p l e R s m args below meth c H locs cells slots Q (F0 m pc ls (.ref a :: rest)) :=
  sg_get X hK hG ha (k := 11) (ci := 11) rfl (C := RX11) (T := TX11) (N := 17) rfl inL_X11 2 (by decide) rfl hl (fun _ h => h) hdg (fun v hv hf => by
    obtain ⟨h1, -⟩ | ⟨x, rfl, hx⟩ := hv
    · cases h1
    · exact kk x hx hf)
theorem gf_X11_8   (X : CallFix p m c cc nL s args sg_tbl own) (hK : va_K D vwCl tys s) (hG : sgG (KT P) D vwCl A tys ad ks H) (ha : isK ad ks 11 a) (hl : Cond.fieldLink own index "LawnAhead" "ends" "LLawnAhead$Ends;" ∈ sg_tbl) (hdg : decode cc pc = .ok (.getfield index, 3)) (kk : ∀ x : Nat, isK ad ks 2 x → fld D H 11 a 8 (.ref x) → W p l e R s m args below meth c H locs cells slots Q (F0 m (pc + 3) ls (.ref x :: rest))) : W p l e R s m args below meth c H locs cells slots Q (F0 m pc ls (.ref a :: rest)) :=
  sg_get X hK hG ha (k := 11) (ci := 11) rfl (C := RX11) (T := TX11) (N := 17) rfl inL_X11 8 (by decide) rfl hl (fun _ h => h) hdg (fun v hv hf => by
    obtain ⟨h1, -⟩ | ⟨x, rfl, hx⟩ := hv
    · cases h1
    · exact kk x hx hf)
theorem gf_X11_9   (X : CallFix p m c cc nL s args sg_tbl own) (hK : va_K D vwCl tys s) (hG : sgG (KT P) D vwCl A tys ad ks H) (ha : isK ad ks 11 a) (hl : Cond.fieldLink own index "LawnAhead" "books" "LLawnAhead$Books;" ∈ sg_tbl) (hdg : decode cc pc = .ok (.getfield index, 3)) (kk : ∀ x : Nat, isK ad ks 1 x → fld D H 11 a 9 (.ref x) → W p l e R s m args below meth c H locs cells slots Q (F0 m (pc + 3) ls (.ref x :: rest))) : W p l e R s m args below meth c H locs cells slots Q (F0 m pc ls (.ref a :: rest)) :=
  sg_get X hK hG ha (k := 11) (ci := 11) rfl (C := RX11) (T := TX11) (N := 17) rfl inL_X11 9 (by decide) rfl hl (fun _ h => h) hdg (fun v hv hf => by
    obtain ⟨h1, -⟩ | ⟨x, rfl, hx⟩ := hv
    · cases h1
    · exact kk x hx hf)
theorem gf_X7_8   (X : CallFix p m c cc nL s args sg_tbl own) (hK : va_K D vwCl tys s) (hG : sgG (KT P) D vwCl A tys ad ks H) (ha : isK ad ks 7 a) (hl : Cond.fieldLink own index "LawnAhead$Play" "foundCode" "I" ∈ sg_tbl) (hdg : decode cc pc = .ok (.getfield index, 3)) (kk : ∀ x : Int32, iv (-2147483648) 2147483647 x → fld D H 7 a 8 (.int x) → W p l e R s m args below meth c H locs cells slots Q (F0 m (pc + 3) ls (.int x :: rest))) : W p l e R s m args below meth c H locs cells slots Q (F0 m pc ls (.ref a :: rest)) :=
  sg_get X hK hG ha (k := 7) (ci := 7) rfl (C := RX7) (T := TX7) (N := 9) rfl inL_X7 8 (by decide) rfl hl (fun _ h => h) hdg (fun v hv hf => by obtain ⟨x, rfl, hx⟩ := hv; exact kk x hx hf)
theorem gg_X11_2   (X : CallFix p m c cc nL s args sg_tbl own) (hK : va_K D vwCl tys s) (hG : sgG (KT P) D vwCl A tys ad ks H) (ha : isK ad ks 11 a) (hl : Cond.fieldLink own index "LawnAhead" "gameShelf" "[LLawnAhead$Game;" ∈ sg_tbl) {v : Value} (hf : fld D H 11 a 2 v) (hdg : decode cc pc = .ok (.getfield index, 3)) (kk : W p l e R s m args below meth c H locs cells slots Q (F0 m (pc + 3) ls (v :: rest))) : W p l e R s m args below meth c H locs cells slots Q (F0 m pc ls (.ref a :: rest)) :=
  sg_getf X hK hG ha (k := 11) (ci := 11) rfl (C := RX11) (T := TX11) (N := 17) rfl inL_X11 2 (by decide) (show 2 < 17 by decide) hl (fun _ h => h) hf hdg kk
theorem gg_X11_5   (X : CallFix p m c cc nL s args sg_tbl own) (hK : va_K D vwCl tys s) (hG : sgG (KT P) D vwCl A tys ad ks H) (ha : isK ad ks 11 a) (hl : Cond.fieldLink own index "LawnAhead" "sight" "LLawnAhead$Sight;" ∈ sg_tbl) {v : Value} (hf : fld D H 11 a 5 v) (hdg : decode cc pc = .ok (.getfield index, 3)) (kk : W p l e R s m args below meth c H locs cells slots Q (F0 m (pc + 3) ls (v :: rest))) : W p l e R s m args below meth c H locs cells slots Q (F0 m pc ls (.ref a :: rest)) :=
  sg_getf X hK hG ha (k := 11) (ci := 11) rfl (C := RX11) (T := TX11) (N := 17) rfl inL_X11 5 (by decide) (show 5 < 17 by decide) hl (fun _ h => h) hf hdg kk
theorem gg_X11_8   (X : CallFix p m c cc nL s args sg_tbl own) (hK : va_K D vwCl tys s) (hG : sgG (KT P) D vwCl A tys ad ks H) (ha : isK ad ks 11 a) (hl : Cond.fieldLink own index "LawnAhead" "ends" "LLawnAhead$Ends;" ∈ sg_tbl) {v : Value} (hf : fld D H 11 a 8 v) (hdg : decode cc pc = .ok (.getfield index, 3)) (kk : W p l e R s m args below meth c H locs cells slots Q (F0 m (pc + 3) ls (v :: rest))) : W p l e R s m args below meth c H locs cells slots Q (F0 m pc ls (.ref a :: rest)) :=
  sg_getf X hK hG ha (k := 11) (ci := 11) rfl (C := RX11) (T := TX11) (N := 17) rfl inL_X11 8 (by decide) (show 8 < 17 by decide) hl (fun _ h => h) hf hdg kk
theorem al_44  {i : Int32}  (X : CallFix p m c cc nL s args sg_tbl own) (hK : va_K D vwCl tys s) (hG : sgG (KT P) D vwCl A tys ad ks H) (ha : isK ad ks 44 a) (hin : vp_in i 5) (hdg : decode cc pc = .ok (.aaload, 1)) (kk : ∀ x : Nat, isK ad ks 3 x → W p l e R s m args below meth c H locs cells slots Q (F0 m (pc + 1) ls (.ref x :: rest))) : W p l e R s m args below meth c H locs cells slots Q (F0 m pc ls (.int i :: .ref a :: rest)) :=
  sg_aald X hK hG ha (k := 44) rfl hin hdg (fun v hv => by rcases hv with ⟨h1, -⟩ | ⟨x, rfl, hx⟩ <;> first | (cases h1; done) | exact kk x hx)
set_option maxHeartbeats 8000000 in
set_option maxRecDepth 100000 in
theorem m_X11_move (l : Launch) {D : va_G} {base : Nat} {tys : List (ClassId × FieldType)} {ad ks : List Nat} {P : sgPm} (a0 : Nat) (h0 : isK ad ks 11 a0) (x1 : Int32) (x2 : Int32) (x3 : Int32) : sgMi l (KT P) D vwCl base tys ad ks yX11_move cX11_move 4 (some .int) ({ frames := 1, cells := 0, slots := 0, locals := 21 }) [.ref a0, .int x1, .int x2, .int x3] (fun r : Int32 => True) := by
  refine sg_ofW (by decide +kernel) (Nat.le_of_ble_eq_true rfl) (fun p e s m below meth c X hr hlk hb hK hC hG ls hl => ?_)
  have hS : va_S (fun q : Nat => base ≤ q) s.heap s.heap [] := va_S.rf
  have hl : lv_has ls 4 [(0, .ref a0), (1, .int x1), (2, .int x2), (3, .int x3)] := hl
  refine lv_aload_n X.1 X.2.1 dX11_move_0 rfl (lv_at hl 0 rfl) ?_
  refine lv_iload_n X.1 X.2.1 dX11_move_1 rfl (lv_at hl 1 rfl) ?_
  refine ca_X11_isGame X hK hG hC (fun _ h => h) hS hb a0 h0 x1 wl_5_21 hl.1 (rest := []) rfl (Nat.le_of_ble_eq_true rfl) ⟨Nat.le_of_ble_eq_true rfl, Nat.le_of_ble_eq_true rfl⟩ ⟨Nat.le_of_ble_eq_true rfl, Nat.le_of_ble_eq_true rfl⟩ dX11_move_2 (fun f1 locs hf1 hS => ?_)
  refine lv_if_eq (tgt := 34) X.1 X.2.1 dX11_move_5 (by decide) (fun c2 => ?_) (fun c2 => ?_)
  · refine lv_ldcw X.1 X.2.1 X.2.2.2.1 (X.2.2.2.2 _ wl_5_9) dX11_move_34 ?_
    exact sg_iret X hr hlk hb hK hC hG hS trivial dX11_move_37
  · refine lv_iload_n X.1 X.2.1 dX11_move_8 rfl (lv_at hl 2 rfl) ?_
    refine lv_if_lt (tgt := 34) X.1 X.2.1 dX11_move_9 (by decide) (fun c3 => ?_) (fun c3 => ?_)
    · refine lv_ldcw X.1 X.2.1 X.2.2.2.1 (X.2.2.2.2 _ wl_5_9) dX11_move_34 ?_
      exact sg_iret X hr hlk hb hK hC hG hS trivial dX11_move_37
    · refine lv_iload_n X.1 X.2.1 dX11_move_12 rfl (lv_at hl 2 rfl) ?_
      refine lv_aload_n X.1 X.2.1 dX11_move_13 rfl (lv_at hl 0 rfl) ?_
      refine gf_X11_2 X hK hG h0 wl_2_197 dX11_move_14 (fun q4 hq4 kq4 => ?_)
      refine lv_iload_n X.1 X.2.1 dX11_move_17 rfl (lv_at hl 1 rfl) ?_
      refine al_44 X hK hG hq4 (iv_vpin (hf1.2 c2) (by decide +kernel)) dX11_move_18 (fun q5 hq5 => ?_)
      refine gf_X3_1 X hK hG hq5 wl_1_99 dX11_move_19 (fun f6 hf6 kf6 => ?_)
      refine lv_icmp_ge (tgt := 34) X.1 X.2.1 dX11_move_22 (by decide) (fun c7 => ?_) (fun c7 => ?_)
      · refine lv_ldcw X.1 X.2.1 X.2.2.2.1 (X.2.2.2.2 _ wl_5_9) dX11_move_34 ?_
        exact sg_iret X hr hlk hb hK hC hG hS trivial dX11_move_37
      · refine lv_iload_n X.1 X.2.1 dX11_move_25 rfl (lv_at hl 3 rfl) ?_
        refine lv_if_lt (tgt := 34) X.1 X.2.1 dX11_move_26 (by decide) (fun c8 => ?_) (fun c8 => ?_)
        · refine lv_ldcw X.1 X.2.1 X.2.2.2.1 (X.2.2.2.2 _ wl_5_9) dX11_move_34 ?_
          exact sg_iret X hr hlk hb hK hC hG hS trivial dX11_move_37
        · refine lv_iload_n X.1 X.2.1 dX11_move_29 rfl (lv_at hl 3 rfl) ?_
          refine lv_iconst (v := 3) X.1 X.2.1 dX11_move_30 (by decide +kernel) ?_
          refine lv_icmp_le (tgt := 38) X.1 X.2.1 dX11_move_31 (by decide) (fun c9 => ?_) (fun c9 => ?_)
          · refine lv_aload_n X.1 X.2.1 dX11_move_38 rfl (lv_at hl 0 rfl) ?_
            refine gg_X11_2 X hK hG h0 wl_2_197 kq4 dX11_move_39 ?_
            refine lv_iload_n X.1 X.2.1 dX11_move_42 rfl (lv_at hl 1 rfl) ?_
            refine al_44 X hK hG hq4 (iv_vpin (hf1.2 c2) (by decide +kernel)) dX11_move_43 (fun q10 hq10 => ?_)
            refine gf_X3_0 X hK hG hq10 wl_1_96 dX11_move_44 (fun q11 hq11 kq11 => ?_)
            refine lv_iload_n X.1 X.2.1 dX11_move_47 rfl (lv_at hl 2 rfl) ?_
            refine al_20 X hK hG hq11 (iv_vpin (iv_lt (b' := 15) (iv_gt_of c7) (iv_ler (c' := 0) (iv_ge_of c3) (iv_c 0 (a := 0) (b := 0) (by decide +kernel)) (iv_top x2) (by decide +kernel)) hf6 (by decide +kernel)) (by decide +kernel)) dX11_move_48 (fun f12 hf12 => ?_)
            refine lv_iload_n X.1 X.2.1 dX11_move_49 rfl (lv_at hl 3 rfl) ?_
            refine ca_X3_unpacked X hK hG hC (fun _ h => h) hS hb f12 x3 wl_5_14 hl.1 (rest := []) rfl (Nat.le_of_ble_eq_true rfl) ⟨Nat.le_of_ble_eq_true rfl, Nat.le_of_ble_eq_true rfl⟩ ⟨Nat.le_of_ble_eq_true rfl, Nat.le_of_ble_eq_true rfl⟩ dX11_move_50 (fun f13 locs hf13 hS => ?_)
            exact sg_iret X hr hlk hb hK hC hG hS trivial dX11_move_53
          · refine lv_ldcw X.1 X.2.1 X.2.2.2.1 (X.2.2.2.2 _ wl_5_9) dX11_move_34 ?_
            exact sg_iret X hr hlk hb hK hC hG hS trivial dX11_move_37

theorem ca_X11_move   (X : CallFix p m c cc nL s args sg_tbl own) (hK : va_K D vwCl tys s) (hG : sgG (KT P) D vwCl (fun q : Nat => base ≤ q) tys ad ks H) (hC : sgC base s) (hS : va_S (fun q : Nat => base ≤ q) s.heap H locs) (hb : base ≤ s.heap.size) (a0 : Nat) (h0 : isK ad ks 11 a0) (x1 : Int32) (x2 : Int32) (x3 : Int32) (hl : Cond.methodLink own index yX11_move ∈ sg_tbl) (hsize : ls.size = nL) (hst : st0 = [.int x1, .int x2, .int x3].reverse ++ .ref a0 :: rest) (hW : (rest.map fun v => v.category).sum ≤ 8) (hR : 2 ≤ R.frames ∧ 44 ≤ R.locals) (hf : cells ≤ R.cells ∧ slots ≤ R.slots) (hdg : decode cc pc = .ok (.invokevirtual index, 3)) (kk : ∀ (r : Int32) (H1 : Heap) (locs1 : List Loc), (fun r : Int32 => True) r → sgG (KT P) D vwCl (fun q : Nat => base ≤ q) tys ad ks H1 → va_S (fun q : Nat => base ≤ q) s.heap H1 locs1 → W p l e R s m args below meth c H1 locs1 cells slots Q (F0 m (pc + 3) ls (.int r :: rest))) : W p l e R s m args below meth c H locs cells slots Q (F0 m pc ls st0) :=
  sg_callVi X hK hG hC hS hb (m_X11_move l a0 h0 x1 x2 x3) h0 (k := 11) (ci := 11) rfl (C := RX11) (T := TX11) (N := 17) rfl wl_5_20 wl_1_1 wl_5_18 wl_5_19 (n := 3) (by decide +kernel) rfl rfl rfl hl hsize hst hW hR hf hdg kk

set_option maxHeartbeats 8000000 in
set_option maxRecDepth 100000 in
theorem m_X11_run (l : Launch) {D : va_G} {base : Nat} {tys : List (ClassId × FieldType)} {ad ks : List Nat} {P : sgPm} (a0 : Nat) (h0 : isK ad ks 11 a0) (x1 : Int32) : sgMi l (KT P) D vwCl base tys ad ks yX11_run cX11_run 3 (some .int) ({ frames := 7, cells := 0, slots := 0, locals := 180 }) [.ref a0, .int x1] (fun r : Int32 => True) := by
  refine sg_ofW (by decide +kernel) (Nat.le_of_ble_eq_true rfl) (fun p e s m below meth c X hr hlk hb hK hC hG ls hl => ?_)
  have hS : va_S (fun q : Nat => base ≤ q) s.heap s.heap [] := va_S.rf
  have hl : lv_has ls 3 [(0, .ref a0), (1, .int x1)] := hl
  refine lv_aload_n X.1 X.2.1 dX11_run_0 rfl (lv_at hl 0 rfl) ?_
  refine lv_iload_n X.1 X.2.1 dX11_run_1 rfl (lv_at hl 1 rfl) ?_
  refine ca_X11_isGame X hK hG hC (fun _ h => h) hS hb a0 h0 x1 wl_5_21 hl.1 (rest := []) rfl (Nat.le_of_ble_eq_true rfl) ⟨Nat.le_of_ble_eq_true rfl, Nat.le_of_ble_eq_true rfl⟩ ⟨Nat.le_of_ble_eq_true rfl, Nat.le_of_ble_eq_true rfl⟩ dX11_run_2 (fun f1 locs hf1 hS => ?_)
  refine lv_if_eq (tgt := 15) X.1 X.2.1 dX11_run_5 (by decide) (fun c2 => ?_) (fun c2 => ?_)
  · refine lv_ldcw X.1 X.2.1 X.2.2.2.1 (X.2.2.2.2 _ wl_5_9) dX11_run_15 ?_
    exact sg_iret X hr hlk hb hK hC hG hS trivial dX11_run_18
  · refine lv_aload_n X.1 X.2.1 dX11_run_8 rfl (lv_at hl 0 rfl) ?_
    refine ca_X11_noLawn X hK hG hC (fun _ h => h) hS hb a0 h0 wl_4_74 hl.1 (rest := []) rfl (Nat.le_of_ble_eq_true rfl) ⟨Nat.le_of_ble_eq_true rfl, Nat.le_of_ble_eq_true rfl⟩ ⟨Nat.le_of_ble_eq_true rfl, Nat.le_of_ble_eq_true rfl⟩ dX11_run_9 (fun f3 locs hf3 hS => ?_)
    refine lv_if_eq (tgt := 19) X.1 X.2.1 dX11_run_12 (by decide) (fun c4 => ?_) (fun c4 => ?_)
    · refine lv_aload_n X.1 X.2.1 dX11_run_19 rfl (lv_at hl 0 rfl) ?_
      refine gf_X11_6 X hK hG h0 wl_2_201 dX11_run_20 (fun q5 hq5 kq5 => ?_)
      refine lv_aload_n X.1 X.2.1 dX11_run_23 rfl (lv_at hl 0 rfl) ?_
      refine gf_X11_2 X hK hG h0 wl_2_197 dX11_run_24 (fun q6 hq6 kq6 => ?_)
      refine lv_iload_n X.1 X.2.1 dX11_run_27 rfl (lv_at hl 1 rfl) ?_
      refine al_44 X hK hG hq6 (iv_vpin (hf1.2 c2) (by decide +kernel)) dX11_run_28 (fun q7 hq7 => ?_)
      refine lv_aload_n X.1 X.2.1 dX11_run_29 rfl (lv_at hl 0 rfl) ?_
      refine gf_X11_3 X hK hG h0 wl_2_198 dX11_run_30 (fun q8 hq8 kq8 => ?_)
      refine ca_X7_runApart X hK hG hC hS hb q5 hq5 q7 hq7 q8 hq8 wl_5_29 hl.1 (rest := []) rfl (Nat.le_of_ble_eq_true rfl) ⟨Nat.le_of_ble_eq_true rfl, Nat.le_of_ble_eq_true rfl⟩ ⟨Nat.le_of_ble_eq_true rfl, Nat.le_of_ble_eq_true rfl⟩ dX11_run_33 (fun f9 H locs hf9 hG hS => ?_)
      refine lv_istore_n (lv' := [(2, .int f9), (0, .ref a0), (1, .int x1)]) X.1 X.2.1 dX11_run_36 rfl hl (by decide) rfl (fun ls hl => ?_)
      refine lv_iload_n X.1 X.2.1 dX11_run_37 rfl (lv_at hl 0 rfl) ?_
      refine lv_aload_n X.1 X.2.1 dX11_run_38 rfl (lv_at hl 1 rfl) ?_
      refine gf_X11_2 X hK hG h0 wl_2_197 dX11_run_39 (fun q10 hq10 kq10 => ?_)
      refine lv_iload_n X.1 X.2.1 dX11_run_42 rfl (lv_at hl 2 rfl) ?_
      refine al_44 X hK hG hq10 (iv_vpin (hf1.2 c2) (by decide +kernel)) dX11_run_43 (fun q11 hq11 => ?_)
      refine gf_X3_1 X hK hG hq11 wl_1_99 dX11_run_44 (fun f12 hf12 kf12 => ?_)
      refine lv_icmp_ne (tgt := 54) X.1 X.2.1 dX11_run_47 (by decide) (fun c13 => ?_) (fun c13 => ?_)
      · refine lv_iload_n X.1 X.2.1 dX11_run_54 rfl (lv_at hl 0 rfl) ?_
        exact sg_iret X hr hlk hb hK hC hG hS trivial dX11_run_55
      · refine lv_iconst (v := (-1)) X.1 X.2.1 dX11_run_50 (by decide +kernel) ?_
        refine lv_goto (tgt := 55) X.1 X.2.1 dX11_run_51 (by decide) ?_
        exact sg_iret X hr hlk hb hK hC hG hS trivial dX11_run_55
    · refine lv_ldcw X.1 X.2.1 X.2.2.2.1 (X.2.2.2.2 _ wl_5_9) dX11_run_15 ?_
      exact sg_iret X hr hlk hb hK hC hG hS trivial dX11_run_18

theorem ca_X11_run   (X : CallFix p m c cc nL s args sg_tbl own) (hK : va_K D vwCl tys s) (hG : sgG (KT P) D vwCl (fun q : Nat => base ≤ q) tys ad ks H) (hC : sgC base s) (hS : va_S (fun q : Nat => base ≤ q) s.heap H locs) (hb : base ≤ s.heap.size) (a0 : Nat) (h0 : isK ad ks 11 a0) (x1 : Int32) (hl : Cond.methodLink own index yX11_run ∈ sg_tbl) (hsize : ls.size = nL) (hst : st0 = [.int x1].reverse ++ .ref a0 :: rest) (hW : (rest.map fun v => v.category).sum ≤ 8) (hR : 8 ≤ R.frames ∧ 202 ≤ R.locals) (hf : cells ≤ R.cells ∧ slots ≤ R.slots) (hdg : decode cc pc = .ok (.invokevirtual index, 3)) (kk : ∀ (r : Int32) (H1 : Heap) (locs1 : List Loc), (fun r : Int32 => True) r → sgG (KT P) D vwCl (fun q : Nat => base ≤ q) tys ad ks H1 → va_S (fun q : Nat => base ≤ q) s.heap H1 locs1 → W p l e R s m args below meth c H1 locs1 cells slots Q (F0 m (pc + 3) ls (.int r :: rest))) : W p l e R s m args below meth c H locs cells slots Q (F0 m pc ls st0) :=
  sg_callVi X hK hG hC hS hb (m_X11_run l a0 h0 x1) h0 (k := 11) (ci := 11) rfl (C := RX11) (T := TX11) (N := 17) rfl wl_5_28 wl_1_1 wl_5_26 wl_5_27 (n := 1) (by decide +kernel) rfl rfl rfl hl hsize hst hW hR hf hdg kk

set_option maxHeartbeats 8000000 in
set_option maxRecDepth 100000 in
theorem m_X11_perform (l : Launch) {D : va_G} {base : Nat} {tys : List (ClassId × FieldType)} {ad ks : List Nat} {P : sgPm} (a0 : Nat) (h0 : isK ad ks 11 a0) (x1 : Int32) : sgMi l (KT P) D vwCl base tys ad ks yX11_perform cX11_perform 6 (some .int) ({ frames := 6, cells := 0, slots := 0, locals := 155 }) [.ref a0, .int x1] (fun r : Int32 => True) := by
  refine sg_ofW (by decide +kernel) (Nat.le_of_ble_eq_true rfl) (fun p e s m below meth c X hr hlk hb hK hC hG ls hl => ?_)
  have hS : va_S (fun q : Nat => base ≤ q) s.heap s.heap [] := va_S.rf
  have hl : lv_has ls 6 [(0, .ref a0), (1, .int x1)] := hl
  refine lv_aload_n X.1 X.2.1 dX11_perform_0 rfl (lv_at hl 0 rfl) ?_
  refine lv_iload_n X.1 X.2.1 dX11_perform_1 rfl (lv_at hl 1 rfl) ?_
  refine ca_X11_isGame X hK hG hC (fun _ h => h) hS hb a0 h0 x1 wl_5_21 hl.1 (rest := []) rfl (Nat.le_of_ble_eq_true rfl) ⟨Nat.le_of_ble_eq_true rfl, Nat.le_of_ble_eq_true rfl⟩ ⟨Nat.le_of_ble_eq_true rfl, Nat.le_of_ble_eq_true rfl⟩ dX11_perform_2 (fun f1 locs hf1 hS => ?_)
  refine lv_if_eq (tgt := 15) X.1 X.2.1 dX11_perform_5 (by decide) (fun c2 => ?_) (fun c2 => ?_)
  · refine lv_iconst (v := (-1)) X.1 X.2.1 dX11_perform_15 (by decide +kernel) ?_
    exact sg_iret X hr hlk hb hK hC hG hS trivial dX11_perform_16
  · refine lv_aload_n X.1 X.2.1 dX11_perform_8 rfl (lv_at hl 0 rfl) ?_
    refine ca_X11_noLawn X hK hG hC (fun _ h => h) hS hb a0 h0 wl_4_74 hl.1 (rest := []) rfl (Nat.le_of_ble_eq_true rfl) ⟨Nat.le_of_ble_eq_true rfl, Nat.le_of_ble_eq_true rfl⟩ ⟨Nat.le_of_ble_eq_true rfl, Nat.le_of_ble_eq_true rfl⟩ dX11_perform_9 (fun f3 locs hf3 hS => ?_)
    refine lv_if_eq (tgt := 17) X.1 X.2.1 dX11_perform_12 (by decide) (fun c4 => ?_) (fun c4 => ?_)
    · refine lv_aload_n X.1 X.2.1 dX11_perform_17 rfl (lv_at hl 0 rfl) ?_
      refine gf_X11_2 X hK hG h0 wl_2_197 dX11_perform_18 (fun q5 hq5 kq5 => ?_)
      refine lv_iload_n X.1 X.2.1 dX11_perform_21 rfl (lv_at hl 1 rfl) ?_
      refine al_44 X hK hG hq5 (iv_vpin (hf1.2 c2) (by decide +kernel)) dX11_perform_22 (fun q6 hq6 => ?_)
      refine lv_astore_n (lv' := [(2, .ref q6), (0, .ref a0), (1, .int x1)]) X.1 X.2.1 dX11_perform_23 rfl hl (by decide) rfl (fun ls hl => ?_)
      refine lv_iconst (v := 0) X.1 X.2.1 dX11_perform_24 (by decide +kernel) ?_
      refine lv_istore_n (lv' := [(3, .int 0), (2, .ref q6), (0, .ref a0), (1, .int x1)]) X.1 X.2.1 dX11_perform_25 rfl hl (by decide) rfl (fun ls hl => ?_)
      have B7_26 : ∀ (N : Nat) (H : Heap) (locs : List Loc) (ls : Array Slot) (z7_3 : Int32), sgG (KT P) D vwCl (fun q : Nat => base ≤ q) tys ad ks H → va_S (fun q : Nat => base ≤ q) s.heap H locs → lv_has ls 6 [(0, .ref a0), (2, .ref q6), (3, .int z7_3)] → iv 0 16 z7_3 → (17 - z7_3.toInt).toNat ≤ N → W p l e (headSpec (Cond.code yX11_perform cX11_perform 6 (some .int) :: sg_tbl) ({ frames := 6, cells := 0, slots := 0, locals := 155 })).room s m #[.ref a0, .int x1] below meth c H locs 0 0 (MQ below (va_Qi (fun r (_ : Unit) => (fun r : Int32 => True) r) (fun _ => sgB (KT P) D vwCl base tys ad ks) (fun q : Nat => base ≤ q)) #[.ref a0, .int x1] s 0 0 (fun q : Nat => base ≤ q)) (F0 m 26 ls []) := by
        intro N; induction N with
        | zero =>
          intro H locs ls z7_3 hG hS hl hz7_3 hN
          exact absurd hN (by have := iv_up hz7_3; omega)
        | succ N ih7 =>
          intro H locs ls z7_3 hG hS hl hz7_3 hN7
          refine lv_iload_n X.1 X.2.1 dX11_perform_26 rfl (lv_at hl 2 rfl) ?_
          refine lv_aload_n X.1 X.2.1 dX11_perform_27 rfl (lv_at hl 1 rfl) ?_
          refine gf_X3_1 X hK hG hq6 wl_1_99 dX11_perform_28 (fun f8 hf8 kf8 => ?_)
          refine lv_icmp_ge (tgt := 92) X.1 X.2.1 dX11_perform_31 (by decide) (fun c9 => ?_) (fun c9 => ?_)
          · refine lv_aload_n X.1 X.2.1 dX11_perform_92 rfl (lv_at hl 1 rfl) ?_
            refine gg_X3_1 X hK hG hq6 wl_1_99 kf8 dX11_perform_93 ?_
            exact sg_iret X hr hlk hb hK hC hG hS trivial dX11_perform_96
          · refine lv_aload_n X.1 X.2.1 dX11_perform_34 rfl (lv_at hl 1 rfl) ?_
            refine gf_X3_0 X hK hG hq6 wl_1_96 dX11_perform_35 (fun q10 hq10 kq10 => ?_)
            refine lv_iload_n X.1 X.2.1 dX11_perform_38 rfl (lv_at hl 2 rfl) ?_
            refine al_20 X hK hG hq10 (iv_vpin (iv_lt (b' := 15) (iv_gt_of c9) hz7_3 hf8 (by decide +kernel)) (by decide +kernel)) dX11_perform_39 (fun f11 hf11 => ?_)
            refine lv_istore (lv' := [(4, .int f11), (0, .ref a0), (2, .ref q6), (3, .int z7_3)]) X.1 X.2.1 dX11_perform_40 hl (by decide) rfl (fun ls hl => ?_)
            refine lv_aload_n X.1 X.2.1 dX11_perform_42 rfl (lv_at hl 1 rfl) ?_
            refine gf_X11_6 X hK hG h0 wl_2_201 dX11_perform_43 (fun q12 hq12 kq12 => ?_)
            refine lv_aload_n X.1 X.2.1 dX11_perform_46 rfl (lv_at hl 1 rfl) ?_
            refine gf_X11_3 X hK hG h0 wl_2_198 dX11_perform_47 (fun q13 hq13 kq13 => ?_)
            refine lv_iload X.1 X.2.1 dX11_perform_50 (lv_at hl 0 rfl) ?_
            refine ca_X7_cellOf X hK hG hC hS hb q12 hq12 q13 hq13 f11 wl_5_56 hl.1 (rest := []) rfl (Nat.le_of_ble_eq_true rfl) ⟨Nat.le_of_ble_eq_true rfl, Nat.le_of_ble_eq_true rfl⟩ ⟨Nat.le_of_ble_eq_true rfl, Nat.le_of_ble_eq_true rfl⟩ dX11_perform_52 (fun f14 H locs hf14 hG hS => ?_)
            refine lv_istore (lv' := [(5, .int f14), (4, .int f11), (0, .ref a0), (2, .ref q6), (3, .int z7_3)]) X.1 X.2.1 dX11_perform_55 hl (by decide) rfl (fun ls hl => ?_)
            refine lv_aload_n X.1 X.2.1 dX11_perform_57 rfl (lv_at hl 2 rfl) ?_
            refine lv_iload X.1 X.2.1 dX11_perform_58 (lv_at hl 1 rfl) ?_
            refine lv_iconst (v := 0) X.1 X.2.1 dX11_perform_60 (by decide +kernel) ?_
            refine ca_X3_unpacked X hK hG hC (fun _ h => h) hS hb f11 0 wl_5_14 hl.1 (rest := [.ref a0]) rfl (Nat.le_of_ble_eq_true rfl) ⟨Nat.le_of_ble_eq_true rfl, Nat.le_of_ble_eq_true rfl⟩ ⟨Nat.le_of_ble_eq_true rfl, Nat.le_of_ble_eq_true rfl⟩ dX11_perform_61 (fun f15 locs hf15 hS => ?_)
            refine lv_iload X.1 X.2.1 dX11_perform_64 (lv_at hl 0 rfl) ?_
            refine lv_iload X.1 X.2.1 dX11_perform_66 (lv_at hl 1 rfl) ?_
            refine lv_iconst (v := 2) X.1 X.2.1 dX11_perform_68 (by decide +kernel) ?_
            refine ca_X3_unpacked X hK hG hC (fun _ h => h) hS hb f11 2 wl_5_14 hl.1 (rest := [.int f14, .int f15, .ref a0]) rfl (Nat.le_of_ble_eq_true rfl) ⟨Nat.le_of_ble_eq_true rfl, Nat.le_of_ble_eq_true rfl⟩ ⟨Nat.le_of_ble_eq_true rfl, Nat.le_of_ble_eq_true rfl⟩ dX11_perform_69 (fun f16 locs hf16 hS => ?_)
            refine lv_iload X.1 X.2.1 dX11_perform_72 (lv_at hl 1 rfl) ?_
            refine lv_iconst (v := 3) X.1 X.2.1 dX11_perform_74 (by decide +kernel) ?_
            refine ca_X3_unpacked X hK hG hC (fun _ h => h) hS hb f11 3 wl_5_14 hl.1 (rest := [.int f16, .int f14, .int f15, .ref a0]) rfl (Nat.le_of_ble_eq_true rfl) ⟨Nat.le_of_ble_eq_true rfl, Nat.le_of_ble_eq_true rfl⟩ ⟨Nat.le_of_ble_eq_true rfl, Nat.le_of_ble_eq_true rfl⟩ dX11_perform_75 (fun f17 locs hf17 hS => ?_)
            refine ca_X11_act X hK hG hC hS hb a0 h0 f15 f14 f16 f17 wl_4_90 hl.1 (rest := []) rfl (Nat.le_of_ble_eq_true rfl) ⟨Nat.le_of_ble_eq_true rfl, Nat.le_of_ble_eq_true rfl⟩ ⟨Nat.le_of_ble_eq_true rfl, Nat.le_of_ble_eq_true rfl⟩ dX11_perform_78 (fun f18 H locs hf18 hG hS => ?_)
            refine lv_if_ne (tgt := 86) X.1 X.2.1 dX11_perform_81 (by decide) (fun c19 => ?_) (fun c19 => ?_)
            · obtain ⟨y20, ey20⟩ : ∃ y : Int32, y = z7_3 + Int32.ofInt 1 := ⟨_, rfl⟩
              refine lv_iinc (v := y20) (lv' := [(3, .int y20), (5, .int f14), (4, .int f11), (0, .ref a0), (2, .ref q6)]) X.1 X.2.1 dX11_perform_86 hl (k := 4) rfl ey20.symm (by decide) rfl (fun ls hl => ?_)
              refine lv_goto (tgt := 26) X.1 X.2.1 dX11_perform_89 (by decide) ?_
              exact ih7 H _ _ y20 hG hS (lv_sub hl [3, 4, 0] rfl) (iv_of (iv_add (a' := 1) (b' := 16) ey20 (iv_lt (b' := 15) (iv_gt_of c9) hz7_3 hf8 (by decide +kernel)) (iv_c _ (a := 1) (b := 1) (by decide +kernel)) (by decide +kernel)) (a' := 0) (b' := 16) (by decide +kernel)) (iv_stepU ey20 (iv_lt (b' := 15) (iv_gt_of c9) hz7_3 hf8 (by decide +kernel)) (by decide +kernel) hN7)
            · refine lv_iload_n X.1 X.2.1 dX11_perform_84 rfl (lv_at hl 4 rfl) ?_
              exact sg_iret X hr hlk hb hK hC hG hS trivial dX11_perform_85
      exact B7_26 _ s.heap _ _ 0 hG hS (lv_sub hl [2, 1, 0] rfl) (iv_of (iv_c 0 (a := 0) (b := 0) (by decide +kernel)) (a' := 0) (b' := 16) (by decide +kernel)) (Nat.le_refl _)
    · refine lv_iconst (v := (-1)) X.1 X.2.1 dX11_perform_15 (by decide +kernel) ?_
      exact sg_iret X hr hlk hb hK hC hG hS trivial dX11_perform_16

theorem ca_X11_perform   (X : CallFix p m c cc nL s args sg_tbl own) (hK : va_K D vwCl tys s) (hG : sgG (KT P) D vwCl (fun q : Nat => base ≤ q) tys ad ks H) (hC : sgC base s) (hS : va_S (fun q : Nat => base ≤ q) s.heap H locs) (hb : base ≤ s.heap.size) (a0 : Nat) (h0 : isK ad ks 11 a0) (x1 : Int32) (hl : Cond.methodLink own index yX11_perform ∈ sg_tbl) (hsize : ls.size = nL) (hst : st0 = [.int x1].reverse ++ .ref a0 :: rest) (hW : (rest.map fun v => v.category).sum ≤ 8) (hR : 7 ≤ R.frames ∧ 180 ≤ R.locals) (hf : cells ≤ R.cells ∧ slots ≤ R.slots) (hdg : decode cc pc = .ok (.invokevirtual index, 3)) (kk : ∀ (r : Int32) (H1 : Heap) (locs1 : List Loc), (fun r : Int32 => True) r → sgG (KT P) D vwCl (fun q : Nat => base ≤ q) tys ad ks H1 → va_S (fun q : Nat => base ≤ q) s.heap H1 locs1 → W p l e R s m args below meth c H1 locs1 cells slots Q (F0 m (pc + 3) ls (.int r :: rest))) : W p l e R s m args below meth c H locs cells slots Q (F0 m pc ls st0) :=
  sg_callVi X hK hG hC hS hb (m_X11_perform l a0 h0 x1) h0 (k := 11) (ci := 11) rfl (C := RX11) (T := TX11) (N := 17) rfl wl_5_55 wl_1_1 wl_5_53 wl_5_54 (n := 1) (by decide +kernel) rfl rfl rfl hl hsize hst hW hR hf hdg kk

set_option maxHeartbeats 8000000 in
set_option maxRecDepth 100000 in
theorem m_X11_missing (l : Launch) {D : va_G} {base : Nat} {tys : List (ClassId × FieldType)} {ad ks : List Nat} {P : sgPm} (a0 : Nat) (h0 : isK ad ks 11 a0) (x1 : Int32) (x2 : Int32) (x3 : Int32) : sgMi l (KT P) D vwCl base tys ad ks yX11_missing cX11_missing 4 (some .int) ({ frames := 14, cells := 0, slots := 0, locals := 359 }) [.ref a0, .int x1, .int x2, .int x3] (fun r : Int32 => True) := by
  refine sg_ofW (by decide +kernel) (Nat.le_of_ble_eq_true rfl) (fun p e s m below meth c X hr hlk hb hK hC hG ls hl => ?_)
  have hS : va_S (fun q : Nat => base ≤ q) s.heap s.heap [] := va_S.rf
  have hl : lv_has ls 4 [(0, .ref a0), (1, .int x1), (2, .int x2), (3, .int x3)] := hl
  refine lv_aload_n X.1 X.2.1 dX11_missing_0 rfl (lv_at hl 0 rfl) ?_
  refine lv_iload_n X.1 X.2.1 dX11_missing_1 rfl (lv_at hl 1 rfl) ?_
  refine ca_X11_isGame X hK hG hC (fun _ h => h) hS hb a0 h0 x1 wl_5_21 hl.1 (rest := []) rfl (Nat.le_of_ble_eq_true rfl) ⟨Nat.le_of_ble_eq_true rfl, Nat.le_of_ble_eq_true rfl⟩ ⟨Nat.le_of_ble_eq_true rfl, Nat.le_of_ble_eq_true rfl⟩ dX11_missing_2 (fun f1 locs hf1 hS => ?_)
  refine lv_if_eq (tgt := 28) X.1 X.2.1 dX11_missing_5 (by decide) (fun c2 => ?_) (fun c2 => ?_)
  · refine lv_iconst (v := (-1)) X.1 X.2.1 dX11_missing_28 (by decide +kernel) ?_
    exact sg_iret X hr hlk hb hK hC hG hS trivial dX11_missing_29
  · refine lv_aload_n X.1 X.2.1 dX11_missing_8 rfl (lv_at hl 0 rfl) ?_
    refine ca_X11_noLawn X hK hG hC (fun _ h => h) hS hb a0 h0 wl_4_74 hl.1 (rest := []) rfl (Nat.le_of_ble_eq_true rfl) ⟨Nat.le_of_ble_eq_true rfl, Nat.le_of_ble_eq_true rfl⟩ ⟨Nat.le_of_ble_eq_true rfl, Nat.le_of_ble_eq_true rfl⟩ dX11_missing_9 (fun f3 locs hf3 hS => ?_)
    refine lv_if_ne (tgt := 28) X.1 X.2.1 dX11_missing_12 (by decide) (fun c4 => ?_) (fun c4 => ?_)
    · refine lv_iconst (v := (-1)) X.1 X.2.1 dX11_missing_28 (by decide +kernel) ?_
      exact sg_iret X hr hlk hb hK hC hG hS trivial dX11_missing_29
    · refine lv_aload_n X.1 X.2.1 dX11_missing_15 rfl (lv_at hl 0 rfl) ?_
      refine gf_X11_2 X hK hG h0 wl_2_197 dX11_missing_16 (fun q5 hq5 kq5 => ?_)
      refine lv_iload_n X.1 X.2.1 dX11_missing_19 rfl (lv_at hl 1 rfl) ?_
      refine al_44 X hK hG hq5 (iv_vpin (hf1.2 c2) (by decide +kernel)) dX11_missing_20 (fun q6 hq6 => ?_)
      refine gf_X3_2 X hK hG hq6 wl_1_101 dX11_missing_21 (fun f7 hf7 kf7 => ?_)
      refine lv_iconst (v := 3) X.1 X.2.1 dX11_missing_24 (by decide +kernel) ?_
      refine lv_icmp_le (tgt := 30) X.1 X.2.1 dX11_missing_25 (by decide) (fun c8 => ?_) (fun c8 => ?_)
      · refine lv_iload_n X.1 X.2.1 dX11_missing_30 rfl (lv_at hl 2 rfl) ?_
        refine lv_aload_n X.1 X.2.1 dX11_missing_31 rfl (lv_at hl 0 rfl) ?_
        refine gf_X11_10 X hK hG h0 wl_2_205 dX11_missing_32 (fun q9 hq9 kq9 => ?_)
        refine gf_X4_6 X hK hG hq9 wl_1_224 dX11_missing_35 (fun f10 hf10 kf10 => ?_)
        refine lv_iconst (v := (-1)) X.1 X.2.1 dX11_missing_38 (by decide +kernel) ?_
        refine lv_ixor X.1 X.2.1 dX11_missing_39 ?_
        refine lv_topi (fun f11 ef11 => ?_)
        refine lv_iand X.1 X.2.1 dX11_missing_40 ?_
        refine lv_topi (fun f12 ef12 => ?_)
        refine lv_if_ne (tgt := 49) X.1 X.2.1 dX11_missing_41 (by decide) (fun c13 => ?_) (fun c13 => ?_)
        · refine lv_iconst (v := (-1)) X.1 X.2.1 dX11_missing_49 (by decide +kernel) ?_
          exact sg_iret X hr hlk hb hK hC hG hS trivial dX11_missing_50
        · refine lv_iload_n X.1 X.2.1 dX11_missing_44 rfl (lv_at hl 3 rfl) ?_
          refine lv_iconst (v := (-1)) X.1 X.2.1 dX11_missing_45 (by decide +kernel) ?_
          refine lv_icmp_ge (tgt := 51) X.1 X.2.1 dX11_missing_46 (by decide) (fun c14 => ?_) (fun c14 => ?_)
          · refine lv_aload_n X.1 X.2.1 dX11_missing_51 rfl (lv_at hl 0 rfl) ?_
            refine gf_X11_6 X hK hG h0 wl_2_201 dX11_missing_52 (fun q15 hq15 kq15 => ?_)
            refine lv_aload_n X.1 X.2.1 dX11_missing_55 rfl (lv_at hl 0 rfl) ?_
            refine gg_X11_2 X hK hG h0 wl_2_197 kq5 dX11_missing_56 ?_
            refine lv_iload_n X.1 X.2.1 dX11_missing_59 rfl (lv_at hl 1 rfl) ?_
            refine al_44 X hK hG hq5 (iv_vpin (hf1.2 c2) (by decide +kernel)) dX11_missing_60 (fun q16 hq16 => ?_)
            refine lv_aload_n X.1 X.2.1 dX11_missing_61 rfl (lv_at hl 0 rfl) ?_
            refine gf_X11_3 X hK hG h0 wl_2_198 dX11_missing_62 (fun q17 hq17 kq17 => ?_)
            refine lv_iload_n X.1 X.2.1 dX11_missing_65 rfl (lv_at hl 2 rfl) ?_
            refine lv_iload_n X.1 X.2.1 dX11_missing_66 rfl (lv_at hl 3 rfl) ?_
            refine ca_X7_fillLeaves X hK hG hC hS hb q15 hq15 q16 hq16 q17 hq17 x2 x3 wl_5_61 hl.1 (rest := []) rfl (Nat.le_of_ble_eq_true rfl) ⟨Nat.le_of_ble_eq_true rfl, Nat.le_of_ble_eq_true rfl⟩ ⟨Nat.le_of_ble_eq_true rfl, Nat.le_of_ble_eq_true rfl⟩ dX11_missing_67 (fun H locs hG hS => ?_)
            refine lv_iload_n X.1 X.2.1 dX11_missing_70 rfl (lv_at hl 3 rfl) ?_
            refine lv_iconst (v := (-1)) X.1 X.2.1 dX11_missing_71 (by decide +kernel) ?_
            refine lv_icmp_ne (tgt := 85) X.1 X.2.1 dX11_missing_72 (by decide) (fun c19 => ?_) (fun c19 => ?_)
            · refine lv_aload_n X.1 X.2.1 dX11_missing_85 rfl (lv_at hl 0 rfl) ?_
              refine gf_X11_6 X hK hG h0 wl_2_201 dX11_missing_86 (fun q20 hq20 kq20 => ?_)
              refine gf_X7_8 X hK hG hq20 wl_2_94 dX11_missing_89 (fun f21 hf21 kf21 => ?_)
              exact sg_iret X hr hlk hb hK hC hG hS trivial dX11_missing_92
            · refine lv_aload_n X.1 X.2.1 dX11_missing_75 rfl (lv_at hl 0 rfl) ?_
              refine gf_X11_6 X hK hG h0 wl_2_201 dX11_missing_76 (fun q22 hq22 kq22 => ?_)
              refine gf_X7_7 X hK hG hq22 wl_2_92 dX11_missing_79 (fun f23 hf23 kf23 => ?_)
              refine lv_goto (tgt := 92) X.1 X.2.1 dX11_missing_82 (by decide) ?_
              exact sg_iret X hr hlk hb hK hC hG hS trivial dX11_missing_92
          · refine lv_iconst (v := (-1)) X.1 X.2.1 dX11_missing_49 (by decide +kernel) ?_
            exact sg_iret X hr hlk hb hK hC hG hS trivial dX11_missing_50
      · refine lv_iconst (v := (-1)) X.1 X.2.1 dX11_missing_28 (by decide +kernel) ?_
        exact sg_iret X hr hlk hb hK hC hG hS trivial dX11_missing_29

theorem ca_X11_missing   (X : CallFix p m c cc nL s args sg_tbl own) (hK : va_K D vwCl tys s) (hG : sgG (KT P) D vwCl (fun q : Nat => base ≤ q) tys ad ks H) (hC : sgC base s) (hS : va_S (fun q : Nat => base ≤ q) s.heap H locs) (hb : base ≤ s.heap.size) (a0 : Nat) (h0 : isK ad ks 11 a0) (x1 : Int32) (x2 : Int32) (x3 : Int32) (hl : Cond.methodLink own index yX11_missing ∈ sg_tbl) (hsize : ls.size = nL) (hst : st0 = [.int x1, .int x2, .int x3].reverse ++ .ref a0 :: rest) (hW : (rest.map fun v => v.category).sum ≤ 8) (hR : 15 ≤ R.frames ∧ 382 ≤ R.locals) (hf : cells ≤ R.cells ∧ slots ≤ R.slots) (hdg : decode cc pc = .ok (.invokevirtual index, 3)) (kk : ∀ (r : Int32) (H1 : Heap) (locs1 : List Loc), (fun r : Int32 => True) r → sgG (KT P) D vwCl (fun q : Nat => base ≤ q) tys ad ks H1 → va_S (fun q : Nat => base ≤ q) s.heap H1 locs1 → W p l e R s m args below meth c H1 locs1 cells slots Q (F0 m (pc + 3) ls (.int r :: rest))) : W p l e R s m args below meth c H locs cells slots Q (F0 m pc ls st0) :=
  sg_callVi X hK hG hC hS hb (m_X11_missing l a0 h0 x1 x2 x3) h0 (k := 11) (ci := 11) rfl (C := RX11) (T := TX11) (N := 17) rfl wl_5_60 wl_1_1 wl_5_58 wl_5_59 (n := 3) (by decide +kernel) rfl rfl rfl hl hsize hst hW hR hf hdg kk

set_option maxHeartbeats 8000000 in
set_option maxRecDepth 100000 in
theorem m_X11_threats (l : Launch) {D : va_G} {base : Nat} {tys : List (ClassId × FieldType)} {ad ks : List Nat} {P : sgPm} (a0 : Nat) (h0 : isK ad ks 11 a0) : sgMi l (KT P) D vwCl base tys ad ks yX11_threats cX11_threats 1 (some .int) ({ frames := 5, cells := 0, slots := 0, locals := 130 }) [.ref a0] (fun r : Int32 => True) := by
  refine sg_ofW (by decide +kernel) (Nat.le_of_ble_eq_true rfl) (fun p e s m below meth c X hr hlk hb hK hC hG ls hl => ?_)
  have hS : va_S (fun q : Nat => base ≤ q) s.heap s.heap [] := va_S.rf
  have hl : lv_has ls 1 [(0, .ref a0)] := hl
  refine lv_aload_n X.1 X.2.1 dX11_threats_0 rfl (lv_at hl 0 rfl) ?_
  refine ca_X11_noLawn X hK hG hC (fun _ h => h) hS hb a0 h0 wl_4_74 hl.1 (rest := []) rfl (Nat.le_of_ble_eq_true rfl) ⟨Nat.le_of_ble_eq_true rfl, Nat.le_of_ble_eq_true rfl⟩ ⟨Nat.le_of_ble_eq_true rfl, Nat.le_of_ble_eq_true rfl⟩ dX11_threats_1 (fun f1 locs hf1 hS => ?_)
  refine lv_if_eq (tgt := 11) X.1 X.2.1 dX11_threats_4 (by decide) (fun c2 => ?_) (fun c2 => ?_)
  · refine lv_aload_n X.1 X.2.1 dX11_threats_11 rfl (lv_at hl 0 rfl) ?_
    refine gf_X11_5 X hK hG h0 wl_2_200 dX11_threats_12 (fun q3 hq3 kq3 => ?_)
    refine lv_aload_n X.1 X.2.1 dX11_threats_15 rfl (lv_at hl 0 rfl) ?_
    refine gf_X11_3 X hK hG h0 wl_2_198 dX11_threats_16 (fun q4 hq4 kq4 => ?_)
    refine gf_X9_0 X hK hG hq4 wl_1_118 dX11_threats_19 (fun f5 hf5 kf5 => ?_)
    refine lv_aload_n X.1 X.2.1 dX11_threats_22 rfl (lv_at hl 0 rfl) ?_
    refine gg_X11_3 X hK hG h0 wl_2_198 kq4 dX11_threats_23 ?_
    refine gf_X9_1 X hK hG hq4 wl_1_122 dX11_threats_26 (fun f6 hf6 kf6 => ?_)
    refine lv_aload_n X.1 X.2.1 dX11_threats_29 rfl (lv_at hl 0 rfl) ?_
    refine gg_X11_3 X hK hG h0 wl_2_198 kq4 dX11_threats_30 ?_
    refine gf_X9_3 X hK hG hq4 wl_1_130 dX11_threats_33 (fun f7 hf7 kf7 => ?_)
    refine ca_X8_threatBits X hK hG hC hS hb q3 hq3 f5 f6 f7 wl_5_86 hl.1 (rest := []) rfl (Nat.le_of_ble_eq_true rfl) ⟨Nat.le_of_ble_eq_true rfl, Nat.le_of_ble_eq_true rfl⟩ ⟨Nat.le_of_ble_eq_true rfl, Nat.le_of_ble_eq_true rfl⟩ dX11_threats_36 (fun f8 H locs hf8 hG hS => ?_)
    exact sg_iret X hr hlk hb hK hC hG hS trivial dX11_threats_39
  · refine lv_iconst (v := (-1)) X.1 X.2.1 dX11_threats_7 (by decide +kernel) ?_
    refine lv_goto (tgt := 39) X.1 X.2.1 dX11_threats_8 (by decide) ?_
    exact sg_iret X hr hlk hb hK hC hG hS trivial dX11_threats_39

theorem ca_X11_threats   (X : CallFix p m c cc nL s args sg_tbl own) (hK : va_K D vwCl tys s) (hG : sgG (KT P) D vwCl (fun q : Nat => base ≤ q) tys ad ks H) (hC : sgC base s) (hS : va_S (fun q : Nat => base ≤ q) s.heap H locs) (hb : base ≤ s.heap.size) (a0 : Nat) (h0 : isK ad ks 11 a0) (hl : Cond.methodLink own index yX11_threats ∈ sg_tbl) (hsize : ls.size = nL) (hst : st0 = [].reverse ++ .ref a0 :: rest) (hW : (rest.map fun v => v.category).sum ≤ 8) (hR : 6 ≤ R.frames ∧ 150 ≤ R.locals) (hf : cells ≤ R.cells ∧ slots ≤ R.slots) (hdg : decode cc pc = .ok (.invokevirtual index, 3)) (kk : ∀ (r : Int32) (H1 : Heap) (locs1 : List Loc), (fun r : Int32 => True) r → sgG (KT P) D vwCl (fun q : Nat => base ≤ q) tys ad ks H1 → va_S (fun q : Nat => base ≤ q) s.heap H1 locs1 → W p l e R s m args below meth c H1 locs1 cells slots Q (F0 m (pc + 3) ls (.int r :: rest))) : W p l e R s m args below meth c H locs cells slots Q (F0 m pc ls st0) :=
  sg_callVi X hK hG hC hS hb (m_X11_threats l a0 h0) h0 (k := 11) (ci := 11) rfl (C := RX11) (T := TX11) (N := 17) rfl wl_5_85 wl_1_1 wl_5_83 wl_5_84 (n := 0) (by decide +kernel) rfl rfl rfl hl hsize hst hW hR hf hdg kk

set_option maxHeartbeats 8000000 in
set_option maxRecDepth 100000 in
theorem m_X11_cuts (l : Launch) {D : va_G} {base : Nat} {tys : List (ClassId × FieldType)} {ad ks : List Nat} {P : sgPm} (a0 : Nat) (h0 : isK ad ks 11 a0) (x1 : Int32) : sgMi l (KT P) D vwCl base tys ad ks yX11_cuts cX11_cuts 2 (some .int) ({ frames := 4, cells := 0, slots := 0, locals := 94 }) [.ref a0, .int x1] (fun r : Int32 => True) := by
  refine sg_ofW (by decide +kernel) (Nat.le_of_ble_eq_true rfl) (fun p e s m below meth c X hr hlk hb hK hC hG ls hl => ?_)
  have hS : va_S (fun q : Nat => base ≤ q) s.heap s.heap [] := va_S.rf
  have hl : lv_has ls 2 [(0, .ref a0), (1, .int x1)] := hl
  refine lv_aload_n X.1 X.2.1 dX11_cuts_0 rfl (lv_at hl 0 rfl) ?_
  refine ca_X11_noLawn X hK hG hC (fun _ h => h) hS hb a0 h0 wl_4_74 hl.1 (rest := []) rfl (Nat.le_of_ble_eq_true rfl) ⟨Nat.le_of_ble_eq_true rfl, Nat.le_of_ble_eq_true rfl⟩ ⟨Nat.le_of_ble_eq_true rfl, Nat.le_of_ble_eq_true rfl⟩ dX11_cuts_1 (fun f1 locs hf1 hS => ?_)
  refine lv_if_eq (tgt := 9) X.1 X.2.1 dX11_cuts_4 (by decide) (fun c2 => ?_) (fun c2 => ?_)
  · refine lv_aload_n X.1 X.2.1 dX11_cuts_9 rfl (lv_at hl 0 rfl) ?_
    refine gf_X11_5 X hK hG h0 wl_2_200 dX11_cuts_10 (fun q3 hq3 kq3 => ?_)
    refine lv_aload_n X.1 X.2.1 dX11_cuts_13 rfl (lv_at hl 0 rfl) ?_
    refine gf_X11_3 X hK hG h0 wl_2_198 dX11_cuts_14 (fun q4 hq4 kq4 => ?_)
    refine gf_X9_0 X hK hG hq4 wl_1_118 dX11_cuts_17 (fun f5 hf5 kf5 => ?_)
    refine ca_X8_listCuts X hK hG hC hS hb q3 hq3 f5 wl_5_91 hl.1 (rest := []) rfl (Nat.le_of_ble_eq_true rfl) ⟨Nat.le_of_ble_eq_true rfl, Nat.le_of_ble_eq_true rfl⟩ ⟨Nat.le_of_ble_eq_true rfl, Nat.le_of_ble_eq_true rfl⟩ dX11_cuts_20 (fun H locs hG hS => ?_)
    refine lv_iload_n X.1 X.2.1 dX11_cuts_23 rfl (lv_at hl 1 rfl) ?_
    have B8_38 : ∀ (locs : List Loc) (ls : Array Slot), va_S (fun q : Nat => base ≤ q) s.heap H locs → lv_has ls 2 [(0, .ref a0), (1, .int x1)] → W p l e (headSpec (Cond.code yX11_cuts cX11_cuts 2 (some .int) :: sg_tbl) ({ frames := 4, cells := 0, slots := 0, locals := 94 })).room s m #[.ref a0, .int x1] below meth c H locs 0 0 (MQ below (va_Qi (fun r (_ : Unit) => (fun r : Int32 => True) r) (fun _ => sgB (KT P) D vwCl base tys ad ks) (fun q : Nat => base ≤ q)) #[.ref a0, .int x1] s 0 0 (fun q : Nat => base ≤ q)) (F0 m 38 ls []) := by
      intro locs ls hS hl
      refine lv_iload_n X.1 X.2.1 dX11_cuts_38 rfl (lv_at hl 1 rfl) ?_
      refine lv_iconst (v := (-1)) X.1 X.2.1 dX11_cuts_39 (by decide +kernel) ?_
      refine lv_icmp_ne (tgt := 53) X.1 X.2.1 dX11_cuts_40 (by decide) (fun c9 => ?_) (fun c9 => ?_)
      · refine lv_iconst (v := (-1)) X.1 X.2.1 dX11_cuts_53 (by decide +kernel) ?_
        exact sg_iret X hr hlk hb hK hC hG hS trivial dX11_cuts_54
      · refine lv_aload_n X.1 X.2.1 dX11_cuts_43 rfl (lv_at hl 0 rfl) ?_
        refine gf_X11_5 X hK hG h0 wl_2_200 dX11_cuts_44 (fun q10 hq10 kq10 => ?_)
        refine gf_X8_8 X hK hG hq10 wl_2_54 dX11_cuts_47 (fun f11 hf11 kf11 => ?_)
        refine lv_goto (tgt := 54) X.1 X.2.1 dX11_cuts_50 (by decide) ?_
        exact sg_iret X hr hlk hb hK hC hG hS trivial dX11_cuts_54
    refine lv_if_lt (tgt := 38) X.1 X.2.1 dX11_cuts_24 (by decide) (fun c7 => ?_) (fun c7 => ?_)
    · exact B8_38 _ _ hS (lv_sub hl [0, 1] rfl)
    · refine lv_iload_n X.1 X.2.1 dX11_cuts_27 rfl (lv_at hl 1 rfl) ?_
      refine lv_aload_n X.1 X.2.1 dX11_cuts_28 rfl (lv_at hl 0 rfl) ?_
      refine gf_X11_5 X hK hG h0 wl_2_200 dX11_cuts_29 (fun q12 hq12 kq12 => ?_)
      refine gf_X8_8 X hK hG hq12 wl_2_54 dX11_cuts_32 (fun f13 hf13 kf13 => ?_)
      refine lv_icmp_lt (tgt := 55) X.1 X.2.1 dX11_cuts_35 (by decide) (fun c14 => ?_) (fun c14 => ?_)
      · refine lv_aload_n X.1 X.2.1 dX11_cuts_55 rfl (lv_at hl 0 rfl) ?_
        refine gg_X11_5 X hK hG h0 wl_2_200 kq12 dX11_cuts_56 ?_
        refine gf_X8_6 X hK hG hq12 wl_2_47 dX11_cuts_59 (fun q15 hq15 kq15 => ?_)
        refine lv_iload_n X.1 X.2.1 dX11_cuts_62 rfl (lv_at hl 1 rfl) ?_
        refine al_40 X hK hG hq15 (iv_vpin (iv_lt (b' := 269) c14 (iv_ler (c' := 0) (iv_ge_of c7) (iv_c 0 (a := 0) (b := 0) (by decide +kernel)) (iv_top x1) (by decide +kernel)) hf13 (by decide +kernel)) (by decide +kernel)) dX11_cuts_63 (fun f16 hf16 => ?_)
        exact sg_iret X hr hlk hb hK hC hG hS trivial dX11_cuts_64
      · exact B8_38 _ _ hS (lv_sub hl [0, 1] rfl)
  · refine lv_iconst (v := (-1)) X.1 X.2.1 dX11_cuts_7 (by decide +kernel) ?_
    exact sg_iret X hr hlk hb hK hC hG hS trivial dX11_cuts_8

theorem ca_X11_cuts   (X : CallFix p m c cc nL s args sg_tbl own) (hK : va_K D vwCl tys s) (hG : sgG (KT P) D vwCl (fun q : Nat => base ≤ q) tys ad ks H) (hC : sgC base s) (hS : va_S (fun q : Nat => base ≤ q) s.heap H locs) (hb : base ≤ s.heap.size) (a0 : Nat) (h0 : isK ad ks 11 a0) (x1 : Int32) (hl : Cond.methodLink own index yX11_cuts ∈ sg_tbl) (hsize : ls.size = nL) (hst : st0 = [.int x1].reverse ++ .ref a0 :: rest) (hW : (rest.map fun v => v.category).sum ≤ 8) (hR : 5 ≤ R.frames ∧ 115 ≤ R.locals) (hf : cells ≤ R.cells ∧ slots ≤ R.slots) (hdg : decode cc pc = .ok (.invokevirtual index, 3)) (kk : ∀ (r : Int32) (H1 : Heap) (locs1 : List Loc), (fun r : Int32 => True) r → sgG (KT P) D vwCl (fun q : Nat => base ≤ q) tys ad ks H1 → va_S (fun q : Nat => base ≤ q) s.heap H1 locs1 → W p l e R s m args below meth c H1 locs1 cells slots Q (F0 m (pc + 3) ls (.int r :: rest))) : W p l e R s m args below meth c H locs cells slots Q (F0 m pc ls st0) :=
  sg_callVi X hK hG hC hS hb (m_X11_cuts l a0 h0 x1) h0 (k := 11) (ci := 11) rfl (C := RX11) (T := TX11) (N := 17) rfl wl_5_90 wl_1_1 wl_5_88 wl_5_89 (n := 1) (by decide +kernel) rfl rfl rfl hl hsize hst hW hR hf hdg kk

set_option maxHeartbeats 8000000 in
set_option maxRecDepth 100000 in
theorem m_X11_answers (l : Launch) {D : va_G} {base : Nat} {tys : List (ClassId × FieldType)} {ad ks : List Nat} {P : sgPm} (a0 : Nat) (h0 : isK ad ks 11 a0) (x1 : Int32) : sgMi l (KT P) D vwCl base tys ad ks yX11_answers cX11_answers 2 (some .int) ({ frames := 6, cells := 0, slots := 0, locals := 154 }) [.ref a0, .int x1] (fun r : Int32 => True) := by
  refine sg_ofW (by decide +kernel) (Nat.le_of_ble_eq_true rfl) (fun p e s m below meth c X hr hlk hb hK hC hG ls hl => ?_)
  have hS : va_S (fun q : Nat => base ≤ q) s.heap s.heap [] := va_S.rf
  have hl : lv_has ls 2 [(0, .ref a0), (1, .int x1)] := hl
  refine lv_aload_n X.1 X.2.1 dX11_answers_0 rfl (lv_at hl 0 rfl) ?_
  refine ca_X11_noLawn X hK hG hC (fun _ h => h) hS hb a0 h0 wl_4_74 hl.1 (rest := []) rfl (Nat.le_of_ble_eq_true rfl) ⟨Nat.le_of_ble_eq_true rfl, Nat.le_of_ble_eq_true rfl⟩ ⟨Nat.le_of_ble_eq_true rfl, Nat.le_of_ble_eq_true rfl⟩ dX11_answers_1 (fun f1 locs hf1 hS => ?_)
  have B3_12 : ∀ (locs : List Loc) (ls : Array Slot), va_S (fun q : Nat => base ≤ q) s.heap s.heap locs → lv_has ls 2 [] → W p l e (headSpec (Cond.code yX11_answers cX11_answers 2 (some .int) :: sg_tbl) ({ frames := 6, cells := 0, slots := 0, locals := 154 })).room s m #[.ref a0, .int x1] below meth c s.heap locs 0 0 (MQ below (va_Qi (fun r (_ : Unit) => (fun r : Int32 => True) r) (fun _ => sgB (KT P) D vwCl base tys ad ks) (fun q : Nat => base ≤ q)) #[.ref a0, .int x1] s 0 0 (fun q : Nat => base ≤ q)) (F0 m 12 ls []) := by
    intro locs ls hS hl
    refine lv_iconst (v := (-1)) X.1 X.2.1 dX11_answers_12 (by decide +kernel) ?_
    refine lv_goto (tgt := 28) X.1 X.2.1 dX11_answers_13 (by decide) ?_
    exact sg_iret X hr hlk hb hK hC hG hS trivial dX11_answers_28
  refine lv_if_ne (tgt := 12) X.1 X.2.1 dX11_answers_4 (by decide) (fun c2 => ?_) (fun c2 => ?_)
  · exact B3_12 _ _ hS (lv_sub hl [] rfl)
  · refine lv_iload_n X.1 X.2.1 dX11_answers_7 rfl (lv_at hl 1 rfl) ?_
    refine lv_iconst (v := (-1)) X.1 X.2.1 dX11_answers_8 (by decide +kernel) ?_
    refine lv_icmp_ge (tgt := 16) X.1 X.2.1 dX11_answers_9 (by decide) (fun c4 => ?_) (fun c4 => ?_)
    · refine lv_aload_n X.1 X.2.1 dX11_answers_16 rfl (lv_at hl 0 rfl) ?_
      refine gf_X11_7 X hK hG h0 wl_2_202 dX11_answers_17 (fun q5 hq5 kq5 => ?_)
      refine lv_aload_n X.1 X.2.1 dX11_answers_20 rfl (lv_at hl 0 rfl) ?_
      refine gf_X11_3 X hK hG h0 wl_2_198 dX11_answers_21 (fun q6 hq6 kq6 => ?_)
      refine lv_iload_n X.1 X.2.1 dX11_answers_24 rfl (lv_at hl 1 rfl) ?_
      refine ca_X0_answer X hK hG hC hS hb q5 hq5 q6 hq6 x1 wl_5_96 hl.1 (rest := []) rfl (Nat.le_of_ble_eq_true rfl) ⟨Nat.le_of_ble_eq_true rfl, Nat.le_of_ble_eq_true rfl⟩ ⟨Nat.le_of_ble_eq_true rfl, Nat.le_of_ble_eq_true rfl⟩ dX11_answers_25 (fun f7 H locs hf7 hG hS => ?_)
      exact sg_iret X hr hlk hb hK hC hG hS trivial dX11_answers_28
    · exact B3_12 _ _ hS (lv_sub hl [] rfl)

theorem ca_X11_answers   (X : CallFix p m c cc nL s args sg_tbl own) (hK : va_K D vwCl tys s) (hG : sgG (KT P) D vwCl (fun q : Nat => base ≤ q) tys ad ks H) (hC : sgC base s) (hS : va_S (fun q : Nat => base ≤ q) s.heap H locs) (hb : base ≤ s.heap.size) (a0 : Nat) (h0 : isK ad ks 11 a0) (x1 : Int32) (hl : Cond.methodLink own index yX11_answers ∈ sg_tbl) (hsize : ls.size = nL) (hst : st0 = [.int x1].reverse ++ .ref a0 :: rest) (hW : (rest.map fun v => v.category).sum ≤ 8) (hR : 7 ≤ R.frames ∧ 175 ≤ R.locals) (hf : cells ≤ R.cells ∧ slots ≤ R.slots) (hdg : decode cc pc = .ok (.invokevirtual index, 3)) (kk : ∀ (r : Int32) (H1 : Heap) (locs1 : List Loc), (fun r : Int32 => True) r → sgG (KT P) D vwCl (fun q : Nat => base ≤ q) tys ad ks H1 → va_S (fun q : Nat => base ≤ q) s.heap H1 locs1 → W p l e R s m args below meth c H1 locs1 cells slots Q (F0 m (pc + 3) ls (.int r :: rest))) : W p l e R s m args below meth c H locs cells slots Q (F0 m pc ls st0) :=
  sg_callVi X hK hG hC hS hb (m_X11_answers l a0 h0 x1) h0 (k := 11) (ci := 11) rfl (C := RX11) (T := TX11) (N := 17) rfl wl_5_95 wl_1_1 wl_5_93 wl_5_94 (n := 1) (by decide +kernel) rfl rfl rfl hl hsize hst hW hR hf hdg kk

set_option maxHeartbeats 8000000 in
set_option maxRecDepth 100000 in
theorem m_X11_advice (l : Launch) {D : va_G} {base : Nat} {tys : List (ClassId × FieldType)} {ad ks : List Nat} {P : sgPm} (a0 : Nat) (h0 : isK ad ks 11 a0) (x1 : Int32) : sgMi l (KT P) D vwCl base tys ad ks yX11_advice cX11_advice 2 (some .int) ({ frames := 6, cells := 0, slots := 0, locals := 156 }) [.ref a0, .int x1] (fun r : Int32 => True) := by
  refine sg_ofW (by decide +kernel) (Nat.le_of_ble_eq_true rfl) (fun p e s m below meth c X hr hlk hb hK hC hG ls hl => ?_)
  have hS : va_S (fun q : Nat => base ≤ q) s.heap s.heap [] := va_S.rf
  have hl : lv_has ls 2 [(0, .ref a0), (1, .int x1)] := hl
  refine lv_aload_n X.1 X.2.1 dX11_advice_0 rfl (lv_at hl 0 rfl) ?_
  refine ca_X11_noLawn X hK hG hC (fun _ h => h) hS hb a0 h0 wl_4_74 hl.1 (rest := []) rfl (Nat.le_of_ble_eq_true rfl) ⟨Nat.le_of_ble_eq_true rfl, Nat.le_of_ble_eq_true rfl⟩ ⟨Nat.le_of_ble_eq_true rfl, Nat.le_of_ble_eq_true rfl⟩ dX11_advice_1 (fun f1 locs hf1 hS => ?_)
  refine lv_if_ne (tgt := 30) X.1 X.2.1 dX11_advice_4 (by decide) (fun c2 => ?_) (fun c2 => ?_)
  · refine lv_iconst (v := (-1)) X.1 X.2.1 dX11_advice_30 (by decide +kernel) ?_
    exact sg_iret X hr hlk hb hK hC hG hS trivial dX11_advice_31
  · refine lv_iload_n X.1 X.2.1 dX11_advice_7 rfl (lv_at hl 1 rfl) ?_
    refine lv_if_lt (tgt := 30) X.1 X.2.1 dX11_advice_8 (by decide) (fun c3 => ?_) (fun c3 => ?_)
    · refine lv_iconst (v := (-1)) X.1 X.2.1 dX11_advice_30 (by decide +kernel) ?_
      exact sg_iret X hr hlk hb hK hC hG hS trivial dX11_advice_31
    · refine lv_iload_n X.1 X.2.1 dX11_advice_11 rfl (lv_at hl 1 rfl) ?_
      refine lv_iconst (v := 1) X.1 X.2.1 dX11_advice_12 (by decide +kernel) ?_
      refine lv_icmp_gt (tgt := 30) X.1 X.2.1 dX11_advice_13 (by decide) (fun c4 => ?_) (fun c4 => ?_)
      · refine lv_iconst (v := (-1)) X.1 X.2.1 dX11_advice_30 (by decide +kernel) ?_
        exact sg_iret X hr hlk hb hK hC hG hS trivial dX11_advice_31
      · refine lv_aload_n X.1 X.2.1 dX11_advice_16 rfl (lv_at hl 0 rfl) ?_
        refine gf_X11_7 X hK hG h0 wl_2_202 dX11_advice_17 (fun q5 hq5 kq5 => ?_)
        refine lv_aload_n X.1 X.2.1 dX11_advice_20 rfl (lv_at hl 0 rfl) ?_
        refine gf_X11_3 X hK hG h0 wl_2_198 dX11_advice_21 (fun q6 hq6 kq6 => ?_)
        refine ca_X0_advise X hK hG hC hS hb q5 hq5 q6 hq6 wl_4_215 hl.1 (rest := []) rfl (Nat.le_of_ble_eq_true rfl) ⟨Nat.le_of_ble_eq_true rfl, Nat.le_of_ble_eq_true rfl⟩ ⟨Nat.le_of_ble_eq_true rfl, Nat.le_of_ble_eq_true rfl⟩ dX11_advice_24 (fun f7 H locs hf7 hG hS => ?_)
        refine lv_if_ne (tgt := 32) X.1 X.2.1 dX11_advice_27 (by decide) (fun c8 => ?_) (fun c8 => ?_)
        · refine lv_iload_n X.1 X.2.1 dX11_advice_32 rfl (lv_at hl 1 rfl) ?_
          refine lv_if_ne (tgt := 46) X.1 X.2.1 dX11_advice_33 (by decide) (fun c9 => ?_) (fun c9 => ?_)
          · refine lv_aload_n X.1 X.2.1 dX11_advice_46 rfl (lv_at hl 0 rfl) ?_
            refine gf_X11_7 X hK hG h0 wl_2_202 dX11_advice_47 (fun q10 hq10 kq10 => ?_)
            refine gf_X0_4 X hK hG hq10 wl_2_126 dX11_advice_50 (fun f11 hf11 kf11 => ?_)
            exact sg_iret X hr hlk hb hK hC hG hS trivial dX11_advice_53
          · refine lv_aload_n X.1 X.2.1 dX11_advice_36 rfl (lv_at hl 0 rfl) ?_
            refine gf_X11_7 X hK hG h0 wl_2_202 dX11_advice_37 (fun q12 hq12 kq12 => ?_)
            refine gf_X0_3 X hK hG hq12 wl_2_124 dX11_advice_40 (fun f13 hf13 kf13 => ?_)
            refine lv_goto (tgt := 53) X.1 X.2.1 dX11_advice_43 (by decide) ?_
            exact sg_iret X hr hlk hb hK hC hG hS trivial dX11_advice_53
        · refine lv_iconst (v := (-1)) X.1 X.2.1 dX11_advice_30 (by decide +kernel) ?_
          exact sg_iret X hr hlk hb hK hC hG hS trivial dX11_advice_31

theorem ca_X11_advice   (X : CallFix p m c cc nL s args sg_tbl own) (hK : va_K D vwCl tys s) (hG : sgG (KT P) D vwCl (fun q : Nat => base ≤ q) tys ad ks H) (hC : sgC base s) (hS : va_S (fun q : Nat => base ≤ q) s.heap H locs) (hb : base ≤ s.heap.size) (a0 : Nat) (h0 : isK ad ks 11 a0) (x1 : Int32) (hl : Cond.methodLink own index yX11_advice ∈ sg_tbl) (hsize : ls.size = nL) (hst : st0 = [.int x1].reverse ++ .ref a0 :: rest) (hW : (rest.map fun v => v.category).sum ≤ 8) (hR : 7 ≤ R.frames ∧ 177 ≤ R.locals) (hf : cells ≤ R.cells ∧ slots ≤ R.slots) (hdg : decode cc pc = .ok (.invokevirtual index, 3)) (kk : ∀ (r : Int32) (H1 : Heap) (locs1 : List Loc), (fun r : Int32 => True) r → sgG (KT P) D vwCl (fun q : Nat => base ≤ q) tys ad ks H1 → va_S (fun q : Nat => base ≤ q) s.heap H1 locs1 → W p l e R s m args below meth c H1 locs1 cells slots Q (F0 m (pc + 3) ls (.int r :: rest))) : W p l e R s m args below meth c H locs cells slots Q (F0 m pc ls st0) :=
  sg_callVi X hK hG hC hS hb (m_X11_advice l a0 h0 x1) h0 (k := 11) (ci := 11) rfl (C := RX11) (T := TX11) (N := 17) rfl wl_5_104 wl_1_1 wl_5_102 wl_5_103 (n := 1) (by decide +kernel) rfl rfl rfl hl hsize hst hW hR hf hdg kk

set_option maxHeartbeats 8000000 in
set_option maxRecDepth 100000 in
theorem m_X11_openNight (l : Launch) {D : va_G} {base : Nat} {tys : List (ClassId × FieldType)} {ad ks : List Nat} {P : sgPm} {Hx : Heap} (a0 : Nat) (h0 : isK ad ks 11 a0) : sgPi l (KT P) D vwCl base tys ad ks Hx yX11_openNight cX11_openNight 1 (some .boolean) ({ frames := 1, cells := 0, slots := 0, locals := 20 }) [.ref a0] (fun r : Int32 => iv 0 1 r) := by
  refine sg_ofP (Pq := fun Hx => va_Qi (fun r (_ : Unit) => (fun r : Int32 => iv 0 1 r) r) (fun _ t => t.heap = Hx) (fun _ : Nat => False)) (by decide +kernel) (Nat.le_of_ble_eq_true rfl) (fun p e s m below meth c X hr hlk hb hK hC hG ls hl => ?_)
  have hS : va_S (fun _ : Nat => False) s.heap s.heap [] := va_S.rf
  have hl : lv_has ls 1 [(0, .ref a0)] := hl
  refine lv_aload_n X.1 X.2.1 dX11_openNight_0 rfl (lv_at hl 0 rfl) ?_
  refine ca_X11_noLawn X hK hG hC (fun _ h => h.elim) hS hb a0 h0 wl_4_74 hl.1 (rest := []) rfl (Nat.le_of_ble_eq_true rfl) ⟨Nat.le_of_ble_eq_true rfl, Nat.le_of_ble_eq_true rfl⟩ ⟨Nat.le_of_ble_eq_true rfl, Nat.le_of_ble_eq_true rfl⟩ dX11_openNight_1 (fun f1 locs hf1 hS => ?_)
  have B3_31 : ∀ (locs : List Loc) (ls : Array Slot), va_S (fun _ : Nat => False) s.heap s.heap locs → lv_has ls 1 [] → W p l e (headSpec (Cond.code yX11_openNight cX11_openNight 1 (some .boolean) :: sg_tbl) ({ frames := 1, cells := 0, slots := 0, locals := 20 })).room s m #[.ref a0] below meth c s.heap locs 0 0 (MQ below (va_Qi (fun r (_ : Unit) => (fun r : Int32 => iv 0 1 r) r) (fun _ t => t.heap = s.heap) (fun _ : Nat => False)) #[.ref a0] s 0 0 (fun _ : Nat => False)) (F0 m 31 ls []) := by
    intro locs ls hS hl
    refine lv_iconst (v := 0) X.1 X.2.1 dX11_openNight_31 (by decide +kernel) ?_
    exact sg_zretP X hr (sg_zn (iv_of (iv_c 0 (a := 0) (b := 0) (by decide +kernel)) (a' := 0) (b' := 1) (by decide +kernel))) hlk hS (iv_of (iv_c 0 (a := 0) (b := 0) (by decide +kernel)) (a' := 0) (b' := 1) (by decide +kernel)) dX11_openNight_32
  refine lv_if_ne (tgt := 31) X.1 X.2.1 dX11_openNight_4 (by decide) (fun c2 => ?_) (fun c2 => ?_)
  · exact B3_31 _ _ hS (lv_sub hl [] rfl)
  · refine lv_aload_n X.1 X.2.1 dX11_openNight_7 rfl (lv_at hl 0 rfl) ?_
    refine gf_X11_3 X hK hG h0 wl_2_198 dX11_openNight_8 (fun q4 hq4 kq4 => ?_)
    refine gf_X9_7 X hK hG hq4 wl_1_141 dX11_openNight_11 (fun f5 hf5 kf5 => ?_)
    refine lv_if_ne (tgt := 31) X.1 X.2.1 dX11_openNight_14 (by decide) (fun c6 => ?_) (fun c6 => ?_)
    · exact B3_31 _ _ hS (lv_sub hl [] rfl)
    · refine lv_aload_n X.1 X.2.1 dX11_openNight_17 rfl (lv_at hl 0 rfl) ?_
      refine gg_X11_3 X hK hG h0 wl_2_198 kq4 dX11_openNight_18 ?_
      refine gf_X9_2 X hK hG hq4 wl_1_126 dX11_openNight_21 (fun f7 hf7 kf7 => ?_)
      refine lv_if_ne (tgt := 31) X.1 X.2.1 dX11_openNight_24 (by decide) (fun c8 => ?_) (fun c8 => ?_)
      · exact B3_31 _ _ hS (lv_sub hl [] rfl)
      · refine lv_iconst (v := 1) X.1 X.2.1 dX11_openNight_27 (by decide +kernel) ?_
        refine lv_goto (tgt := 32) X.1 X.2.1 dX11_openNight_28 (by decide) ?_
        exact sg_zretP X hr (sg_zn (iv_of (iv_c 1 (a := 1) (b := 1) (by decide +kernel)) (a' := 0) (b' := 1) (by decide +kernel))) hlk hS (iv_of (iv_c 1 (a := 1) (b := 1) (by decide +kernel)) (a' := 0) (b' := 1) (by decide +kernel)) dX11_openNight_32

theorem ca_X11_openNight   (X : CallFix p m c cc nL s args sg_tbl own) (hK : va_K D vwCl tys s) (hG : sgG (KT P) D vwCl (fun q : Nat => base ≤ q) tys ad ks H) (hC : sgC base s) (hA : ∀ q : Nat, A q → base ≤ q) (hS : va_S A s.heap H locs) (hb : base ≤ s.heap.size) (a0 : Nat) (h0 : isK ad ks 11 a0) (hl : Cond.methodLink own index yX11_openNight ∈ sg_tbl) (hsize : ls.size = nL) (hst : st0 = [].reverse ++ .ref a0 :: rest) (hW : (rest.map fun v => v.category).sum ≤ 8) (hR : 2 ≤ R.frames ∧ 40 ≤ R.locals) (hf : cells ≤ R.cells ∧ slots ≤ R.slots) (hdg : decode cc pc = .ok (.invokevirtual index, 3)) (kk : ∀ (r : Int32) (locs1 : List Loc), (fun r : Int32 => iv 0 1 r) r → va_S A s.heap H locs1 → W p l e R s m args below meth c H locs1 cells slots Q (F0 m (pc + 3) ls (.int r :: rest))) : W p l e R s m args below meth c H locs cells slots Q (F0 m pc ls st0) :=
  sg_callPVi X hK hG hC hA hS hb (m_X11_openNight l a0 h0) h0 (k := 11) (ci := 11) rfl (C := RX11) (T := TX11) (N := 17) rfl wl_5_112 wl_1_1 wl_5_111 wl_0_34 (n := 0) (by decide +kernel) rfl rfl rfl hl hsize hst hW hR hf hdg kk

set_option maxHeartbeats 8000000 in
set_option maxRecDepth 100000 in
theorem m_X11_holds (l : Launch) {D : va_G} {base : Nat} {tys : List (ClassId × FieldType)} {ad ks : List Nat} {P : sgPm} (a0 : Nat) (h0 : isK ad ks 11 a0) (x1 : Int32) : sgMi l (KT P) D vwCl base tys ad ks yX11_holds cX11_holds 3 (some .int) ({ frames := 7, cells := 0, slots := 0, locals := 177 }) [.ref a0, .int x1] (fun r : Int32 => True) := by
  refine sg_ofW (by decide +kernel) (Nat.le_of_ble_eq_true rfl) (fun p e s m below meth c X hr hlk hb hK hC hG ls hl => ?_)
  have hS : va_S (fun q : Nat => base ≤ q) s.heap s.heap [] := va_S.rf
  have hl : lv_has ls 3 [(0, .ref a0), (1, .int x1)] := hl
  refine lv_aload_n X.1 X.2.1 dX11_holds_0 rfl (lv_at hl 0 rfl) ?_
  refine ca_X11_openNight X hK hG hC (fun _ h => h) hS hb a0 h0 wl_5_109 hl.1 (rest := []) rfl (Nat.le_of_ble_eq_true rfl) ⟨Nat.le_of_ble_eq_true rfl, Nat.le_of_ble_eq_true rfl⟩ ⟨Nat.le_of_ble_eq_true rfl, Nat.le_of_ble_eq_true rfl⟩ dX11_holds_1 (fun f1 locs hf1 hS => ?_)
  refine lv_if_eq (tgt := 17) X.1 X.2.1 dX11_holds_4 (by decide) (fun c2 => ?_) (fun c2 => ?_)
  · refine lv_iconst (v := (-1)) X.1 X.2.1 dX11_holds_17 (by decide +kernel) ?_
    exact sg_iret X hr hlk hb hK hC hG hS trivial dX11_holds_18
  · refine lv_iload_n X.1 X.2.1 dX11_holds_7 rfl (lv_at hl 1 rfl) ?_
    refine lv_iconst (v := 1) X.1 X.2.1 dX11_holds_8 (by decide +kernel) ?_
    refine lv_icmp_lt (tgt := 17) X.1 X.2.1 dX11_holds_9 (by decide) (fun c3 => ?_) (fun c3 => ?_)
    · refine lv_iconst (v := (-1)) X.1 X.2.1 dX11_holds_17 (by decide +kernel) ?_
      exact sg_iret X hr hlk hb hK hC hG hS trivial dX11_holds_18
    · refine lv_iload_n X.1 X.2.1 dX11_holds_12 rfl (lv_at hl 1 rfl) ?_
      refine lv_iconst (v := 2) X.1 X.2.1 dX11_holds_13 (by decide +kernel) ?_
      refine lv_icmp_le (tgt := 19) X.1 X.2.1 dX11_holds_14 (by decide) (fun c4 => ?_) (fun c4 => ?_)
      · refine lv_aload_n X.1 X.2.1 dX11_holds_19 rfl (lv_at hl 0 rfl) ?_
        refine gf_X11_5 X hK hG h0 wl_2_200 dX11_holds_20 (fun q5 hq5 kq5 => ?_)
        refine lv_aload_n X.1 X.2.1 dX11_holds_23 rfl (lv_at hl 0 rfl) ?_
        refine gf_X11_3 X hK hG h0 wl_2_198 dX11_holds_24 (fun q6 hq6 kq6 => ?_)
        refine gf_X9_0 X hK hG hq6 wl_1_118 dX11_holds_27 (fun f7 hf7 kf7 => ?_)
        refine lv_aload_n X.1 X.2.1 dX11_holds_30 rfl (lv_at hl 0 rfl) ?_
        refine gg_X11_3 X hK hG h0 wl_2_198 kq6 dX11_holds_31 ?_
        refine gf_X9_1 X hK hG hq6 wl_1_122 dX11_holds_34 (fun f8 hf8 kf8 => ?_)
        refine lv_aload_n X.1 X.2.1 dX11_holds_37 rfl (lv_at hl 0 rfl) ?_
        refine gg_X11_3 X hK hG h0 wl_2_198 kq6 dX11_holds_38 ?_
        refine gf_X9_3 X hK hG hq6 wl_1_130 dX11_holds_41 (fun f9 hf9 kf9 => ?_)
        refine ca_X8_threatened X hK hG hC hS hb q5 hq5 f7 f8 f9 wl_4_150 hl.1 (rest := []) rfl (Nat.le_of_ble_eq_true rfl) ⟨Nat.le_of_ble_eq_true rfl, Nat.le_of_ble_eq_true rfl⟩ ⟨Nat.le_of_ble_eq_true rfl, Nat.le_of_ble_eq_true rfl⟩ dX11_holds_44 (fun f10 H locs hf10 hG hS => ?_)
        refine lv_if_eq (tgt := 52) X.1 X.2.1 dX11_holds_47 (by decide) (fun c11 => ?_) (fun c11 => ?_)
        · refine lv_iload_n X.1 X.2.1 dX11_holds_52 rfl (lv_at hl 1 rfl) ?_
          refine lv_iconst (v := 1) X.1 X.2.1 dX11_holds_53 (by decide +kernel) ?_
          have B13_108 : ∀ (H : Heap) (locs : List Loc) (ls : Array Slot) (w13_0 : Int32), sgG (KT P) D vwCl (fun q : Nat => base ≤ q) tys ad ks H → va_S (fun q : Nat => base ≤ q) s.heap H locs → lv_has ls 3 [] → iv 0 1 w13_0 → W p l e (headSpec (Cond.code yX11_holds cX11_holds 3 (some .int) :: sg_tbl) ({ frames := 7, cells := 0, slots := 0, locals := 177 })).room s m #[.ref a0, .int x1] below meth c H locs 0 0 (MQ below (va_Qi (fun r (_ : Unit) => (fun r : Int32 => True) r) (fun _ => sgB (KT P) D vwCl base tys ad ks) (fun q : Nat => base ≤ q)) #[.ref a0, .int x1] s 0 0 (fun q : Nat => base ≤ q)) (F0 m 108 ls [.int w13_0]) := by
            intro H locs ls w13_0 hG hS hl hw13_0
            refine lv_istore_n (lv' := [(2, .int w13_0)]) X.1 X.2.1 dX11_holds_108 rfl hl (by decide) rfl (fun ls hl => ?_)
            refine lv_iload_n X.1 X.2.1 dX11_holds_109 rfl (lv_at hl 0 rfl) ?_
            refine lv_if_eq (tgt := 117) X.1 X.2.1 dX11_holds_110 (by decide) (fun c14 => ?_) (fun c14 => ?_)
            · refine lv_iconst (v := 0) X.1 X.2.1 dX11_holds_117 (by decide +kernel) ?_
              exact sg_iret X hr hlk hb hK hC hG hS trivial dX11_holds_118
            · refine lv_iconst (v := 1) X.1 X.2.1 dX11_holds_113 (by decide +kernel) ?_
              refine lv_goto (tgt := 118) X.1 X.2.1 dX11_holds_114 (by decide) ?_
              exact sg_iret X hr hlk hb hK hC hG hS trivial dX11_holds_118
          have B15_103 : ∀ (H : Heap) (locs : List Loc) (ls : Array Slot), sgG (KT P) D vwCl (fun q : Nat => base ≤ q) tys ad ks H → va_S (fun q : Nat => base ≤ q) s.heap H locs → lv_has ls 3 [] → W p l e (headSpec (Cond.code yX11_holds cX11_holds 3 (some .int) :: sg_tbl) ({ frames := 7, cells := 0, slots := 0, locals := 177 })).room s m #[.ref a0, .int x1] below meth c H locs 0 0 (MQ below (va_Qi (fun r (_ : Unit) => (fun r : Int32 => True) r) (fun _ => sgB (KT P) D vwCl base tys ad ks) (fun q : Nat => base ≤ q)) #[.ref a0, .int x1] s 0 0 (fun q : Nat => base ≤ q)) (F0 m 103 ls []) := by
            intro H locs ls hG hS hl
            refine lv_iconst (v := 1) X.1 X.2.1 dX11_holds_103 (by decide +kernel) ?_
            refine lv_goto (tgt := 108) X.1 X.2.1 dX11_holds_104 (by decide) ?_
            exact B13_108 H _ _ 1 hG hS (lv_sub hl [] rfl) (iv_of (iv_c 1 (a := 1) (b := 1) (by decide +kernel)) (a' := 0) (b' := 1) (by decide +kernel))
          refine lv_icmp_eq (tgt := 103) X.1 X.2.1 dX11_holds_54 (by decide) (fun c12 => ?_) (fun c12 => ?_)
          · exact B15_103 H _ _ hG hS (lv_sub hl [] rfl)
          · refine lv_aload_n X.1 X.2.1 dX11_holds_57 rfl (lv_at hl 0 rfl) ?_
            refine gf_X11_7 X hK hG h0 wl_2_202 dX11_holds_58 (fun q16 hq16 kq16 => ?_)
            refine lv_aload_n X.1 X.2.1 dX11_holds_61 rfl (lv_at hl 0 rfl) ?_
            refine gf_X11_3 X hK hG h0 wl_2_198 dX11_holds_62 (fun q17 hq17 kq17 => ?_)
            refine gf_X9_0 X hK hG hq17 wl_1_118 dX11_holds_65 (fun f18 hf18 kf18 => ?_)
            refine lv_aload_n X.1 X.2.1 dX11_holds_68 rfl (lv_at hl 0 rfl) ?_
            refine gg_X11_3 X hK hG h0 wl_2_198 kq17 dX11_holds_69 ?_
            refine gf_X9_1 X hK hG hq17 wl_1_122 dX11_holds_72 (fun f19 hf19 kf19 => ?_)
            refine lv_aload_n X.1 X.2.1 dX11_holds_75 rfl (lv_at hl 0 rfl) ?_
            refine gg_X11_3 X hK hG h0 wl_2_198 kq17 dX11_holds_76 ?_
            refine gf_X9_3 X hK hG hq17 wl_1_130 dX11_holds_79 (fun f20 hf20 kf20 => ?_)
            refine ca_X0_canHold X hK hG hC hS hb q16 hq16 f18 f19 f20 wl_5_113 hl.1 (rest := []) rfl (Nat.le_of_ble_eq_true rfl) ⟨Nat.le_of_ble_eq_true rfl, Nat.le_of_ble_eq_true rfl⟩ ⟨Nat.le_of_ble_eq_true rfl, Nat.le_of_ble_eq_true rfl⟩ dX11_holds_82 (fun f21 H locs hf21 hG hS => ?_)
            have B23_107 : ∀ (H : Heap) (locs : List Loc) (ls : Array Slot), sgG (KT P) D vwCl (fun q : Nat => base ≤ q) tys ad ks H → va_S (fun q : Nat => base ≤ q) s.heap H locs → lv_has ls 3 [] → W p l e (headSpec (Cond.code yX11_holds cX11_holds 3 (some .int) :: sg_tbl) ({ frames := 7, cells := 0, slots := 0, locals := 177 })).room s m #[.ref a0, .int x1] below meth c H locs 0 0 (MQ below (va_Qi (fun r (_ : Unit) => (fun r : Int32 => True) r) (fun _ => sgB (KT P) D vwCl base tys ad ks) (fun q : Nat => base ≤ q)) #[.ref a0, .int x1] s 0 0 (fun q : Nat => base ≤ q)) (F0 m 107 ls []) := by
              intro H locs ls hG hS hl
              refine lv_iconst (v := 0) X.1 X.2.1 dX11_holds_107 (by decide +kernel) ?_
              exact B13_108 H _ _ 0 hG hS (lv_sub hl [] rfl) (iv_of (iv_c 0 (a := 0) (b := 0) (by decide +kernel)) (a' := 0) (b' := 1) (by decide +kernel))
            refine lv_if_eq (tgt := 107) X.1 X.2.1 dX11_holds_85 (by decide) (fun c22 => ?_) (fun c22 => ?_)
            · exact B23_107 H _ _ hG hS (lv_sub hl [] rfl)
            · refine lv_aload_n X.1 X.2.1 dX11_holds_88 rfl (lv_at hl 0 rfl) ?_
              refine gf_X11_7 X hK hG h0 wl_2_202 dX11_holds_89 (fun q24 hq24 kq24 => ?_)
              refine lv_aload_n X.1 X.2.1 dX11_holds_92 rfl (lv_at hl 0 rfl) ?_
              refine gf_X11_3 X hK hG h0 wl_2_198 dX11_holds_93 (fun q25 hq25 kq25 => ?_)
              refine ca_X0_forcing X hK hG hC hS hb q24 hq24 q25 hq25 wl_5_117 hl.1 (rest := []) rfl (Nat.le_of_ble_eq_true rfl) ⟨Nat.le_of_ble_eq_true rfl, Nat.le_of_ble_eq_true rfl⟩ ⟨Nat.le_of_ble_eq_true rfl, Nat.le_of_ble_eq_true rfl⟩ dX11_holds_96 (fun f26 H locs hf26 hG hS => ?_)
              refine lv_iconst (v := (-1)) X.1 X.2.1 dX11_holds_99 (by decide +kernel) ?_
              refine lv_icmp_ne (tgt := 107) X.1 X.2.1 dX11_holds_100 (by decide) (fun c27 => ?_) (fun c27 => ?_)
              · exact B23_107 H _ _ hG hS (lv_sub hl [] rfl)
              · exact B15_103 H _ _ hG hS (lv_sub hl [] rfl)
        · refine lv_iconst (v := 0) X.1 X.2.1 dX11_holds_50 (by decide +kernel) ?_
          exact sg_iret X hr hlk hb hK hC hG hS trivial dX11_holds_51
      · refine lv_iconst (v := (-1)) X.1 X.2.1 dX11_holds_17 (by decide +kernel) ?_
        exact sg_iret X hr hlk hb hK hC hG hS trivial dX11_holds_18

theorem ca_X11_holds   (X : CallFix p m c cc nL s args sg_tbl own) (hK : va_K D vwCl tys s) (hG : sgG (KT P) D vwCl (fun q : Nat => base ≤ q) tys ad ks H) (hC : sgC base s) (hS : va_S (fun q : Nat => base ≤ q) s.heap H locs) (hb : base ≤ s.heap.size) (a0 : Nat) (h0 : isK ad ks 11 a0) (x1 : Int32) (hl : Cond.methodLink own index yX11_holds ∈ sg_tbl) (hsize : ls.size = nL) (hst : st0 = [.int x1].reverse ++ .ref a0 :: rest) (hW : (rest.map fun v => v.category).sum ≤ 8) (hR : 8 ≤ R.frames ∧ 199 ≤ R.locals) (hf : cells ≤ R.cells ∧ slots ≤ R.slots) (hdg : decode cc pc = .ok (.invokevirtual index, 3)) (kk : ∀ (r : Int32) (H1 : Heap) (locs1 : List Loc), (fun r : Int32 => True) r → sgG (KT P) D vwCl (fun q : Nat => base ≤ q) tys ad ks H1 → va_S (fun q : Nat => base ≤ q) s.heap H1 locs1 → W p l e R s m args below meth c H1 locs1 cells slots Q (F0 m (pc + 3) ls (.int r :: rest))) : W p l e R s m args below meth c H locs cells slots Q (F0 m pc ls st0) :=
  sg_callVi X hK hG hC hS hb (m_X11_holds l a0 h0 x1) h0 (k := 11) (ci := 11) rfl (C := RX11) (T := TX11) (N := 17) rfl wl_5_108 wl_1_1 wl_5_106 wl_5_107 (n := 1) (by decide +kernel) rfl rfl rfl hl hsize hst hW hR hf hdg kk

set_option maxHeartbeats 8000000 in
set_option maxRecDepth 100000 in
theorem m_X11_forced (l : Launch) {D : va_G} {base : Nat} {tys : List (ClassId × FieldType)} {ad ks : List Nat} {P : sgPm} (a0 : Nat) (h0 : isK ad ks 11 a0) : sgMi l (KT P) D vwCl base tys ad ks yX11_forced cX11_forced 1 (some .int) ({ frames := 7, cells := 0, slots := 0, locals := 177 }) [.ref a0] (fun r : Int32 => True) := by
  refine sg_ofW (by decide +kernel) (Nat.le_of_ble_eq_true rfl) (fun p e s m below meth c X hr hlk hb hK hC hG ls hl => ?_)
  have hS : va_S (fun q : Nat => base ≤ q) s.heap s.heap [] := va_S.rf
  have hl : lv_has ls 1 [(0, .ref a0)] := hl
  refine lv_aload_n X.1 X.2.1 dX11_forced_0 rfl (lv_at hl 0 rfl) ?_
  refine ca_X11_openNight X hK hG hC (fun _ h => h) hS hb a0 h0 wl_5_109 hl.1 (rest := []) rfl (Nat.le_of_ble_eq_true rfl) ⟨Nat.le_of_ble_eq_true rfl, Nat.le_of_ble_eq_true rfl⟩ ⟨Nat.le_of_ble_eq_true rfl, Nat.le_of_ble_eq_true rfl⟩ dX11_forced_1 (fun f1 locs hf1 hS => ?_)
  refine lv_if_eq (tgt := 21) X.1 X.2.1 dX11_forced_4 (by decide) (fun c2 => ?_) (fun c2 => ?_)
  · refine lv_iconst (v := (-1)) X.1 X.2.1 dX11_forced_21 (by decide +kernel) ?_
    exact sg_iret X hr hlk hb hK hC hG hS trivial dX11_forced_22
  · refine lv_aload_n X.1 X.2.1 dX11_forced_7 rfl (lv_at hl 0 rfl) ?_
    refine gf_X11_7 X hK hG h0 wl_2_202 dX11_forced_8 (fun q3 hq3 kq3 => ?_)
    refine lv_aload_n X.1 X.2.1 dX11_forced_11 rfl (lv_at hl 0 rfl) ?_
    refine gf_X11_3 X hK hG h0 wl_2_198 dX11_forced_12 (fun q4 hq4 kq4 => ?_)
    refine ca_X0_forcing X hK hG hC hS hb q3 hq3 q4 hq4 wl_5_117 hl.1 (rest := []) rfl (Nat.le_of_ble_eq_true rfl) ⟨Nat.le_of_ble_eq_true rfl, Nat.le_of_ble_eq_true rfl⟩ ⟨Nat.le_of_ble_eq_true rfl, Nat.le_of_ble_eq_true rfl⟩ dX11_forced_15 (fun f5 H locs hf5 hG hS => ?_)
    refine lv_goto (tgt := 22) X.1 X.2.1 dX11_forced_18 (by decide) ?_
    exact sg_iret X hr hlk hb hK hC hG hS trivial dX11_forced_22

theorem ca_X11_forced   (X : CallFix p m c cc nL s args sg_tbl own) (hK : va_K D vwCl tys s) (hG : sgG (KT P) D vwCl (fun q : Nat => base ≤ q) tys ad ks H) (hC : sgC base s) (hS : va_S (fun q : Nat => base ≤ q) s.heap H locs) (hb : base ≤ s.heap.size) (a0 : Nat) (h0 : isK ad ks 11 a0) (hl : Cond.methodLink own index yX11_forced ∈ sg_tbl) (hsize : ls.size = nL) (hst : st0 = [].reverse ++ .ref a0 :: rest) (hW : (rest.map fun v => v.category).sum ≤ 8) (hR : 8 ≤ R.frames ∧ 197 ≤ R.locals) (hf : cells ≤ R.cells ∧ slots ≤ R.slots) (hdg : decode cc pc = .ok (.invokevirtual index, 3)) (kk : ∀ (r : Int32) (H1 : Heap) (locs1 : List Loc), (fun r : Int32 => True) r → sgG (KT P) D vwCl (fun q : Nat => base ≤ q) tys ad ks H1 → va_S (fun q : Nat => base ≤ q) s.heap H1 locs1 → W p l e R s m args below meth c H1 locs1 cells slots Q (F0 m (pc + 3) ls (.int r :: rest))) : W p l e R s m args below meth c H locs cells slots Q (F0 m pc ls st0) :=
  sg_callVi X hK hG hC hS hb (m_X11_forced l a0 h0) h0 (k := 11) (ci := 11) rfl (C := RX11) (T := TX11) (N := 17) rfl wl_5_127 wl_1_1 wl_5_125 wl_5_126 (n := 0) (by decide +kernel) rfl rfl rfl hl hsize hst hW hR hf hdg kk

set_option maxHeartbeats 8000000 in
set_option maxRecDepth 100000 in
theorem m_X11_meant (l : Launch) {D : va_G} {base : Nat} {tys : List (ClassId × FieldType)} {ad ks : List Nat} {P : sgPm} (a0 : Nat) (h0 : isK ad ks 11 a0) : sgMi l (KT P) D vwCl base tys ad ks yX11_meant cX11_meant 1 (some .int) ({ frames := 1, cells := 0, slots := 0, locals := 20 }) [.ref a0] (fun r : Int32 => True) := by
  refine sg_ofW (by decide +kernel) (Nat.le_of_ble_eq_true rfl) (fun p e s m below meth c X hr hlk hb hK hC hG ls hl => ?_)
  have hS : va_S (fun q : Nat => base ≤ q) s.heap s.heap [] := va_S.rf
  have hl : lv_has ls 1 [(0, .ref a0)] := hl
  refine lv_aload_n X.1 X.2.1 dX11_meant_0 rfl (lv_at hl 0 rfl) ?_
  refine ca_X11_noLawn X hK hG hC (fun _ h => h) hS hb a0 h0 wl_4_74 hl.1 (rest := []) rfl (Nat.le_of_ble_eq_true rfl) ⟨Nat.le_of_ble_eq_true rfl, Nat.le_of_ble_eq_true rfl⟩ ⟨Nat.le_of_ble_eq_true rfl, Nat.le_of_ble_eq_true rfl⟩ dX11_meant_1 (fun f1 locs hf1 hS => ?_)
  refine lv_if_eq (tgt := 11) X.1 X.2.1 dX11_meant_4 (by decide) (fun c2 => ?_) (fun c2 => ?_)
  · refine lv_aload_n X.1 X.2.1 dX11_meant_11 rfl (lv_at hl 0 rfl) ?_
    refine gf_X11_3 X hK hG h0 wl_2_198 dX11_meant_12 (fun q3 hq3 kq3 => ?_)
    refine gf_X9_6 X hK hG hq3 wl_1_138 dX11_meant_15 (fun f4 hf4 kf4 => ?_)
    exact sg_iret X hr hlk hb hK hC hG hS trivial dX11_meant_18
  · refine lv_iconst (v := (-1)) X.1 X.2.1 dX11_meant_7 (by decide +kernel) ?_
    refine lv_goto (tgt := 18) X.1 X.2.1 dX11_meant_8 (by decide) ?_
    exact sg_iret X hr hlk hb hK hC hG hS trivial dX11_meant_18

theorem ca_X11_meant   (X : CallFix p m c cc nL s args sg_tbl own) (hK : va_K D vwCl tys s) (hG : sgG (KT P) D vwCl (fun q : Nat => base ≤ q) tys ad ks H) (hC : sgC base s) (hS : va_S (fun q : Nat => base ≤ q) s.heap H locs) (hb : base ≤ s.heap.size) (a0 : Nat) (h0 : isK ad ks 11 a0) (hl : Cond.methodLink own index yX11_meant ∈ sg_tbl) (hsize : ls.size = nL) (hst : st0 = [].reverse ++ .ref a0 :: rest) (hW : (rest.map fun v => v.category).sum ≤ 8) (hR : 2 ≤ R.frames ∧ 40 ≤ R.locals) (hf : cells ≤ R.cells ∧ slots ≤ R.slots) (hdg : decode cc pc = .ok (.invokevirtual index, 3)) (kk : ∀ (r : Int32) (H1 : Heap) (locs1 : List Loc), (fun r : Int32 => True) r → sgG (KT P) D vwCl (fun q : Nat => base ≤ q) tys ad ks H1 → va_S (fun q : Nat => base ≤ q) s.heap H1 locs1 → W p l e R s m args below meth c H1 locs1 cells slots Q (F0 m (pc + 3) ls (.int r :: rest))) : W p l e R s m args below meth c H locs cells slots Q (F0 m pc ls st0) :=
  sg_callVi X hK hG hC hS hb (m_X11_meant l a0 h0) h0 (k := 11) (ci := 11) rfl (C := RX11) (T := TX11) (N := 17) rfl wl_5_131 wl_1_1 wl_5_129 wl_5_130 (n := 0) (by decide +kernel) rfl rfl rfl hl hsize hst hW hR hf hdg kk

set_option maxHeartbeats 8000000 in
set_option maxRecDepth 100000 in
theorem m_X11_parts (l : Launch) {D : va_G} {base : Nat} {tys : List (ClassId × FieldType)} {ad ks : List Nat} {P : sgPm} (a0 : Nat) (h0 : isK ad ks 11 a0) (x1 : Int32) : sgMi l (KT P) D vwCl base tys ad ks yX11_parts cX11_parts 2 (some .int) ({ frames := 3, cells := 0, slots := 0, locals := 70 }) [.ref a0, .int x1] (fun r : Int32 => True) := by
  refine sg_ofW (by decide +kernel) (Nat.le_of_ble_eq_true rfl) (fun p e s m below meth c X hr hlk hb hK hC hG ls hl => ?_)
  have hS : va_S (fun q : Nat => base ≤ q) s.heap s.heap [] := va_S.rf
  have hl : lv_has ls 2 [(0, .ref a0), (1, .int x1)] := hl
  refine lv_aload_n X.1 X.2.1 dX11_parts_0 rfl (lv_at hl 0 rfl) ?_
  refine ca_X11_noLawn X hK hG hC (fun _ h => h) hS hb a0 h0 wl_4_74 hl.1 (rest := []) rfl (Nat.le_of_ble_eq_true rfl) ⟨Nat.le_of_ble_eq_true rfl, Nat.le_of_ble_eq_true rfl⟩ ⟨Nat.le_of_ble_eq_true rfl, Nat.le_of_ble_eq_true rfl⟩ dX11_parts_1 (fun f1 locs hf1 hS => ?_)
  refine lv_if_eq (tgt := 9) X.1 X.2.1 dX11_parts_4 (by decide) (fun c2 => ?_) (fun c2 => ?_)
  · refine lv_aload_n X.1 X.2.1 dX11_parts_9 rfl (lv_at hl 0 rfl) ?_
    refine gf_X11_8 X hK hG h0 wl_2_203 dX11_parts_10 (fun q3 hq3 kq3 => ?_)
    refine lv_aload_n X.1 X.2.1 dX11_parts_13 rfl (lv_at hl 0 rfl) ?_
    refine gf_X11_3 X hK hG h0 wl_2_198 dX11_parts_14 (fun q4 hq4 kq4 => ?_)
    refine gf_X9_0 X hK hG hq4 wl_1_118 dX11_parts_17 (fun f5 hf5 kf5 => ?_)
    refine ca_X2_findParts X hK hG hC hS hb q3 hq3 f5 hf5 wl_5_136 hl.1 (rest := []) rfl (Nat.le_of_ble_eq_true rfl) ⟨Nat.le_of_ble_eq_true rfl, Nat.le_of_ble_eq_true rfl⟩ ⟨Nat.le_of_ble_eq_true rfl, Nat.le_of_ble_eq_true rfl⟩ dX11_parts_20 (fun H locs hG hS => ?_)
    refine lv_iload_n X.1 X.2.1 dX11_parts_23 rfl (lv_at hl 1 rfl) ?_
    have B8_38 : ∀ (locs : List Loc) (ls : Array Slot), va_S (fun q : Nat => base ≤ q) s.heap H locs → lv_has ls 2 [(0, .ref a0), (1, .int x1)] → W p l e (headSpec (Cond.code yX11_parts cX11_parts 2 (some .int) :: sg_tbl) ({ frames := 3, cells := 0, slots := 0, locals := 70 })).room s m #[.ref a0, .int x1] below meth c H locs 0 0 (MQ below (va_Qi (fun r (_ : Unit) => (fun r : Int32 => True) r) (fun _ => sgB (KT P) D vwCl base tys ad ks) (fun q : Nat => base ≤ q)) #[.ref a0, .int x1] s 0 0 (fun q : Nat => base ≤ q)) (F0 m 38 ls []) := by
      intro locs ls hS hl
      refine lv_iload_n X.1 X.2.1 dX11_parts_38 rfl (lv_at hl 1 rfl) ?_
      refine lv_iconst (v := (-1)) X.1 X.2.1 dX11_parts_39 (by decide +kernel) ?_
      refine lv_icmp_ne (tgt := 53) X.1 X.2.1 dX11_parts_40 (by decide) (fun c9 => ?_) (fun c9 => ?_)
      · refine lv_iconst (v := (-1)) X.1 X.2.1 dX11_parts_53 (by decide +kernel) ?_
        exact sg_iret X hr hlk hb hK hC hG hS trivial dX11_parts_54
      · refine lv_aload_n X.1 X.2.1 dX11_parts_43 rfl (lv_at hl 0 rfl) ?_
        refine gf_X11_8 X hK hG h0 wl_2_203 dX11_parts_44 (fun q10 hq10 kq10 => ?_)
        refine gf_X2_6 X hK hG hq10 wl_2_152 dX11_parts_47 (fun f11 hf11 kf11 => ?_)
        refine lv_goto (tgt := 54) X.1 X.2.1 dX11_parts_50 (by decide) ?_
        exact sg_iret X hr hlk hb hK hC hG hS trivial dX11_parts_54
    refine lv_if_lt (tgt := 38) X.1 X.2.1 dX11_parts_24 (by decide) (fun c7 => ?_) (fun c7 => ?_)
    · exact B8_38 _ _ hS (lv_sub hl [0, 1] rfl)
    · refine lv_iload_n X.1 X.2.1 dX11_parts_27 rfl (lv_at hl 1 rfl) ?_
      refine lv_aload_n X.1 X.2.1 dX11_parts_28 rfl (lv_at hl 0 rfl) ?_
      refine gf_X11_8 X hK hG h0 wl_2_203 dX11_parts_29 (fun q12 hq12 kq12 => ?_)
      refine gf_X2_6 X hK hG hq12 wl_2_152 dX11_parts_32 (fun f13 hf13 kf13 => ?_)
      refine lv_icmp_lt (tgt := 55) X.1 X.2.1 dX11_parts_35 (by decide) (fun c14 => ?_) (fun c14 => ?_)
      · refine lv_aload_n X.1 X.2.1 dX11_parts_55 rfl (lv_at hl 0 rfl) ?_
        refine gg_X11_8 X hK hG h0 wl_2_203 kq12 dX11_parts_56 ?_
        refine gf_X2_1 X hK hG hq12 wl_2_146 dX11_parts_59 (fun q15 hq15 kq15 => ?_)
        refine lv_iload_n X.1 X.2.1 dX11_parts_62 rfl (lv_at hl 1 rfl) ?_
        refine al_15 X hK hG hq15 (iv_vpin (iv_lt (b' := 29) c14 (iv_ler (c' := 0) (iv_ge_of c7) (iv_c 0 (a := 0) (b := 0) (by decide +kernel)) (iv_top x1) (by decide +kernel)) hf13 (by decide +kernel)) (by decide +kernel)) dX11_parts_63 (fun f16 hf16 => ?_)
        exact sg_iret X hr hlk hb hK hC hG hS trivial dX11_parts_64
      · exact B8_38 _ _ hS (lv_sub hl [0, 1] rfl)
  · refine lv_iconst (v := (-1)) X.1 X.2.1 dX11_parts_7 (by decide +kernel) ?_
    exact sg_iret X hr hlk hb hK hC hG hS trivial dX11_parts_8

theorem ca_X11_parts   (X : CallFix p m c cc nL s args sg_tbl own) (hK : va_K D vwCl tys s) (hG : sgG (KT P) D vwCl (fun q : Nat => base ≤ q) tys ad ks H) (hC : sgC base s) (hS : va_S (fun q : Nat => base ≤ q) s.heap H locs) (hb : base ≤ s.heap.size) (a0 : Nat) (h0 : isK ad ks 11 a0) (x1 : Int32) (hl : Cond.methodLink own index yX11_parts ∈ sg_tbl) (hsize : ls.size = nL) (hst : st0 = [.int x1].reverse ++ .ref a0 :: rest) (hW : (rest.map fun v => v.category).sum ≤ 8) (hR : 4 ≤ R.frames ∧ 91 ≤ R.locals) (hf : cells ≤ R.cells ∧ slots ≤ R.slots) (hdg : decode cc pc = .ok (.invokevirtual index, 3)) (kk : ∀ (r : Int32) (H1 : Heap) (locs1 : List Loc), (fun r : Int32 => True) r → sgG (KT P) D vwCl (fun q : Nat => base ≤ q) tys ad ks H1 → va_S (fun q : Nat => base ≤ q) s.heap H1 locs1 → W p l e R s m args below meth c H1 locs1 cells slots Q (F0 m (pc + 3) ls (.int r :: rest))) : W p l e R s m args below meth c H locs cells slots Q (F0 m pc ls st0) :=
  sg_callVi X hK hG hC hS hb (m_X11_parts l a0 h0 x1) h0 (k := 11) (ci := 11) rfl (C := RX11) (T := TX11) (N := 17) rfl wl_5_135 wl_1_1 wl_5_133 wl_5_134 (n := 1) (by decide +kernel) rfl rfl rfl hl hsize hst hW hR hf hdg kk

set_option maxHeartbeats 8000000 in
set_option maxRecDepth 100000 in
theorem m_X11_book (l : Launch) {D : va_G} {base : Nat} {tys : List (ClassId × FieldType)} {ad ks : List Nat} {P : sgPm} (a0 : Nat) (h0 : isK ad ks 11 a0) (x1 : Int32) (x2 : Int32) (h2 : iv 0 1 x2) : sgMi l (KT P) D vwCl base tys ad ks yX11_book cX11_book 3 (some .int) ({ frames := 2, cells := 0, slots := 0, locals := 42 }) [.ref a0, .int x1, .int x2] (fun r : Int32 => True) := by
  refine sg_ofW (by decide +kernel) (Nat.le_of_ble_eq_true rfl) (fun p e s m below meth c X hr hlk hb hK hC hG ls hl => ?_)
  have hS : va_S (fun q : Nat => base ≤ q) s.heap s.heap [] := va_S.rf
  have hl : lv_has ls 3 [(0, .ref a0), (1, .int x1), (2, .int x2)] := hl
  refine lv_aload_n X.1 X.2.1 dX11_book_0 rfl (lv_at hl 0 rfl) ?_
  refine lv_iload_n X.1 X.2.1 dX11_book_1 rfl (lv_at hl 1 rfl) ?_
  refine ca_X11_isCell X hK hG hC (fun _ h => h) hS hb a0 h0 x1 wl_5_217 hl.1 (rest := []) rfl (Nat.le_of_ble_eq_true rfl) ⟨Nat.le_of_ble_eq_true rfl, Nat.le_of_ble_eq_true rfl⟩ ⟨Nat.le_of_ble_eq_true rfl, Nat.le_of_ble_eq_true rfl⟩ dX11_book_2 (fun f1 locs hf1 hS => ?_)
  refine lv_if_eq (tgt := 18) X.1 X.2.1 dX11_book_5 (by decide) (fun c2 => ?_) (fun c2 => ?_)
  · refine lv_iconst (v := (-1)) X.1 X.2.1 dX11_book_18 (by decide +kernel) ?_
    exact sg_iret X hr hlk hb hK hC hG hS trivial dX11_book_19
  · refine lv_aload_n X.1 X.2.1 dX11_book_8 rfl (lv_at hl 0 rfl) ?_
    refine lv_iconst (v := 1) X.1 X.2.1 dX11_book_9 (by decide +kernel) ?_
    refine lv_iload_n X.1 X.2.1 dX11_book_10 rfl (lv_at hl 1 rfl) ?_
    refine lv_ishl X.1 X.2.1 dX11_book_11 ?_
    refine lv_topi (fun f3 ef3 => ?_)
    refine ca_X11_kindOf X hK hG hC (fun _ h => h) hS hb a0 h0 f3 wl_5_221 hl.1 (rest := []) rfl (Nat.le_of_ble_eq_true rfl) ⟨Nat.le_of_ble_eq_true rfl, Nat.le_of_ble_eq_true rfl⟩ ⟨Nat.le_of_ble_eq_true rfl, Nat.le_of_ble_eq_true rfl⟩ dX11_book_12 (fun f4 locs hf4 hS => ?_)
    refine lv_if_eq (tgt := 20) X.1 X.2.1 dX11_book_15 (by decide) (fun c5 => ?_) (fun c5 => ?_)
    · refine lv_aload_n X.1 X.2.1 dX11_book_20 rfl (lv_at hl 0 rfl) ?_
      refine gf_X11_9 X hK hG h0 wl_2_204 dX11_book_21 (fun q6 hq6 kq6 => ?_)
      refine lv_aload_n X.1 X.2.1 dX11_book_24 rfl (lv_at hl 0 rfl) ?_
      refine gf_X11_10 X hK hG h0 wl_2_205 dX11_book_25 (fun q7 hq7 kq7 => ?_)
      refine lv_iload_n X.1 X.2.1 dX11_book_28 rfl (lv_at hl 1 rfl) ?_
      refine lv_aload_n X.1 X.2.1 dX11_book_29 rfl (lv_at hl 0 rfl) ?_
      refine gf_X11_3 X hK hG h0 wl_2_198 dX11_book_30 (fun q8 hq8 kq8 => ?_)
      refine gf_X9_0 X hK hG hq8 wl_1_118 dX11_book_33 (fun f9 hf9 kf9 => ?_)
      refine ca_X4_around X hK hG hC (fun _ h => h) hS hb q7 hq7 x1 f9 wl_5_225 hl.1 (rest := [.ref q6]) rfl (Nat.le_of_ble_eq_true rfl) ⟨Nat.le_of_ble_eq_true rfl, Nat.le_of_ble_eq_true rfl⟩ ⟨Nat.le_of_ble_eq_true rfl, Nat.le_of_ble_eq_true rfl⟩ dX11_book_36 (fun f10 locs hf10 hS => ?_)
      refine lv_iload_n X.1 X.2.1 dX11_book_39 rfl (lv_at hl 2 rfl) ?_
      refine ca_X1_add X hK hG hC hS hb q6 hq6 f10 x2 h2 wl_5_226 hl.1 (rest := []) rfl (Nat.le_of_ble_eq_true rfl) ⟨Nat.le_of_ble_eq_true rfl, Nat.le_of_ble_eq_true rfl⟩ ⟨Nat.le_of_ble_eq_true rfl, Nat.le_of_ble_eq_true rfl⟩ dX11_book_40 (fun f11 H locs hf11 hG hS => ?_)
      exact sg_iret X hr hlk hb hK hC hG hS trivial dX11_book_43
    · refine lv_iconst (v := (-1)) X.1 X.2.1 dX11_book_18 (by decide +kernel) ?_
      exact sg_iret X hr hlk hb hK hC hG hS trivial dX11_book_19

theorem ca_X11_book   (X : CallFix p m c cc nL s args sg_tbl own) (hK : va_K D vwCl tys s) (hG : sgG (KT P) D vwCl (fun q : Nat => base ≤ q) tys ad ks H) (hC : sgC base s) (hS : va_S (fun q : Nat => base ≤ q) s.heap H locs) (hb : base ≤ s.heap.size) (a0 : Nat) (h0 : isK ad ks 11 a0) (x1 : Int32) (x2 : Int32) (h2 : iv 0 1 x2) (hl : Cond.methodLink own index yX11_book ∈ sg_tbl) (hsize : ls.size = nL) (hst : st0 = [.int x1, .int x2].reverse ++ .ref a0 :: rest) (hW : (rest.map fun v => v.category).sum ≤ 8) (hR : 3 ≤ R.frames ∧ 64 ≤ R.locals) (hf : cells ≤ R.cells ∧ slots ≤ R.slots) (hdg : decode cc pc = .ok (.invokevirtual index, 3)) (kk : ∀ (r : Int32) (H1 : Heap) (locs1 : List Loc), (fun r : Int32 => True) r → sgG (KT P) D vwCl (fun q : Nat => base ≤ q) tys ad ks H1 → va_S (fun q : Nat => base ≤ q) s.heap H1 locs1 → W p l e R s m args below meth c H1 locs1 cells slots Q (F0 m (pc + 3) ls (.int r :: rest))) : W p l e R s m args below meth c H locs cells slots Q (F0 m pc ls st0) :=
  sg_callVi X hK hG hC hS hb (m_X11_book l a0 h0 x1 x2 h2) h0 (k := 11) (ci := 11) rfl (C := RX11) (T := TX11) (N := 17) rfl wl_5_216 wl_1_1 wl_5_214 wl_5_215 (n := 2) (by decide +kernel) rfl rfl rfl hl hsize hst hW hR hf hdg kk
end
