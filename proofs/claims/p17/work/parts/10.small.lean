abbrev cX1_add : ByteArray := prog_3_method_3_code
def yX1_add : MethodName := ⟨RX1, "add", "(IZ)I"⟩
abbrev cX1_clear : ByteArray := prog_3_method_2_code
def yX1_clear : MethodName := ⟨RX1, "clear", "()V"⟩
abbrev cX1_fits : ByteArray := prog_3_method_4_code
def yX1_fits : MethodName := ⟨RX1, "fits", "(II)Z"⟩
abbrev cX1_fitting : ByteArray := prog_3_method_5_code
def yX1_fitting : MethodName := ⟨RX1, "fitting", "(I)I"⟩
abbrev cX4_beside : ByteArray := prog_6_method_12_code
def yX4_beside : MethodName := ⟨RX4, "beside", "(I)I"⟩
abbrev cX4_column : ByteArray := prog_6_method_14_code
def yX4_column : MethodName := ⟨RX4, "column", "(I)I"⟩
abbrev cX4_hasLine : ByteArray := prog_6_method_16_code
def yX4_hasLine : MethodName := ⟨RX4, "hasLine", "(I)Z"⟩
abbrev cX4_mirrors : ByteArray := prog_6_method_22_code
def yX4_mirrors : MethodName := ⟨RX4, "mirrors", "()I"⟩
abbrev cX4_row : ByteArray := prog_6_method_13_code
def yX4_row : MethodName := ⟨RX4, "row", "(I)I"⟩
abbrev cX4_startsBut : ByteArray := prog_6_method_17_code
def yX4_startsBut : MethodName := ⟨RX4, "startsBut", "(III)I"⟩
abbrev cX9_begin : ByteArray := prog_11_method_2_code
def yX9_begin : MethodName := ⟨RX9, "begin", "(II)V"⟩
abbrev cX9_takeFrom : ByteArray := prog_11_method_3_code
def yX9_takeFrom : MethodName := ⟨RX9, "takeFrom", "(LLawnAhead$State;)V"⟩
theorem dX1_add_0 : decode cX1_add 0 = .ok (.aload_n 0, 1) := by decide +kernel
theorem dX1_add_1 : decode cX1_add 1 = .ok (.getfield 19, 3) := by decide +kernel
theorem dX1_add_4 : decode cX1_add 4 = .ok (.bipush 12, 2) := by decide +kernel
theorem dX1_add_6 : decode cX1_add 6 = .ok (.if_icmp .lt 5, 3) := by decide +kernel
theorem dX1_add_9 : decode cX1_add 9 = .ok (.iconst (-1), 1) := by decide +kernel
theorem dX1_add_10 : decode cX1_add 10 = .ok (.ireturn, 1) := by decide +kernel
theorem dX1_add_11 : decode cX1_add 11 = .ok (.aload_n 0, 1) := by decide +kernel
theorem dX1_add_12 : decode cX1_add 12 = .ok (.getfield 11, 3) := by decide +kernel
theorem dX1_add_15 : decode cX1_add 15 = .ok (.aload_n 0, 1) := by decide +kernel
theorem dX1_add_16 : decode cX1_add 16 = .ok (.getfield 19, 3) := by decide +kernel
theorem dX1_add_19 : decode cX1_add 19 = .ok (.iload_n 1, 1) := by decide +kernel
theorem dX1_add_20 : decode cX1_add 20 = .ok (.iastore, 1) := by decide +kernel
theorem dX1_add_21 : decode cX1_add 21 = .ok (.aload_n 0, 1) := by decide +kernel
theorem dX1_add_22 : decode cX1_add 22 = .ok (.getfield 15, 3) := by decide +kernel
theorem dX1_add_25 : decode cX1_add 25 = .ok (.aload_n 0, 1) := by decide +kernel
theorem dX1_add_26 : decode cX1_add 26 = .ok (.getfield 19, 3) := by decide +kernel
theorem dX1_add_29 : decode cX1_add 29 = .ok (.iload_n 2, 1) := by decide +kernel
theorem dX1_add_30 : decode cX1_add 30 = .ok (.bastore, 1) := by decide +kernel
theorem dX1_add_31 : decode cX1_add 31 = .ok (.aload_n 0, 1) := by decide +kernel
theorem dX1_add_32 : decode cX1_add 32 = .ok (.dup, 1) := by decide +kernel
theorem dX1_add_33 : decode cX1_add 33 = .ok (.getfield 19, 3) := by decide +kernel
theorem dX1_add_36 : decode cX1_add 36 = .ok (.iconst 1, 1) := by decide +kernel
theorem dX1_add_37 : decode cX1_add 37 = .ok (.iadd, 1) := by decide +kernel
theorem dX1_add_38 : decode cX1_add 38 = .ok (.putfield 19, 3) := by decide +kernel
theorem dX1_add_41 : decode cX1_add 41 = .ok (.aload_n 0, 1) := by decide +kernel
theorem dX1_add_42 : decode cX1_add 42 = .ok (.getfield 19, 3) := by decide +kernel
theorem dX1_add_45 : decode cX1_add 45 = .ok (.ireturn, 1) := by decide +kernel
theorem dX1_clear_0 : decode cX1_clear 0 = .ok (.aload_n 0, 1) := by decide +kernel
theorem dX1_clear_1 : decode cX1_clear 1 = .ok (.iconst 0, 1) := by decide +kernel
theorem dX1_clear_2 : decode cX1_clear 2 = .ok (.putfield 19, 3) := by decide +kernel
theorem dX1_clear_5 : decode cX1_clear 5 = .ok (.return_, 1) := by decide +kernel
theorem dX1_fits_0 : decode cX1_fits 0 = .ok (.iconst 0, 1) := by decide +kernel
theorem dX1_fits_1 : decode cX1_fits 1 = .ok (.istore_n 3, 1) := by decide +kernel
theorem dX1_fits_2 : decode cX1_fits 2 = .ok (.iload_n 3, 1) := by decide +kernel
theorem dX1_fits_3 : decode cX1_fits 3 = .ok (.aload_n 0, 1) := by decide +kernel
theorem dX1_fits_4 : decode cX1_fits 4 = .ok (.getfield 19, 3) := by decide +kernel
theorem dX1_fits_7 : decode cX1_fits 7 = .ok (.if_icmp .ge 49, 3) := by decide +kernel
theorem dX1_fits_10 : decode cX1_fits 10 = .ok (.aload_n 0, 1) := by decide +kernel
theorem dX1_fits_11 : decode cX1_fits 11 = .ok (.getfield 11, 3) := by decide +kernel
theorem dX1_fits_14 : decode cX1_fits 14 = .ok (.iload_n 3, 1) := by decide +kernel
theorem dX1_fits_15 : decode cX1_fits 15 = .ok (.iaload, 1) := by decide +kernel
theorem dX1_fits_16 : decode cX1_fits 16 = .ok (.iload_n 1, 1) := by decide +kernel
theorem dX1_fits_17 : decode cX1_fits 17 = .ok (.if_icmp .lt 17, 3) := by decide +kernel
theorem dX1_fits_20 : decode cX1_fits 20 = .ok (.aload_n 0, 1) := by decide +kernel
theorem dX1_fits_21 : decode cX1_fits 21 = .ok (.getfield 11, 3) := by decide +kernel
theorem dX1_fits_24 : decode cX1_fits 24 = .ok (.iload_n 3, 1) := by decide +kernel
theorem dX1_fits_25 : decode cX1_fits 25 = .ok (.iaload, 1) := by decide +kernel
theorem dX1_fits_26 : decode cX1_fits 26 = .ok (.iload_n 2, 1) := by decide +kernel
theorem dX1_fits_27 : decode cX1_fits 27 = .ok (.if_icmp .gt 7, 3) := by decide +kernel
theorem dX1_fits_30 : decode cX1_fits 30 = .ok (.iconst 1, 1) := by decide +kernel
theorem dX1_fits_31 : decode cX1_fits 31 = .ok (.goto 4, 3) := by decide +kernel
theorem dX1_fits_34 : decode cX1_fits 34 = .ok (.iconst 0, 1) := by decide +kernel
theorem dX1_fits_35 : decode cX1_fits 35 = .ok (.istore 4, 2) := by decide +kernel
theorem dX1_fits_37 : decode cX1_fits 37 = .ok (.iload 4, 2) := by decide +kernel
theorem dX1_fits_39 : decode cX1_fits 39 = .ok (.aload_n 0, 1) := by decide +kernel
theorem dX1_fits_40 : decode cX1_fits 40 = .ok (.getfield 15, 3) := by decide +kernel
theorem dX1_fits_43 : decode cX1_fits 43 = .ok (.iload_n 3, 1) := by decide +kernel
theorem dX1_fits_44 : decode cX1_fits 44 = .ok (.baload, 1) := by decide +kernel
theorem dX1_fits_45 : decode cX1_fits 45 = .ok (.if_icmp .eq 5, 3) := by decide +kernel
theorem dX1_fits_48 : decode cX1_fits 48 = .ok (.iconst 0, 1) := by decide +kernel
theorem dX1_fits_49 : decode cX1_fits 49 = .ok (.ireturn, 1) := by decide +kernel
theorem dX1_fits_50 : decode cX1_fits 50 = .ok (.iinc 3 1, 3) := by decide +kernel
theorem dX1_fits_53 : decode cX1_fits 53 = .ok (.goto (-51), 3) := by decide +kernel
theorem dX1_fits_56 : decode cX1_fits 56 = .ok (.iconst 1, 1) := by decide +kernel
theorem dX1_fits_57 : decode cX1_fits 57 = .ok (.ireturn, 1) := by decide +kernel
theorem dX1_fitting_0 : decode cX1_fitting 0 = .ok (.iconst 0, 1) := by decide +kernel
theorem dX1_fitting_1 : decode cX1_fitting 1 = .ok (.istore_n 2, 1) := by decide +kernel
theorem dX1_fitting_2 : decode cX1_fitting 2 = .ok (.iconst 0, 1) := by decide +kernel
theorem dX1_fitting_3 : decode cX1_fitting 3 = .ok (.istore_n 3, 1) := by decide +kernel
theorem dX1_fitting_4 : decode cX1_fitting 4 = .ok (.iload_n 3, 1) := by decide +kernel
theorem dX1_fitting_5 : decode cX1_fitting 5 = .ok (.bipush 8, 2) := by decide +kernel
theorem dX1_fitting_7 : decode cX1_fitting 7 = .ok (.if_icmp .gt 51, 3) := by decide +kernel
theorem dX1_fitting_10 : decode cX1_fitting 10 = .ok (.iload_n 3, 1) := by decide +kernel
theorem dX1_fitting_11 : decode cX1_fitting 11 = .ok (.istore 4, 2) := by decide +kernel
theorem dX1_fitting_13 : decode cX1_fitting 13 = .ok (.iload 4, 2) := by decide +kernel
theorem dX1_fitting_15 : decode cX1_fitting 15 = .ok (.bipush 8, 2) := by decide +kernel
theorem dX1_fitting_17 : decode cX1_fitting 17 = .ok (.if_icmp .gt 35, 3) := by decide +kernel
theorem dX1_fitting_20 : decode cX1_fitting 20 = .ok (.aload_n 0, 1) := by decide +kernel
theorem dX1_fitting_21 : decode cX1_fitting 21 = .ok (.iload_n 3, 1) := by decide +kernel
theorem dX1_fitting_22 : decode cX1_fitting 22 = .ok (.iload 4, 2) := by decide +kernel
theorem dX1_fitting_24 : decode cX1_fitting 24 = .ok (.invokevirtual 23, 3) := by decide +kernel
theorem dX1_fitting_27 : decode cX1_fitting 27 = .ok (.ifCond .eq 19, 3) := by decide +kernel
theorem dX1_fitting_30 : decode cX1_fitting 30 = .ok (.iload_n 2, 1) := by decide +kernel
theorem dX1_fitting_31 : decode cX1_fitting 31 = .ok (.iload_n 1, 1) := by decide +kernel
theorem dX1_fitting_32 : decode cX1_fitting 32 = .ok (.if_icmp .ne 11, 3) := by decide +kernel
theorem dX1_fitting_35 : decode cX1_fitting 35 = .ok (.bipush 10, 2) := by decide +kernel
theorem dX1_fitting_37 : decode cX1_fitting 37 = .ok (.iload_n 3, 1) := by decide +kernel
theorem dX1_fitting_38 : decode cX1_fitting 38 = .ok (.imul, 1) := by decide +kernel
theorem dX1_fitting_39 : decode cX1_fitting 39 = .ok (.iload 4, 2) := by decide +kernel
theorem dX1_fitting_41 : decode cX1_fitting 41 = .ok (.iadd, 1) := by decide +kernel
theorem dX1_fitting_42 : decode cX1_fitting 42 = .ok (.ireturn, 1) := by decide +kernel
theorem dX1_fitting_43 : decode cX1_fitting 43 = .ok (.iinc 2 1, 3) := by decide +kernel
theorem dX1_fitting_46 : decode cX1_fitting 46 = .ok (.iinc 4 1, 3) := by decide +kernel
theorem dX1_fitting_49 : decode cX1_fitting 49 = .ok (.goto (-36), 3) := by decide +kernel
theorem dX1_fitting_52 : decode cX1_fitting 52 = .ok (.iinc 3 1, 3) := by decide +kernel
theorem dX1_fitting_55 : decode cX1_fitting 55 = .ok (.goto (-51), 3) := by decide +kernel
theorem dX1_fitting_58 : decode cX1_fitting 58 = .ok (.iload_n 1, 1) := by decide +kernel
theorem dX1_fitting_59 : decode cX1_fitting 59 = .ok (.iconst (-1), 1) := by decide +kernel
theorem dX1_fitting_60 : decode cX1_fitting 60 = .ok (.if_icmp .ne 7, 3) := by decide +kernel
theorem dX1_fitting_63 : decode cX1_fitting 63 = .ok (.iload_n 2, 1) := by decide +kernel
theorem dX1_fitting_64 : decode cX1_fitting 64 = .ok (.goto 4, 3) := by decide +kernel
theorem dX1_fitting_67 : decode cX1_fitting 67 = .ok (.iconst (-1), 1) := by decide +kernel
theorem dX1_fitting_68 : decode cX1_fitting 68 = .ok (.ireturn, 1) := by decide +kernel
theorem dX4_beside_0 : decode cX4_beside 0 = .ok (.iload_n 1, 1) := by decide +kernel
theorem dX4_beside_1 : decode cX4_beside 1 = .ok (.aload_n 0, 1) := by decide +kernel
theorem dX4_beside_2 : decode cX4_beside 2 = .ok (.getfield 21, 3) := by decide +kernel
theorem dX4_beside_5 : decode cX4_beside 5 = .ok (.iconst 0, 1) := by decide +kernel
theorem dX4_beside_6 : decode cX4_beside 6 = .ok (.iaload, 1) := by decide +kernel
theorem dX4_beside_7 : decode cX4_beside 7 = .ok (.iand, 1) := by decide +kernel
theorem dX4_beside_8 : decode cX4_beside 8 = .ok (.iconst 1, 1) := by decide +kernel
theorem dX4_beside_9 : decode cX4_beside 9 = .ok (.ishl, 1) := by decide +kernel
theorem dX4_beside_10 : decode cX4_beside 10 = .ok (.iload_n 1, 1) := by decide +kernel
theorem dX4_beside_11 : decode cX4_beside 11 = .ok (.iconst 1, 1) := by decide +kernel
theorem dX4_beside_12 : decode cX4_beside 12 = .ok (.iushr, 1) := by decide +kernel
theorem dX4_beside_13 : decode cX4_beside 13 = .ok (.aload_n 0, 1) := by decide +kernel
theorem dX4_beside_14 : decode cX4_beside 14 = .ok (.getfield 21, 3) := by decide +kernel
theorem dX4_beside_17 : decode cX4_beside 17 = .ok (.iconst 0, 1) := by decide +kernel
theorem dX4_beside_18 : decode cX4_beside 18 = .ok (.iaload, 1) := by decide +kernel
theorem dX4_beside_19 : decode cX4_beside 19 = .ok (.iand, 1) := by decide +kernel
theorem dX4_beside_20 : decode cX4_beside 20 = .ok (.ior, 1) := by decide +kernel
theorem dX4_beside_21 : decode cX4_beside 21 = .ok (.istore_n 2, 1) := by decide +kernel
theorem dX4_beside_22 : decode cX4_beside 22 = .ok (.iload_n 2, 1) := by decide +kernel
theorem dX4_beside_23 : decode cX4_beside 23 = .ok (.iload_n 1, 1) := by decide +kernel
theorem dX4_beside_24 : decode cX4_beside 24 = .ok (.aload_n 0, 1) := by decide +kernel
theorem dX4_beside_25 : decode cX4_beside 25 = .ok (.getfield 117, 3) := by decide +kernel
theorem dX4_beside_28 : decode cX4_beside 28 = .ok (.ishl, 1) := by decide +kernel
theorem dX4_beside_29 : decode cX4_beside 29 = .ok (.ior, 1) := by decide +kernel
theorem dX4_beside_30 : decode cX4_beside 30 = .ok (.iload_n 1, 1) := by decide +kernel
theorem dX4_beside_31 : decode cX4_beside 31 = .ok (.aload_n 0, 1) := by decide +kernel
theorem dX4_beside_32 : decode cX4_beside 32 = .ok (.getfield 117, 3) := by decide +kernel
theorem dX4_beside_35 : decode cX4_beside 35 = .ok (.iushr, 1) := by decide +kernel
theorem dX4_beside_36 : decode cX4_beside 36 = .ok (.ior, 1) := by decide +kernel
theorem dX4_beside_37 : decode cX4_beside 37 = .ok (.aload_n 0, 1) := by decide +kernel
theorem dX4_beside_38 : decode cX4_beside 38 = .ok (.getfield 126, 3) := by decide +kernel
theorem dX4_beside_41 : decode cX4_beside 41 = .ok (.iand, 1) := by decide +kernel
theorem dX4_beside_42 : decode cX4_beside 42 = .ok (.ireturn, 1) := by decide +kernel
theorem dX4_column_0 : decode cX4_column 0 = .ok (.aload_n 0, 1) := by decide +kernel
theorem dX4_column_1 : decode cX4_column 1 = .ok (.getfield 117, 3) := by decide +kernel
theorem dX4_column_4 : decode cX4_column 4 = .ok (.iconst 1, 1) := by decide +kernel
theorem dX4_column_5 : decode cX4_column 5 = .ok (.if_icmp .ge 7, 3) := by decide +kernel
theorem dX4_column_8 : decode cX4_column 8 = .ok (.iconst 0, 1) := by decide +kernel
theorem dX4_column_9 : decode cX4_column 9 = .ok (.goto 9, 3) := by decide +kernel
theorem dX4_column_12 : decode cX4_column 12 = .ok (.iload_n 1, 1) := by decide +kernel
theorem dX4_column_13 : decode cX4_column 13 = .ok (.aload_n 0, 1) := by decide +kernel
theorem dX4_column_14 : decode cX4_column 14 = .ok (.getfield 117, 3) := by decide +kernel
theorem dX4_column_17 : decode cX4_column 17 = .ok (.irem, 1) := by decide +kernel
theorem dX4_column_18 : decode cX4_column 18 = .ok (.ireturn, 1) := by decide +kernel
theorem dX4_hasLine_0 : decode cX4_hasLine 0 = .ok (.iconst 0, 1) := by decide +kernel
theorem dX4_hasLine_1 : decode cX4_hasLine 1 = .ok (.istore_n 2, 1) := by decide +kernel
theorem dX4_hasLine_2 : decode cX4_hasLine 2 = .ok (.iload_n 2, 1) := by decide +kernel
theorem dX4_hasLine_3 : decode cX4_hasLine 3 = .ok (.iconst 4, 1) := by decide +kernel
theorem dX4_hasLine_4 : decode cX4_hasLine 4 = .ok (.if_icmp .ge 21, 3) := by decide +kernel
theorem dX4_hasLine_7 : decode cX4_hasLine 7 = .ok (.aload_n 0, 1) := by decide +kernel
theorem dX4_hasLine_8 : decode cX4_hasLine 8 = .ok (.iconst (-1), 1) := by decide +kernel
theorem dX4_hasLine_9 : decode cX4_hasLine 9 = .ok (.iload_n 2, 1) := by decide +kernel
theorem dX4_hasLine_10 : decode cX4_hasLine 10 = .ok (.iload_n 1, 1) := by decide +kernel
theorem dX4_hasLine_11 : decode cX4_hasLine 11 = .ok (.invokevirtual 150, 3) := by decide +kernel
theorem dX4_hasLine_14 : decode cX4_hasLine 14 = .ok (.ifCond .eq 5, 3) := by decide +kernel
theorem dX4_hasLine_17 : decode cX4_hasLine 17 = .ok (.iconst 1, 1) := by decide +kernel
theorem dX4_hasLine_18 : decode cX4_hasLine 18 = .ok (.ireturn, 1) := by decide +kernel
theorem dX4_hasLine_19 : decode cX4_hasLine 19 = .ok (.iinc 2 1, 3) := by decide +kernel
theorem dX4_hasLine_22 : decode cX4_hasLine 22 = .ok (.goto (-20), 3) := by decide +kernel
theorem dX4_hasLine_25 : decode cX4_hasLine 25 = .ok (.iconst 0, 1) := by decide +kernel
theorem dX4_hasLine_26 : decode cX4_hasLine 26 = .ok (.ireturn, 1) := by decide +kernel
theorem dX4_mirrors_0 : decode cX4_mirrors 0 = .ok (.aload_n 0, 1) := by decide +kernel
theorem dX4_mirrors_1 : decode cX4_mirrors 1 = .ok (.getfield 117, 3) := by decide +kernel
theorem dX4_mirrors_4 : decode cX4_mirrors 4 = .ok (.aload_n 0, 1) := by decide +kernel
theorem dX4_mirrors_5 : decode cX4_mirrors 5 = .ok (.getfield 120, 3) := by decide +kernel
theorem dX4_mirrors_8 : decode cX4_mirrors 8 = .ok (.if_icmp .ne 8, 3) := by decide +kernel
theorem dX4_mirrors_11 : decode cX4_mirrors 11 = .ok (.bipush 8, 2) := by decide +kernel
theorem dX4_mirrors_13 : decode cX4_mirrors 13 = .ok (.goto 4, 3) := by decide +kernel
theorem dX4_mirrors_16 : decode cX4_mirrors 16 = .ok (.iconst 4, 1) := by decide +kernel
theorem dX4_mirrors_17 : decode cX4_mirrors 17 = .ok (.ireturn, 1) := by decide +kernel
theorem dX4_row_0 : decode cX4_row 0 = .ok (.aload_n 0, 1) := by decide +kernel
theorem dX4_row_1 : decode cX4_row 1 = .ok (.getfield 117, 3) := by decide +kernel
theorem dX4_row_4 : decode cX4_row 4 = .ok (.iconst 1, 1) := by decide +kernel
theorem dX4_row_5 : decode cX4_row 5 = .ok (.if_icmp .ge 7, 3) := by decide +kernel
theorem dX4_row_8 : decode cX4_row 8 = .ok (.iconst 0, 1) := by decide +kernel
theorem dX4_row_9 : decode cX4_row 9 = .ok (.goto 9, 3) := by decide +kernel
theorem dX4_row_12 : decode cX4_row 12 = .ok (.iload_n 1, 1) := by decide +kernel
theorem dX4_row_13 : decode cX4_row 13 = .ok (.aload_n 0, 1) := by decide +kernel
theorem dX4_row_14 : decode cX4_row 14 = .ok (.getfield 117, 3) := by decide +kernel
theorem dX4_row_17 : decode cX4_row 17 = .ok (.idiv, 1) := by decide +kernel
theorem dX4_row_18 : decode cX4_row 18 = .ok (.ireturn, 1) := by decide +kernel
theorem dX4_startsBut_0 : decode cX4_startsBut 0 = .ok (.aload_n 0, 1) := by decide +kernel
theorem dX4_startsBut_1 : decode cX4_startsBut 1 = .ok (.getfield 24, 3) := by decide +kernel
theorem dX4_startsBut_4 : decode cX4_startsBut 4 = .ok (.iload_n 2, 1) := by decide +kernel
theorem dX4_startsBut_5 : decode cX4_startsBut 5 = .ok (.iaload, 1) := by decide +kernel
theorem dX4_startsBut_6 : decode cX4_startsBut 6 = .ok (.istore 4, 2) := by decide +kernel
theorem dX4_startsBut_8 : decode cX4_startsBut 8 = .ok (.iconst 0, 1) := by decide +kernel
theorem dX4_startsBut_9 : decode cX4_startsBut 9 = .ok (.istore 5, 2) := by decide +kernel
theorem dX4_startsBut_11 : decode cX4_startsBut 11 = .ok (.iload 5, 2) := by decide +kernel
theorem dX4_startsBut_13 : decode cX4_startsBut 13 = .ok (.aload_n 0, 1) := by decide +kernel
theorem dX4_startsBut_14 : decode cX4_startsBut 14 = .ok (.getfield 11, 3) := by decide +kernel
theorem dX4_startsBut_17 : decode cX4_startsBut 17 = .ok (.iconst 2, 1) := by decide +kernel
theorem dX4_startsBut_18 : decode cX4_startsBut 18 = .ok (.iaload, 1) := by decide +kernel
theorem dX4_startsBut_19 : decode cX4_startsBut 19 = .ok (.if_icmp .ge 36, 3) := by decide +kernel
theorem dX4_startsBut_22 : decode cX4_startsBut 22 = .ok (.iload 4, 2) := by decide +kernel
theorem dX4_startsBut_24 : decode cX4_startsBut 24 = .ok (.ifCond .eq 31, 3) := by decide +kernel
theorem dX4_startsBut_27 : decode cX4_startsBut 27 = .ok (.iload 5, 2) := by decide +kernel
theorem dX4_startsBut_29 : decode cX4_startsBut 29 = .ok (.iload_n 1, 1) := by decide +kernel
theorem dX4_startsBut_30 : decode cX4_startsBut 30 = .ok (.if_icmp .eq 19, 3) := by decide +kernel
theorem dX4_startsBut_33 : decode cX4_startsBut 33 = .ok (.iload 4, 2) := by decide +kernel
theorem dX4_startsBut_35 : decode cX4_startsBut 35 = .ok (.iload_n 3, 1) := by decide +kernel
theorem dX4_startsBut_36 : decode cX4_startsBut 36 = .ok (.iload 5, 2) := by decide +kernel
theorem dX4_startsBut_38 : decode cX4_startsBut 38 = .ok (.aload_n 0, 1) := by decide +kernel
theorem dX4_startsBut_39 : decode cX4_startsBut 39 = .ok (.getfield 18, 3) := by decide +kernel
theorem dX4_startsBut_42 : decode cX4_startsBut 42 = .ok (.iload_n 2, 1) := by decide +kernel
theorem dX4_startsBut_43 : decode cX4_startsBut 43 = .ok (.iaload, 1) := by decide +kernel
theorem dX4_startsBut_44 : decode cX4_startsBut 44 = .ok (.imul, 1) := by decide +kernel
theorem dX4_startsBut_45 : decode cX4_startsBut 45 = .ok (.iushr, 1) := by decide +kernel
theorem dX4_startsBut_46 : decode cX4_startsBut 46 = .ok (.iand, 1) := by decide +kernel
theorem dX4_startsBut_47 : decode cX4_startsBut 47 = .ok (.istore 4, 2) := by decide +kernel
theorem dX4_startsBut_49 : decode cX4_startsBut 49 = .ok (.iinc 5 1, 3) := by decide +kernel
theorem dX4_startsBut_52 : decode cX4_startsBut 52 = .ok (.goto (-41), 3) := by decide +kernel
theorem dX4_startsBut_55 : decode cX4_startsBut 55 = .ok (.iload 4, 2) := by decide +kernel
theorem dX4_startsBut_57 : decode cX4_startsBut 57 = .ok (.ireturn, 1) := by decide +kernel
theorem dX9_begin_0 : decode cX9_begin 0 = .ok (.aload_n 0, 1) := by decide +kernel
theorem dX9_begin_1 : decode cX9_begin 1 = .ok (.iload_n 1, 1) := by decide +kernel
theorem dX9_begin_2 : decode cX9_begin 2 = .ok (.putfield 7, 3) := by decide +kernel
theorem dX9_begin_5 : decode cX9_begin 5 = .ok (.aload_n 0, 1) := by decide +kernel
theorem dX9_begin_6 : decode cX9_begin 6 = .ok (.iconst 0, 1) := by decide +kernel
theorem dX9_begin_7 : decode cX9_begin 7 = .ok (.putfield 13, 3) := by decide +kernel
theorem dX9_begin_10 : decode cX9_begin 10 = .ok (.aload_n 0, 1) := by decide +kernel
theorem dX9_begin_11 : decode cX9_begin 11 = .ok (.iload_n 2, 1) := by decide +kernel
theorem dX9_begin_12 : decode cX9_begin 12 = .ok (.putfield 16, 3) := by decide +kernel
theorem dX9_begin_15 : decode cX9_begin 15 = .ok (.aload_n 0, 1) := by decide +kernel
theorem dX9_begin_16 : decode cX9_begin 16 = .ok (.iconst 0, 1) := by decide +kernel
theorem dX9_begin_17 : decode cX9_begin 17 = .ok (.putfield 19, 3) := by decide +kernel
theorem dX9_begin_20 : decode cX9_begin 20 = .ok (.aload_n 0, 1) := by decide +kernel
theorem dX9_begin_21 : decode cX9_begin 21 = .ok (.iconst 0, 1) := by decide +kernel
theorem dX9_begin_22 : decode cX9_begin 22 = .ok (.putfield 22, 3) := by decide +kernel
theorem dX9_begin_25 : decode cX9_begin 25 = .ok (.aload_n 0, 1) := by decide +kernel
theorem dX9_begin_26 : decode cX9_begin 26 = .ok (.iconst 0, 1) := by decide +kernel
theorem dX9_begin_27 : decode cX9_begin 27 = .ok (.putfield 25, 3) := by decide +kernel
theorem dX9_begin_30 : decode cX9_begin 30 = .ok (.aload_n 0, 1) := by decide +kernel
theorem dX9_begin_31 : decode cX9_begin 31 = .ok (.iconst 0, 1) := by decide +kernel
theorem dX9_begin_32 : decode cX9_begin 32 = .ok (.putfield 28, 3) := by decide +kernel
theorem dX9_begin_35 : decode cX9_begin 35 = .ok (.aload_n 0, 1) := by decide +kernel
theorem dX9_begin_36 : decode cX9_begin 36 = .ok (.iconst 0, 1) := by decide +kernel
theorem dX9_begin_37 : decode cX9_begin 37 = .ok (.putfield 31, 3) := by decide +kernel
theorem dX9_begin_40 : decode cX9_begin 40 = .ok (.return_, 1) := by decide +kernel
theorem dX9_takeFrom_0 : decode cX9_takeFrom 0 = .ok (.aload_n 0, 1) := by decide +kernel
theorem dX9_takeFrom_1 : decode cX9_takeFrom 1 = .ok (.aload_n 1, 1) := by decide +kernel
theorem dX9_takeFrom_2 : decode cX9_takeFrom 2 = .ok (.getfield 7, 3) := by decide +kernel
theorem dX9_takeFrom_5 : decode cX9_takeFrom 5 = .ok (.putfield 7, 3) := by decide +kernel
theorem dX9_takeFrom_8 : decode cX9_takeFrom 8 = .ok (.aload_n 0, 1) := by decide +kernel
theorem dX9_takeFrom_9 : decode cX9_takeFrom 9 = .ok (.aload_n 1, 1) := by decide +kernel
theorem dX9_takeFrom_10 : decode cX9_takeFrom 10 = .ok (.getfield 13, 3) := by decide +kernel
theorem dX9_takeFrom_13 : decode cX9_takeFrom 13 = .ok (.putfield 13, 3) := by decide +kernel
theorem dX9_takeFrom_16 : decode cX9_takeFrom 16 = .ok (.aload_n 0, 1) := by decide +kernel
theorem dX9_takeFrom_17 : decode cX9_takeFrom 17 = .ok (.aload_n 1, 1) := by decide +kernel
theorem dX9_takeFrom_18 : decode cX9_takeFrom 18 = .ok (.getfield 16, 3) := by decide +kernel
theorem dX9_takeFrom_21 : decode cX9_takeFrom 21 = .ok (.putfield 16, 3) := by decide +kernel
theorem dX9_takeFrom_24 : decode cX9_takeFrom 24 = .ok (.aload_n 0, 1) := by decide +kernel
theorem dX9_takeFrom_25 : decode cX9_takeFrom 25 = .ok (.aload_n 1, 1) := by decide +kernel
theorem dX9_takeFrom_26 : decode cX9_takeFrom 26 = .ok (.getfield 19, 3) := by decide +kernel
theorem dX9_takeFrom_29 : decode cX9_takeFrom 29 = .ok (.putfield 19, 3) := by decide +kernel
theorem dX9_takeFrom_32 : decode cX9_takeFrom 32 = .ok (.aload_n 0, 1) := by decide +kernel
theorem dX9_takeFrom_33 : decode cX9_takeFrom 33 = .ok (.aload_n 1, 1) := by decide +kernel
theorem dX9_takeFrom_34 : decode cX9_takeFrom 34 = .ok (.getfield 22, 3) := by decide +kernel
theorem dX9_takeFrom_37 : decode cX9_takeFrom 37 = .ok (.putfield 22, 3) := by decide +kernel
theorem dX9_takeFrom_40 : decode cX9_takeFrom 40 = .ok (.aload_n 0, 1) := by decide +kernel
theorem dX9_takeFrom_41 : decode cX9_takeFrom 41 = .ok (.aload_n 1, 1) := by decide +kernel
theorem dX9_takeFrom_42 : decode cX9_takeFrom 42 = .ok (.getfield 25, 3) := by decide +kernel
theorem dX9_takeFrom_45 : decode cX9_takeFrom 45 = .ok (.putfield 25, 3) := by decide +kernel
theorem dX9_takeFrom_48 : decode cX9_takeFrom 48 = .ok (.aload_n 0, 1) := by decide +kernel
theorem dX9_takeFrom_49 : decode cX9_takeFrom 49 = .ok (.aload_n 1, 1) := by decide +kernel
theorem dX9_takeFrom_50 : decode cX9_takeFrom 50 = .ok (.getfield 28, 3) := by decide +kernel
theorem dX9_takeFrom_53 : decode cX9_takeFrom 53 = .ok (.putfield 28, 3) := by decide +kernel
theorem dX9_takeFrom_56 : decode cX9_takeFrom 56 = .ok (.aload_n 0, 1) := by decide +kernel
theorem dX9_takeFrom_57 : decode cX9_takeFrom 57 = .ok (.aload_n 1, 1) := by decide +kernel
theorem dX9_takeFrom_58 : decode cX9_takeFrom 58 = .ok (.getfield 31, 3) := by decide +kernel
theorem dX9_takeFrom_61 : decode cX9_takeFrom 61 = .ok (.putfield 31, 3) := by decide +kernel
theorem dX9_takeFrom_64 : decode cX9_takeFrom 64 = .ok (.return_, 1) := by decide +kernel
theorem wl_1_115 : (.fieldLink RX9 7 "LawnAhead$State" "tufts" "I" : Cond) ∈ sg_tbl := tb_1 _ (List.mem_of_getElem? (i := 115) (by decide +kernel)) (by decide +kernel)
theorem wl_1_119 : (.fieldLink RX9 13 "LawnAhead$State" "earth" "I" : Cond) ∈ sg_tbl := tb_1 _ (List.mem_of_getElem? (i := 119) (by decide +kernel)) (by decide +kernel)
theorem wl_1_123 : (.fieldLink RX9 16 "LawnAhead$State" "turn" "I" : Cond) ∈ sg_tbl := tb_1 _ (List.mem_of_getElem? (i := 123) (by decide +kernel)) (by decide +kernel)
theorem wl_1_127 : (.fieldLink RX9 19 "LawnAhead$State" "day" "I" : Cond) ∈ sg_tbl := tb_1 _ (List.mem_of_getElem? (i := 127) (by decide +kernel)) (by decide +kernel)
theorem wl_1_131 : (.fieldLink RX9 22 "LawnAhead$State" "lawnThistles" "I" : Cond) ∈ sg_tbl := tb_1 _ (List.mem_of_getElem? (i := 131) (by decide +kernel)) (by decide +kernel)
theorem wl_1_134 : (.fieldLink RX9 25 "LawnAhead$State" "houseThistles" "I" : Cond) ∈ sg_tbl := tb_1 _ (List.mem_of_getElem? (i := 134) (by decide +kernel)) (by decide +kernel)
theorem wl_1_137 : (.fieldLink RX9 28 "LawnAhead$State" "meant" "I" : Cond) ∈ sg_tbl := tb_1 _ (List.mem_of_getElem? (i := 137) (by decide +kernel)) (by decide +kernel)
theorem wl_1_140 : (.fieldLink RX9 31 "LawnAhead$State" "won" "Z" : Cond) ∈ sg_tbl := tb_1 _ (List.mem_of_getElem? (i := 140) (by decide +kernel)) (by decide +kernel)
theorem wl_2_185 : (.fieldLink RX1 19 "LawnAhead$Books" "count" "I" : Cond) ∈ sg_tbl := tb_2 _ (List.mem_of_getElem? (i := 185) (by decide +kernel)) (by decide +kernel)
theorem wl_2_183 : (.fieldLink RX1 11 "LawnAhead$Books" "around" "[I" : Cond) ∈ sg_tbl := tb_2 _ (List.mem_of_getElem? (i := 183) (by decide +kernel)) (by decide +kernel)
theorem wl_2_184 : (.fieldLink RX1 15 "LawnAhead$Books" "grew" "[Z" : Cond) ∈ sg_tbl := tb_2 _ (List.mem_of_getElem? (i := 184) (by decide +kernel)) (by decide +kernel)
theorem wl_5_238 : (.methodLink RX1 23 yX1_fits : Cond) ∈ sg_tbl := tb_5 _ (List.mem_of_getElem? (i := 238) (by decide +kernel)) (by decide +kernel)
theorem wl_1_225 : (.fieldLink RX4 117 "LawnAhead$Ground" "width" "I" : Cond) ∈ sg_tbl := tb_1 _ (List.mem_of_getElem? (i := 225) (by decide +kernel)) (by decide +kernel)
theorem wl_1_226 : (.fieldLink RX4 120 "LawnAhead$Ground" "height" "I" : Cond) ∈ sg_tbl := tb_1 _ (List.mem_of_getElem? (i := 226) (by decide +kernel)) (by decide +kernel)
theorem wl_1_215 : (.fieldLink RX4 21 "LawnAhead$Ground" "open" "[I" : Cond) ∈ sg_tbl := tb_1 _ (List.mem_of_getElem? (i := 215) (by decide +kernel)) (by decide +kernel)
theorem wl_1_222 : (.fieldLink RX4 126 "LawnAhead$Ground" "all" "I" : Cond) ∈ sg_tbl := tb_1 _ (List.mem_of_getElem? (i := 222) (by decide +kernel)) (by decide +kernel)
theorem wl_1_216 : (.fieldLink RX4 24 "LawnAhead$Ground" "lineStarts" "[I" : Cond) ∈ sg_tbl := tb_1 _ (List.mem_of_getElem? (i := 216) (by decide +kernel)) (by decide +kernel)
theorem wl_1_209 : (.fieldLink RX4 11 "LawnAhead$Ground" "rules" "[I" : Cond) ∈ sg_tbl := tb_1 _ (List.mem_of_getElem? (i := 209) (by decide +kernel)) (by decide +kernel)
theorem wl_1_214 : (.fieldLink RX4 18 "LawnAhead$Ground" "strides" "[I" : Cond) ∈ sg_tbl := tb_1 _ (List.mem_of_getElem? (i := 214) (by decide +kernel)) (by decide +kernel)
theorem wl_3_197 : (.methodLink RX4 150 yX4_startsBut : Cond) ∈ sg_tbl := tb_3 _ (List.mem_of_getElem? (i := 197) (by decide +kernel)) (by decide +kernel)
theorem wl_1_5 : (.initialized RX9 : Cond) ∈ sg_tbl := tb_1 _ (List.mem_of_getElem? (i := 5) (by decide +kernel)) (by decide +kernel)
theorem wl_4_46 : (.code yX9_begin cX9_begin 3 none : Cond) ∈ sg_tbl := tb_4 _ (List.mem_of_getElem? (i := 46) (by decide +kernel)) (by decide +kernel)
theorem wl_4_44 : (.instanceMethod yX9_begin : Cond) ∈ sg_tbl := tb_4 _ (List.mem_of_getElem? (i := 44) (by decide +kernel)) (by decide +kernel)
theorem wl_4_45 : (.selects RX9 yX9_begin yX9_begin : Cond) ∈ sg_tbl := tb_4 _ (List.mem_of_getElem? (i := 45) (by decide +kernel)) (by decide +kernel)
theorem wl_4_167 : (.code yX9_takeFrom cX9_takeFrom 2 none : Cond) ∈ sg_tbl := tb_4 _ (List.mem_of_getElem? (i := 167) (by decide +kernel)) (by decide +kernel)
theorem wl_4_165 : (.instanceMethod yX9_takeFrom : Cond) ∈ sg_tbl := tb_4 _ (List.mem_of_getElem? (i := 165) (by decide +kernel)) (by decide +kernel)
theorem wl_4_166 : (.selects RX9 yX9_takeFrom yX9_takeFrom : Cond) ∈ sg_tbl := tb_4 _ (List.mem_of_getElem? (i := 166) (by decide +kernel)) (by decide +kernel)
theorem wl_1_12 : (.initialized RX1 : Cond) ∈ sg_tbl := tb_1 _ (List.mem_of_getElem? (i := 12) (by decide +kernel)) (by decide +kernel)
theorem wl_4_54 : (.code yX1_clear cX1_clear 1 none : Cond) ∈ sg_tbl := tb_4 _ (List.mem_of_getElem? (i := 54) (by decide +kernel)) (by decide +kernel)
theorem wl_4_52 : (.instanceMethod yX1_clear : Cond) ∈ sg_tbl := tb_4 _ (List.mem_of_getElem? (i := 52) (by decide +kernel)) (by decide +kernel)
theorem wl_4_53 : (.selects RX1 yX1_clear yX1_clear : Cond) ∈ sg_tbl := tb_4 _ (List.mem_of_getElem? (i := 53) (by decide +kernel)) (by decide +kernel)
theorem wl_5_229 : (.code yX1_add cX1_add 3 (some .int) : Cond) ∈ sg_tbl := tb_5 _ (List.mem_of_getElem? (i := 229) (by decide +kernel)) (by decide +kernel)
theorem wl_5_227 : (.instanceMethod yX1_add : Cond) ∈ sg_tbl := tb_5 _ (List.mem_of_getElem? (i := 227) (by decide +kernel)) (by decide +kernel)
theorem wl_5_228 : (.selects RX1 yX1_add yX1_add : Cond) ∈ sg_tbl := tb_5 _ (List.mem_of_getElem? (i := 228) (by decide +kernel)) (by decide +kernel)
theorem wl_6_1 : (.code yX1_fits cX1_fits 5 (some .boolean) : Cond) ∈ sg_tbl := tb_6 _ (List.mem_of_getElem? (i := 1) (by decide +kernel)) (by decide +kernel)
theorem wl_6_0 : (.instanceMethod yX1_fits : Cond) ∈ sg_tbl := tb_6 _ (List.mem_of_getElem? (i := 0) (by decide +kernel)) (by decide +kernel)
theorem wl_0_43 : (.selects RX1 yX1_fits yX1_fits : Cond) ∈ sg_tbl := tb_0 _ (List.mem_of_getElem? (i := 43) (by decide +kernel)) (by decide +kernel)
theorem wl_5_237 : (.code yX1_fitting cX1_fitting 5 (some .int) : Cond) ∈ sg_tbl := tb_5 _ (List.mem_of_getElem? (i := 237) (by decide +kernel)) (by decide +kernel)
theorem wl_5_235 : (.instanceMethod yX1_fitting : Cond) ∈ sg_tbl := tb_5 _ (List.mem_of_getElem? (i := 235) (by decide +kernel)) (by decide +kernel)
theorem wl_5_236 : (.selects RX1 yX1_fitting yX1_fitting : Cond) ∈ sg_tbl := tb_5 _ (List.mem_of_getElem? (i := 236) (by decide +kernel)) (by decide +kernel)
theorem wl_1_7 : (.initialized RX4 : Cond) ∈ sg_tbl := tb_1 _ (List.mem_of_getElem? (i := 7) (by decide +kernel)) (by decide +kernel)
theorem wl_4_119 : (.code yX4_row cX4_row 2 (some .int) : Cond) ∈ sg_tbl := tb_4 _ (List.mem_of_getElem? (i := 119) (by decide +kernel)) (by decide +kernel)
theorem wl_4_117 : (.instanceMethod yX4_row : Cond) ∈ sg_tbl := tb_4 _ (List.mem_of_getElem? (i := 117) (by decide +kernel)) (by decide +kernel)
theorem wl_4_118 : (.selects RX4 yX4_row yX4_row : Cond) ∈ sg_tbl := tb_4 _ (List.mem_of_getElem? (i := 118) (by decide +kernel)) (by decide +kernel)
theorem wl_3_184 : (.code yX4_column cX4_column 2 (some .int) : Cond) ∈ sg_tbl := tb_3 _ (List.mem_of_getElem? (i := 184) (by decide +kernel)) (by decide +kernel)
theorem wl_3_182 : (.instanceMethod yX4_column : Cond) ∈ sg_tbl := tb_3 _ (List.mem_of_getElem? (i := 182) (by decide +kernel)) (by decide +kernel)
theorem wl_3_183 : (.selects RX4 yX4_column yX4_column : Cond) ∈ sg_tbl := tb_3 _ (List.mem_of_getElem? (i := 183) (by decide +kernel)) (by decide +kernel)
theorem wl_6_20 : (.code yX4_mirrors cX4_mirrors 1 (some .int) : Cond) ∈ sg_tbl := tb_6 _ (List.mem_of_getElem? (i := 20) (by decide +kernel)) (by decide +kernel)
theorem wl_6_18 : (.instanceMethod yX4_mirrors : Cond) ∈ sg_tbl := tb_6 _ (List.mem_of_getElem? (i := 18) (by decide +kernel)) (by decide +kernel)
theorem wl_6_19 : (.selects RX4 yX4_mirrors yX4_mirrors : Cond) ∈ sg_tbl := tb_6 _ (List.mem_of_getElem? (i := 19) (by decide +kernel)) (by decide +kernel)
theorem wl_5_147 : (.code yX4_beside cX4_beside 3 (some .int) : Cond) ∈ sg_tbl := tb_5 _ (List.mem_of_getElem? (i := 147) (by decide +kernel)) (by decide +kernel)
theorem wl_5_145 : (.instanceMethod yX4_beside : Cond) ∈ sg_tbl := tb_5 _ (List.mem_of_getElem? (i := 145) (by decide +kernel)) (by decide +kernel)
theorem wl_5_146 : (.selects RX4 yX4_beside yX4_beside : Cond) ∈ sg_tbl := tb_5 _ (List.mem_of_getElem? (i := 146) (by decide +kernel)) (by decide +kernel)
theorem wl_3_200 : (.code yX4_startsBut cX4_startsBut 6 (some .int) : Cond) ∈ sg_tbl := tb_3 _ (List.mem_of_getElem? (i := 200) (by decide +kernel)) (by decide +kernel)
theorem wl_3_199 : (.instanceMethod yX4_startsBut : Cond) ∈ sg_tbl := tb_3 _ (List.mem_of_getElem? (i := 199) (by decide +kernel)) (by decide +kernel)
theorem wl_0_9 : (.selects RX4 yX4_startsBut yX4_startsBut : Cond) ∈ sg_tbl := tb_0 _ (List.mem_of_getElem? (i := 9) (by decide +kernel)) (by decide +kernel)
theorem wl_3_196 : (.code yX4_hasLine cX4_hasLine 3 (some .boolean) : Cond) ∈ sg_tbl := tb_3 _ (List.mem_of_getElem? (i := 196) (by decide +kernel)) (by decide +kernel)
theorem wl_3_194 : (.instanceMethod yX4_hasLine : Cond) ∈ sg_tbl := tb_3 _ (List.mem_of_getElem? (i := 194) (by decide +kernel)) (by decide +kernel)
theorem wl_3_195 : (.selects RX4 yX4_hasLine yX4_hasLine : Cond) ∈ sg_tbl := tb_3 _ (List.mem_of_getElem? (i := 195) (by decide +kernel)) (by decide +kernel)
theorem sg_spa_rules {ad ks : List Nat} {x i : Int32} (h : okV ad ks ((fun i => if i = 0 then .inl (0, 6) else if i = 1 then .inl (0, 5) else if i = 2 then .inl (0, 5) else if i = 3 then .inl (0, 5) else if i = 6 then .inl (0, 1) else .inl (0, 8) : Nat → sgT) i.toNatClampNeg) (.int x)) : iv 0 8 x := by
  dsimp only at h
  by_cases e0 : i.toNatClampNeg = 0
  · rw [if_pos e0] at h
    obtain ⟨y, h1, h2⟩ := h
    cases h1
    exact iv_of h2 (by decide +kernel)
  rw [if_neg e0] at h
  by_cases e1 : i.toNatClampNeg = 1
  · rw [if_pos e1] at h
    obtain ⟨y, h1, h2⟩ := h
    cases h1
    exact iv_of h2 (by decide +kernel)
  rw [if_neg e1] at h
  by_cases e2 : i.toNatClampNeg = 2
  · rw [if_pos e2] at h
    obtain ⟨y, h1, h2⟩ := h
    cases h1
    exact iv_of h2 (by decide +kernel)
  rw [if_neg e2] at h
  by_cases e3 : i.toNatClampNeg = 3
  · rw [if_pos e3] at h
    obtain ⟨y, h1, h2⟩ := h
    cases h1
    exact iv_of h2 (by decide +kernel)
  rw [if_neg e3] at h
  by_cases e6 : i.toNatClampNeg = 6
  · rw [if_pos e6] at h
    obtain ⟨y, h1, h2⟩ := h
    cases h1
    exact iv_of h2 (by decide +kernel)
  rw [if_neg e6] at h
  obtain ⟨y, h1, h2⟩ := h
  cases h1
  exact iv_of h2 (by decide +kernel)
section
variable {p : Program} {l : Launch} {e : Env} {R : Room} {s : State} {m : MethodId} {args : Array Value} {below : List Frame} {meth : Method} {c : Code} {H : Heap} {locs : List Loc} {cells slots : Nat} {Q : State → Prop} {cc : ByteArray} {nL pc : Nat} {ls : Array Slot} {rest : List Value} {own : String} {D : va_G} {A : Nat → Prop} {tys : List (ClassId × FieldType)} {ad ks : List Nat} {P : sgPm} {H0 : Heap} {index : Nat} {base : Nat} {st0 : List Value} {a : Nat}
theorem gf_X1_0   (X : CallFix p m c cc nL s args sg_tbl own) (hK : va_K D vwCl tys s) (hG : sgG (KT P) D vwCl A tys ad ks H) (ha : isK ad ks 1 a) (hl : Cond.fieldLink own index "LawnAhead$Books" "around" "[I" ∈ sg_tbl) (hdg : decode cc pc = .ok (.getfield index, 3)) (kk : ∀ x : Nat, isK ad ks 13 x → fld D H 1 a 0 (.ref x) → W p l e R s m args below meth c H locs cells slots Q (F0 m (pc + 3) ls (.ref x :: rest))) : W p l e R s m args below meth c H locs cells slots Q (F0 m pc ls (.ref a :: rest)) :=
  sg_get X hK hG ha (k := 1) (ci := 1) rfl (C := RX1) (T := TX1) (N := 3) rfl inL_X1 0 (by decide) rfl hl (fun _ h => h) hdg (fun v hv hf => by
    obtain ⟨h1, -⟩ | ⟨x, rfl, hx⟩ := hv
    · cases h1
    · exact kk x hx hf)
theorem gf_X1_1   (X : CallFix p m c cc nL s args sg_tbl own) (hK : va_K D vwCl tys s) (hG : sgG (KT P) D vwCl A tys ad ks H) (ha : isK ad ks 1 a) (hl : Cond.fieldLink own index "LawnAhead$Books" "grew" "[Z" ∈ sg_tbl) (hdg : decode cc pc = .ok (.getfield index, 3)) (kk : ∀ x : Nat, isK ad ks 14 x → fld D H 1 a 1 (.ref x) → W p l e R s m args below meth c H locs cells slots Q (F0 m (pc + 3) ls (.ref x :: rest))) : W p l e R s m args below meth c H locs cells slots Q (F0 m pc ls (.ref a :: rest)) :=
  sg_get X hK hG ha (k := 1) (ci := 1) rfl (C := RX1) (T := TX1) (N := 3) rfl inL_X1 1 (by decide) rfl hl (fun _ h => h) hdg (fun v hv hf => by
    obtain ⟨h1, -⟩ | ⟨x, rfl, hx⟩ := hv
    · cases h1
    · exact kk x hx hf)
theorem gf_X1_2   (X : CallFix p m c cc nL s args sg_tbl own) (hK : va_K D vwCl tys s) (hG : sgG (KT P) D vwCl A tys ad ks H) (ha : isK ad ks 1 a) (hl : Cond.fieldLink own index "LawnAhead$Books" "count" "I" ∈ sg_tbl) (hdg : decode cc pc = .ok (.getfield index, 3)) (kk : ∀ x : Int32, iv 0 12 x → fld D H 1 a 2 (.int x) → W p l e R s m args below meth c H locs cells slots Q (F0 m (pc + 3) ls (.int x :: rest))) : W p l e R s m args below meth c H locs cells slots Q (F0 m pc ls (.ref a :: rest)) :=
  sg_get X hK hG ha (k := 1) (ci := 1) rfl (C := RX1) (T := TX1) (N := 3) rfl inL_X1 2 (by decide) rfl hl (fun _ h => h) hdg (fun v hv hf => by obtain ⟨x, rfl, hx⟩ := hv; exact kk x hx hf)
theorem gf_X4_0   (X : CallFix p m c cc nL s args sg_tbl own) (hK : va_K D vwCl tys s) (hG : sgG (KT P) D vwCl A tys ad ks H) (ha : isK ad ks 4 a) (hl : Cond.fieldLink own index "LawnAhead$Ground" "rules" "[I" ∈ sg_tbl) (hdg : decode cc pc = .ok (.getfield index, 3)) (kk : ∀ x : Nat, isK ad ks 21 x → fld D H 4 a 0 (.ref x) → W p l e R s m args below meth c H locs cells slots Q (F0 m (pc + 3) ls (.ref x :: rest))) : W p l e R s m args below meth c H locs cells slots Q (F0 m pc ls (.ref a :: rest)) :=
  sg_get X hK hG ha (k := 4) (ci := 4) rfl (C := RX4) (T := TX4) (N := 15) rfl inL_X4 0 (by decide) rfl hl (fun _ h => h) hdg (fun v hv hf => by
    obtain ⟨h1, -⟩ | ⟨x, rfl, hx⟩ := hv
    · cases h1
    · exact kk x hx hf)
theorem gf_X4_2   (X : CallFix p m c cc nL s args sg_tbl own) (hK : va_K D vwCl tys s) (hG : sgG (KT P) D vwCl A tys ad ks H) (ha : isK ad ks 4 a) (hl : Cond.fieldLink own index "LawnAhead$Ground" "strides" "[I" ∈ sg_tbl) (hdg : decode cc pc = .ok (.getfield index, 3)) (kk : ∀ x : Nat, isK ad ks 23 x → fld D H 4 a 2 (.ref x) → W p l e R s m args below meth c H locs cells slots Q (F0 m (pc + 3) ls (.ref x :: rest))) : W p l e R s m args below meth c H locs cells slots Q (F0 m pc ls (.ref a :: rest)) :=
  sg_get X hK hG ha (k := 4) (ci := 4) rfl (C := RX4) (T := TX4) (N := 15) rfl inL_X4 2 (by decide) rfl hl (fun _ h => h) hdg (fun v hv hf => by
    obtain ⟨h1, -⟩ | ⟨x, rfl, hx⟩ := hv
    · cases h1
    · exact kk x hx hf)
theorem gf_X4_3   (X : CallFix p m c cc nL s args sg_tbl own) (hK : va_K D vwCl tys s) (hG : sgG (KT P) D vwCl A tys ad ks H) (ha : isK ad ks 4 a) (hl : Cond.fieldLink own index "LawnAhead$Ground" "open" "[I" ∈ sg_tbl) (hdg : decode cc pc = .ok (.getfield index, 3)) (kk : ∀ x : Nat, isK ad ks 24 x → fld D H 4 a 3 (.ref x) → W p l e R s m args below meth c H locs cells slots Q (F0 m (pc + 3) ls (.ref x :: rest))) : W p l e R s m args below meth c H locs cells slots Q (F0 m pc ls (.ref a :: rest)) :=
  sg_get X hK hG ha (k := 4) (ci := 4) rfl (C := RX4) (T := TX4) (N := 15) rfl inL_X4 3 (by decide) rfl hl (fun _ h => h) hdg (fun v hv hf => by
    obtain ⟨h1, -⟩ | ⟨x, rfl, hx⟩ := hv
    · cases h1
    · exact kk x hx hf)
theorem gf_X4_4   (X : CallFix p m c cc nL s args sg_tbl own) (hK : va_K D vwCl tys s) (hG : sgG (KT P) D vwCl A tys ad ks H) (ha : isK ad ks 4 a) (hl : Cond.fieldLink own index "LawnAhead$Ground" "lineStarts" "[I" ∈ sg_tbl) (hdg : decode cc pc = .ok (.getfield index, 3)) (kk : ∀ x : Nat, isK ad ks 25 x → fld D H 4 a 4 (.ref x) → W p l e R s m args below meth c H locs cells slots Q (F0 m (pc + 3) ls (.ref x :: rest))) : W p l e R s m args below meth c H locs cells slots Q (F0 m pc ls (.ref a :: rest)) :=
  sg_get X hK hG ha (k := 4) (ci := 4) rfl (C := RX4) (T := TX4) (N := 15) rfl inL_X4 4 (by decide) rfl hl (fun _ h => h) hdg (fun v hv hf => by
    obtain ⟨h1, -⟩ | ⟨x, rfl, hx⟩ := hv
    · cases h1
    · exact kk x hx hf)
theorem gf_X4_6   (X : CallFix p m c cc nL s args sg_tbl own) (hK : va_K D vwCl tys s) (hG : sgG (KT P) D vwCl A tys ad ks H) (ha : isK ad ks 4 a) (hl : Cond.fieldLink own index "LawnAhead$Ground" "all" "I" ∈ sg_tbl) (hdg : decode cc pc = .ok (.getfield index, 3)) (kk : ∀ x : Int32, iv (-2147483648) 2147483647 x → fld D H 4 a 6 (.int x) → W p l e R s m args below meth c H locs cells slots Q (F0 m (pc + 3) ls (.int x :: rest))) : W p l e R s m args below meth c H locs cells slots Q (F0 m pc ls (.ref a :: rest)) :=
  sg_get X hK hG ha (k := 4) (ci := 4) rfl (C := RX4) (T := TX4) (N := 15) rfl inL_X4 6 (by decide) rfl hl (fun _ h => h) hdg (fun v hv hf => by obtain ⟨x, rfl, hx⟩ := hv; exact kk x hx hf)
theorem gf_X4_7   (X : CallFix p m c cc nL s args sg_tbl own) (hK : va_K D vwCl tys s) (hG : sgG (KT P) D vwCl A tys ad ks H) (ha : isK ad ks 4 a) (hl : Cond.fieldLink own index "LawnAhead$Ground" "width" "I" ∈ sg_tbl) (hdg : decode cc pc = .ok (.getfield index, 3)) (kk : ∀ x : Int32, iv (-2147483648) 2147483647 x → fld D H 4 a 7 (.int x) → W p l e R s m args below meth c H locs cells slots Q (F0 m (pc + 3) ls (.int x :: rest))) : W p l e R s m args below meth c H locs cells slots Q (F0 m pc ls (.ref a :: rest)) :=
  sg_get X hK hG ha (k := 4) (ci := 4) rfl (C := RX4) (T := TX4) (N := 15) rfl inL_X4 7 (by decide) rfl hl (fun _ h => h) hdg (fun v hv hf => by obtain ⟨x, rfl, hx⟩ := hv; exact kk x hx hf)
theorem gf_X4_8   (X : CallFix p m c cc nL s args sg_tbl own) (hK : va_K D vwCl tys s) (hG : sgG (KT P) D vwCl A tys ad ks H) (ha : isK ad ks 4 a) (hl : Cond.fieldLink own index "LawnAhead$Ground" "height" "I" ∈ sg_tbl) (hdg : decode cc pc = .ok (.getfield index, 3)) (kk : ∀ x : Int32, iv (-2147483648) 2147483647 x → fld D H 4 a 8 (.int x) → W p l e R s m args below meth c H locs cells slots Q (F0 m (pc + 3) ls (.int x :: rest))) : W p l e R s m args below meth c H locs cells slots Q (F0 m pc ls (.ref a :: rest)) :=
  sg_get X hK hG ha (k := 4) (ci := 4) rfl (C := RX4) (T := TX4) (N := 15) rfl inL_X4 8 (by decide) rfl hl (fun _ h => h) hdg (fun v hv hf => by obtain ⟨x, rfl, hx⟩ := hv; exact kk x hx hf)
theorem gf_X9_0   (X : CallFix p m c cc nL s args sg_tbl own) (hK : va_K D vwCl tys s) (hG : sgG (KT P) D vwCl A tys ad ks H) (ha : isK ad ks 9 a) (hl : Cond.fieldLink own index "LawnAhead$State" "tufts" "I" ∈ sg_tbl) (hdg : decode cc pc = .ok (.getfield index, 3)) (kk : ∀ x : Int32, iv 0 1073741823 x → fld D H 9 a 0 (.int x) → W p l e R s m args below meth c H locs cells slots Q (F0 m (pc + 3) ls (.int x :: rest))) : W p l e R s m args below meth c H locs cells slots Q (F0 m pc ls (.ref a :: rest)) :=
  sg_get X hK hG ha (k := 9) (ci := 9) rfl (C := RX9) (T := TX9) (N := 8) rfl inL_X9 0 (by decide) rfl hl (fun _ h => h) hdg (fun v hv hf => by obtain ⟨x, rfl, hx⟩ := hv; exact kk x hx hf)
theorem gf_X9_1   (X : CallFix p m c cc nL s args sg_tbl own) (hK : va_K D vwCl tys s) (hG : sgG (KT P) D vwCl A tys ad ks H) (ha : isK ad ks 9 a) (hl : Cond.fieldLink own index "LawnAhead$State" "earth" "I" ∈ sg_tbl) (hdg : decode cc pc = .ok (.getfield index, 3)) (kk : ∀ x : Int32, iv (-2147483648) 2147483647 x → fld D H 9 a 1 (.int x) → W p l e R s m args below meth c H locs cells slots Q (F0 m (pc + 3) ls (.int x :: rest))) : W p l e R s m args below meth c H locs cells slots Q (F0 m pc ls (.ref a :: rest)) :=
  sg_get X hK hG ha (k := 9) (ci := 9) rfl (C := RX9) (T := TX9) (N := 8) rfl inL_X9 1 (by decide) rfl hl (fun _ h => h) hdg (fun v hv hf => by obtain ⟨x, rfl, hx⟩ := hv; exact kk x hx hf)
theorem gf_X9_2   (X : CallFix p m c cc nL s args sg_tbl own) (hK : va_K D vwCl tys s) (hG : sgG (KT P) D vwCl A tys ad ks H) (ha : isK ad ks 9 a) (hl : Cond.fieldLink own index "LawnAhead$State" "turn" "I" ∈ sg_tbl) (hdg : decode cc pc = .ok (.getfield index, 3)) (kk : ∀ x : Int32, iv (-2147483648) 2147483647 x → fld D H 9 a 2 (.int x) → W p l e R s m args below meth c H locs cells slots Q (F0 m (pc + 3) ls (.int x :: rest))) : W p l e R s m args below meth c H locs cells slots Q (F0 m pc ls (.ref a :: rest)) :=
  sg_get X hK hG ha (k := 9) (ci := 9) rfl (C := RX9) (T := TX9) (N := 8) rfl inL_X9 2 (by decide) rfl hl (fun _ h => h) hdg (fun v hv hf => by obtain ⟨x, rfl, hx⟩ := hv; exact kk x hx hf)
theorem gf_X9_3   (X : CallFix p m c cc nL s args sg_tbl own) (hK : va_K D vwCl tys s) (hG : sgG (KT P) D vwCl A tys ad ks H) (ha : isK ad ks 9 a) (hl : Cond.fieldLink own index "LawnAhead$State" "day" "I" ∈ sg_tbl) (hdg : decode cc pc = .ok (.getfield index, 3)) (kk : ∀ x : Int32, iv (-2147483648) 2147483647 x → fld D H 9 a 3 (.int x) → W p l e R s m args below meth c H locs cells slots Q (F0 m (pc + 3) ls (.int x :: rest))) : W p l e R s m args below meth c H locs cells slots Q (F0 m pc ls (.ref a :: rest)) :=
  sg_get X hK hG ha (k := 9) (ci := 9) rfl (C := RX9) (T := TX9) (N := 8) rfl inL_X9 3 (by decide) rfl hl (fun _ h => h) hdg (fun v hv hf => by obtain ⟨x, rfl, hx⟩ := hv; exact kk x hx hf)
theorem gf_X9_4   (X : CallFix p m c cc nL s args sg_tbl own) (hK : va_K D vwCl tys s) (hG : sgG (KT P) D vwCl A tys ad ks H) (ha : isK ad ks 9 a) (hl : Cond.fieldLink own index "LawnAhead$State" "lawnThistles" "I" ∈ sg_tbl) (hdg : decode cc pc = .ok (.getfield index, 3)) (kk : ∀ x : Int32, iv (-2147483648) 2147483647 x → fld D H 9 a 4 (.int x) → W p l e R s m args below meth c H locs cells slots Q (F0 m (pc + 3) ls (.int x :: rest))) : W p l e R s m args below meth c H locs cells slots Q (F0 m pc ls (.ref a :: rest)) :=
  sg_get X hK hG ha (k := 9) (ci := 9) rfl (C := RX9) (T := TX9) (N := 8) rfl inL_X9 4 (by decide) rfl hl (fun _ h => h) hdg (fun v hv hf => by obtain ⟨x, rfl, hx⟩ := hv; exact kk x hx hf)
theorem gf_X9_5   (X : CallFix p m c cc nL s args sg_tbl own) (hK : va_K D vwCl tys s) (hG : sgG (KT P) D vwCl A tys ad ks H) (ha : isK ad ks 9 a) (hl : Cond.fieldLink own index "LawnAhead$State" "houseThistles" "I" ∈ sg_tbl) (hdg : decode cc pc = .ok (.getfield index, 3)) (kk : ∀ x : Int32, iv (-2147483648) 2147483647 x → fld D H 9 a 5 (.int x) → W p l e R s m args below meth c H locs cells slots Q (F0 m (pc + 3) ls (.int x :: rest))) : W p l e R s m args below meth c H locs cells slots Q (F0 m pc ls (.ref a :: rest)) :=
  sg_get X hK hG ha (k := 9) (ci := 9) rfl (C := RX9) (T := TX9) (N := 8) rfl inL_X9 5 (by decide) rfl hl (fun _ h => h) hdg (fun v hv hf => by obtain ⟨x, rfl, hx⟩ := hv; exact kk x hx hf)
theorem gf_X9_6   (X : CallFix p m c cc nL s args sg_tbl own) (hK : va_K D vwCl tys s) (hG : sgG (KT P) D vwCl A tys ad ks H) (ha : isK ad ks 9 a) (hl : Cond.fieldLink own index "LawnAhead$State" "meant" "I" ∈ sg_tbl) (hdg : decode cc pc = .ok (.getfield index, 3)) (kk : ∀ x : Int32, iv (-2147483648) 2147483647 x → fld D H 9 a 6 (.int x) → W p l e R s m args below meth c H locs cells slots Q (F0 m (pc + 3) ls (.int x :: rest))) : W p l e R s m args below meth c H locs cells slots Q (F0 m pc ls (.ref a :: rest)) :=
  sg_get X hK hG ha (k := 9) (ci := 9) rfl (C := RX9) (T := TX9) (N := 8) rfl inL_X9 6 (by decide) rfl hl (fun _ h => h) hdg (fun v hv hf => by obtain ⟨x, rfl, hx⟩ := hv; exact kk x hx hf)
theorem gf_X9_7   (X : CallFix p m c cc nL s args sg_tbl own) (hK : va_K D vwCl tys s) (hG : sgG (KT P) D vwCl A tys ad ks H) (ha : isK ad ks 9 a) (hl : Cond.fieldLink own index "LawnAhead$State" "won" "Z" ∈ sg_tbl) (hdg : decode cc pc = .ok (.getfield index, 3)) (kk : ∀ x : Int32, iv 0 1 x → fld D H 9 a 7 (.int x) → W p l e R s m args below meth c H locs cells slots Q (F0 m (pc + 3) ls (.int x :: rest))) : W p l e R s m args below meth c H locs cells slots Q (F0 m pc ls (.ref a :: rest)) :=
  sg_get X hK hG ha (k := 9) (ci := 9) rfl (C := RX9) (T := TX9) (N := 8) rfl inL_X9 7 (by decide) rfl hl (fun _ h => h) hdg (fun v hv hf => by obtain ⟨x, rfl, hx⟩ := hv; exact kk x hx hf)
theorem gg_X1_0   (X : CallFix p m c cc nL s args sg_tbl own) (hK : va_K D vwCl tys s) (hG : sgG (KT P) D vwCl A tys ad ks H) (ha : isK ad ks 1 a) (hl : Cond.fieldLink own index "LawnAhead$Books" "around" "[I" ∈ sg_tbl) {v : Value} (hf : fld D H 1 a 0 v) (hdg : decode cc pc = .ok (.getfield index, 3)) (kk : W p l e R s m args below meth c H locs cells slots Q (F0 m (pc + 3) ls (v :: rest))) : W p l e R s m args below meth c H locs cells slots Q (F0 m pc ls (.ref a :: rest)) :=
  sg_getf X hK hG ha (k := 1) (ci := 1) rfl (C := RX1) (T := TX1) (N := 3) rfl inL_X1 0 (by decide) (show 0 < 3 by decide) hl (fun _ h => h) hf hdg kk
theorem gg_X1_2   (X : CallFix p m c cc nL s args sg_tbl own) (hK : va_K D vwCl tys s) (hG : sgG (KT P) D vwCl A tys ad ks H) (ha : isK ad ks 1 a) (hl : Cond.fieldLink own index "LawnAhead$Books" "count" "I" ∈ sg_tbl) {v : Value} (hf : fld D H 1 a 2 v) (hdg : decode cc pc = .ok (.getfield index, 3)) (kk : W p l e R s m args below meth c H locs cells slots Q (F0 m (pc + 3) ls (v :: rest))) : W p l e R s m args below meth c H locs cells slots Q (F0 m pc ls (.ref a :: rest)) :=
  sg_getf X hK hG ha (k := 1) (ci := 1) rfl (C := RX1) (T := TX1) (N := 3) rfl inL_X1 2 (by decide) (show 2 < 3 by decide) hl (fun _ h => h) hf hdg kk
theorem gg_X4_3   (X : CallFix p m c cc nL s args sg_tbl own) (hK : va_K D vwCl tys s) (hG : sgG (KT P) D vwCl A tys ad ks H) (ha : isK ad ks 4 a) (hl : Cond.fieldLink own index "LawnAhead$Ground" "open" "[I" ∈ sg_tbl) {v : Value} (hf : fld D H 4 a 3 v) (hdg : decode cc pc = .ok (.getfield index, 3)) (kk : W p l e R s m args below meth c H locs cells slots Q (F0 m (pc + 3) ls (v :: rest))) : W p l e R s m args below meth c H locs cells slots Q (F0 m pc ls (.ref a :: rest)) :=
  sg_getf X hK hG ha (k := 4) (ci := 4) rfl (C := RX4) (T := TX4) (N := 15) rfl inL_X4 3 (by decide) (show 3 < 15 by decide) hl (fun _ h => h) hf hdg kk
theorem gg_X4_7   (X : CallFix p m c cc nL s args sg_tbl own) (hK : va_K D vwCl tys s) (hG : sgG (KT P) D vwCl A tys ad ks H) (ha : isK ad ks 4 a) (hl : Cond.fieldLink own index "LawnAhead$Ground" "width" "I" ∈ sg_tbl) {v : Value} (hf : fld D H 4 a 7 v) (hdg : decode cc pc = .ok (.getfield index, 3)) (kk : W p l e R s m args below meth c H locs cells slots Q (F0 m (pc + 3) ls (v :: rest))) : W p l e R s m args below meth c H locs cells slots Q (F0 m pc ls (.ref a :: rest)) :=
  sg_getf X hK hG ha (k := 4) (ci := 4) rfl (C := RX4) (T := TX4) (N := 15) rfl inL_X4 7 (by decide) (show 7 < 15 by decide) hl (fun _ h => h) hf hdg kk
theorem pf_X1_2  {x : Int32}  (X : CallFix p m c cc nL s args sg_tbl own) (hK : va_K D vwCl tys s) (hG : sgG (KT P) D vwCl A tys ad ks H) (hS : va_S A H0 H locs) (ha : isK ad ks 1 a) (hl : Cond.fieldLink own index "LawnAhead$Books" "count" "I" ∈ sg_tbl) (hv : okV ad ks (.inl (0, 12)) (.int x)) (hdg : decode cc pc = .ok (.putfield index, 3)) (kk : ∀ (H1 : Heap) (locs1 : List Loc), sgG (KT P) D vwCl A tys ad ks H1 → va_S A H0 H1 locs1 → fld D H1 1 a 2 (.int x) → sgFr (KT P) D vwCl ad ks H H1 (fun a' j' => a' = a ∧ j' = 2) → W p l e R s m args below meth c H1 locs1 cells slots Q (F0 m (pc + 3) ls rest)) : W p l e R s m args below meth c H locs cells slots Q (F0 m pc ls (.int x :: .ref a :: rest)) :=
  sg_put X hK hG hS ha (k := 1) (ci := 1) rfl (C := RX1) (T := TX1) (N := 3) rfl inL_X1 tyX1 tyX1_ok nmX1 2 (by decide) rfl hl (fun _ h => h) rfl (ty := .int) rfl rfl rfl hv hdg kk
theorem pf_X9_0  {x : Int32}  (X : CallFix p m c cc nL s args sg_tbl own) (hK : va_K D vwCl tys s) (hG : sgG (KT P) D vwCl A tys ad ks H) (hS : va_S A H0 H locs) (ha : isK ad ks 9 a) (hl : Cond.fieldLink own index "LawnAhead$State" "tufts" "I" ∈ sg_tbl) (hv : okV ad ks (.inl (0, 1073741823)) (.int x)) (hdg : decode cc pc = .ok (.putfield index, 3)) (kk : ∀ (H1 : Heap) (locs1 : List Loc), sgG (KT P) D vwCl A tys ad ks H1 → va_S A H0 H1 locs1 → fld D H1 9 a 0 (.int x) → sgFr (KT P) D vwCl ad ks H H1 (fun a' j' => a' = a ∧ j' = 0) → W p l e R s m args below meth c H1 locs1 cells slots Q (F0 m (pc + 3) ls rest)) : W p l e R s m args below meth c H locs cells slots Q (F0 m pc ls (.int x :: .ref a :: rest)) :=
  sg_put X hK hG hS ha (k := 9) (ci := 9) rfl (C := RX9) (T := TX9) (N := 8) rfl inL_X9 tyX9 tyX9_ok nmX9 0 (by decide) rfl hl (fun _ h => h) rfl (ty := .int) rfl rfl rfl hv hdg kk
theorem pf_X9_1  {x : Int32}  (X : CallFix p m c cc nL s args sg_tbl own) (hK : va_K D vwCl tys s) (hG : sgG (KT P) D vwCl A tys ad ks H) (hS : va_S A H0 H locs) (ha : isK ad ks 9 a) (hl : Cond.fieldLink own index "LawnAhead$State" "earth" "I" ∈ sg_tbl) (hv : okV ad ks (.inl ((-2147483648), 2147483647)) (.int x)) (hdg : decode cc pc = .ok (.putfield index, 3)) (kk : ∀ (H1 : Heap) (locs1 : List Loc), sgG (KT P) D vwCl A tys ad ks H1 → va_S A H0 H1 locs1 → fld D H1 9 a 1 (.int x) → sgFr (KT P) D vwCl ad ks H H1 (fun a' j' => a' = a ∧ j' = 1) → W p l e R s m args below meth c H1 locs1 cells slots Q (F0 m (pc + 3) ls rest)) : W p l e R s m args below meth c H locs cells slots Q (F0 m pc ls (.int x :: .ref a :: rest)) :=
  sg_put X hK hG hS ha (k := 9) (ci := 9) rfl (C := RX9) (T := TX9) (N := 8) rfl inL_X9 tyX9 tyX9_ok nmX9 1 (by decide) rfl hl (fun _ h => h) rfl (ty := .int) rfl rfl rfl hv hdg kk
theorem pf_X9_2  {x : Int32}  (X : CallFix p m c cc nL s args sg_tbl own) (hK : va_K D vwCl tys s) (hG : sgG (KT P) D vwCl A tys ad ks H) (hS : va_S A H0 H locs) (ha : isK ad ks 9 a) (hl : Cond.fieldLink own index "LawnAhead$State" "turn" "I" ∈ sg_tbl) (hv : okV ad ks (.inl ((-2147483648), 2147483647)) (.int x)) (hdg : decode cc pc = .ok (.putfield index, 3)) (kk : ∀ (H1 : Heap) (locs1 : List Loc), sgG (KT P) D vwCl A tys ad ks H1 → va_S A H0 H1 locs1 → fld D H1 9 a 2 (.int x) → sgFr (KT P) D vwCl ad ks H H1 (fun a' j' => a' = a ∧ j' = 2) → W p l e R s m args below meth c H1 locs1 cells slots Q (F0 m (pc + 3) ls rest)) : W p l e R s m args below meth c H locs cells slots Q (F0 m pc ls (.int x :: .ref a :: rest)) :=
  sg_put X hK hG hS ha (k := 9) (ci := 9) rfl (C := RX9) (T := TX9) (N := 8) rfl inL_X9 tyX9 tyX9_ok nmX9 2 (by decide) rfl hl (fun _ h => h) rfl (ty := .int) rfl rfl rfl hv hdg kk
theorem pf_X9_3  {x : Int32}  (X : CallFix p m c cc nL s args sg_tbl own) (hK : va_K D vwCl tys s) (hG : sgG (KT P) D vwCl A tys ad ks H) (hS : va_S A H0 H locs) (ha : isK ad ks 9 a) (hl : Cond.fieldLink own index "LawnAhead$State" "day" "I" ∈ sg_tbl) (hv : okV ad ks (.inl ((-2147483648), 2147483647)) (.int x)) (hdg : decode cc pc = .ok (.putfield index, 3)) (kk : ∀ (H1 : Heap) (locs1 : List Loc), sgG (KT P) D vwCl A tys ad ks H1 → va_S A H0 H1 locs1 → fld D H1 9 a 3 (.int x) → sgFr (KT P) D vwCl ad ks H H1 (fun a' j' => a' = a ∧ j' = 3) → W p l e R s m args below meth c H1 locs1 cells slots Q (F0 m (pc + 3) ls rest)) : W p l e R s m args below meth c H locs cells slots Q (F0 m pc ls (.int x :: .ref a :: rest)) :=
  sg_put X hK hG hS ha (k := 9) (ci := 9) rfl (C := RX9) (T := TX9) (N := 8) rfl inL_X9 tyX9 tyX9_ok nmX9 3 (by decide) rfl hl (fun _ h => h) rfl (ty := .int) rfl rfl rfl hv hdg kk
theorem pf_X9_4  {x : Int32}  (X : CallFix p m c cc nL s args sg_tbl own) (hK : va_K D vwCl tys s) (hG : sgG (KT P) D vwCl A tys ad ks H) (hS : va_S A H0 H locs) (ha : isK ad ks 9 a) (hl : Cond.fieldLink own index "LawnAhead$State" "lawnThistles" "I" ∈ sg_tbl) (hv : okV ad ks (.inl ((-2147483648), 2147483647)) (.int x)) (hdg : decode cc pc = .ok (.putfield index, 3)) (kk : ∀ (H1 : Heap) (locs1 : List Loc), sgG (KT P) D vwCl A tys ad ks H1 → va_S A H0 H1 locs1 → fld D H1 9 a 4 (.int x) → sgFr (KT P) D vwCl ad ks H H1 (fun a' j' => a' = a ∧ j' = 4) → W p l e R s m args below meth c H1 locs1 cells slots Q (F0 m (pc + 3) ls rest)) : W p l e R s m args below meth c H locs cells slots Q (F0 m pc ls (.int x :: .ref a :: rest)) :=
  sg_put X hK hG hS ha (k := 9) (ci := 9) rfl (C := RX9) (T := TX9) (N := 8) rfl inL_X9 tyX9 tyX9_ok nmX9 4 (by decide) rfl hl (fun _ h => h) rfl (ty := .int) rfl rfl rfl hv hdg kk
theorem pf_X9_5  {x : Int32}  (X : CallFix p m c cc nL s args sg_tbl own) (hK : va_K D vwCl tys s) (hG : sgG (KT P) D vwCl A tys ad ks H) (hS : va_S A H0 H locs) (ha : isK ad ks 9 a) (hl : Cond.fieldLink own index "LawnAhead$State" "houseThistles" "I" ∈ sg_tbl) (hv : okV ad ks (.inl ((-2147483648), 2147483647)) (.int x)) (hdg : decode cc pc = .ok (.putfield index, 3)) (kk : ∀ (H1 : Heap) (locs1 : List Loc), sgG (KT P) D vwCl A tys ad ks H1 → va_S A H0 H1 locs1 → fld D H1 9 a 5 (.int x) → sgFr (KT P) D vwCl ad ks H H1 (fun a' j' => a' = a ∧ j' = 5) → W p l e R s m args below meth c H1 locs1 cells slots Q (F0 m (pc + 3) ls rest)) : W p l e R s m args below meth c H locs cells slots Q (F0 m pc ls (.int x :: .ref a :: rest)) :=
  sg_put X hK hG hS ha (k := 9) (ci := 9) rfl (C := RX9) (T := TX9) (N := 8) rfl inL_X9 tyX9 tyX9_ok nmX9 5 (by decide) rfl hl (fun _ h => h) rfl (ty := .int) rfl rfl rfl hv hdg kk
theorem pf_X9_6  {x : Int32}  (X : CallFix p m c cc nL s args sg_tbl own) (hK : va_K D vwCl tys s) (hG : sgG (KT P) D vwCl A tys ad ks H) (hS : va_S A H0 H locs) (ha : isK ad ks 9 a) (hl : Cond.fieldLink own index "LawnAhead$State" "meant" "I" ∈ sg_tbl) (hv : okV ad ks (.inl ((-2147483648), 2147483647)) (.int x)) (hdg : decode cc pc = .ok (.putfield index, 3)) (kk : ∀ (H1 : Heap) (locs1 : List Loc), sgG (KT P) D vwCl A tys ad ks H1 → va_S A H0 H1 locs1 → fld D H1 9 a 6 (.int x) → sgFr (KT P) D vwCl ad ks H H1 (fun a' j' => a' = a ∧ j' = 6) → W p l e R s m args below meth c H1 locs1 cells slots Q (F0 m (pc + 3) ls rest)) : W p l e R s m args below meth c H locs cells slots Q (F0 m pc ls (.int x :: .ref a :: rest)) :=
  sg_put X hK hG hS ha (k := 9) (ci := 9) rfl (C := RX9) (T := TX9) (N := 8) rfl inL_X9 tyX9 tyX9_ok nmX9 6 (by decide) rfl hl (fun _ h => h) rfl (ty := .int) rfl rfl rfl hv hdg kk
theorem pf_X9_7  {x : Int32}  (X : CallFix p m c cc nL s args sg_tbl own) (hK : va_K D vwCl tys s) (hG : sgG (KT P) D vwCl A tys ad ks H) (hS : va_S A H0 H locs) (ha : isK ad ks 9 a) (hl : Cond.fieldLink own index "LawnAhead$State" "won" "Z" ∈ sg_tbl) (hv : okV ad ks (.inl (0, 1)) (.int x)) (hdg : decode cc pc = .ok (.putfield index, 3)) (kk : ∀ (H1 : Heap) (locs1 : List Loc), sgG (KT P) D vwCl A tys ad ks H1 → va_S A H0 H1 locs1 → fld D H1 9 a 7 (.int x) → sgFr (KT P) D vwCl ad ks H H1 (fun a' j' => a' = a ∧ j' = 7) → W p l e R s m args below meth c H1 locs1 cells slots Q (F0 m (pc + 3) ls rest)) : W p l e R s m args below meth c H locs cells slots Q (F0 m pc ls (.int x :: .ref a :: rest)) :=
  sg_put X hK hG hS ha (k := 9) (ci := 9) rfl (C := RX9) (T := TX9) (N := 8) rfl inL_X9 tyX9 tyX9_ok nmX9 7 (by decide) rfl hl (fun _ h => h) rfl (ty := .boolean) rfl (by obtain ⟨y, h1, h2⟩ := hv; cases h1; exact sg_zn h2) (by obtain ⟨y, h1, h2⟩ := hv; cases h1; rcases iv_01 h2 with rfl | rfl <;> rfl) hv hdg kk
theorem al_13  {i : Int32}  (X : CallFix p m c cc nL s args sg_tbl own) (hK : va_K D vwCl tys s) (hG : sgG (KT P) D vwCl A tys ad ks H) (ha : isK ad ks 13 a) (hin : vp_in i 12) (hdg : decode cc pc = .ok (.iaload, 1)) (kk : ∀ x : Int32, iv (-2147483648) 2147483647 x → W p l e R s m args below meth c H locs cells slots Q (F0 m (pc + 1) ls (.int x :: rest))) : W p l e R s m args below meth c H locs cells slots Q (F0 m pc ls (.int i :: .ref a :: rest)) :=
  sg_iald X hK hG ha (k := 13) rfl hin hdg (fun x hx => by obtain ⟨y, h1, h2⟩ := hx; cases h1; exact kk _ h2)
theorem al_14  {i : Int32}  (X : CallFix p m c cc nL s args sg_tbl own) (hK : va_K D vwCl tys s) (hG : sgG (KT P) D vwCl A tys ad ks H) (ha : isK ad ks 14 a) (hin : vp_in i 12) (hdg : decode cc pc = .ok (.baload, 1)) (kk : ∀ x : Int32, iv 0 1 x → W p l e R s m args below meth c H locs cells slots Q (F0 m (pc + 1) ls (.int x :: rest))) : W p l e R s m args below meth c H locs cells slots Q (F0 m pc ls (.int i :: .ref a :: rest)) :=
  sg_zald X hK hG ha (k := 14) rfl hin hdg (fun x hx => by obtain ⟨y, h1, h2⟩ := hx; cases h1; exact kk _ h2)
theorem al_21  {i : Int32}  (X : CallFix p m c cc nL s args sg_tbl own) (hK : va_K D vwCl tys s) (hG : sgG (KT P) D vwCl A tys ad ks H) (ha : isK ad ks 21 a) (hin : vp_in i 7) (hdg : decode cc pc = .ok (.iaload, 1)) (kk : ∀ x : Int32, okV ad ks ((fun i => if i = 0 then .inl (0, 6) else if i = 1 then .inl (0, 5) else if i = 2 then .inl (0, 5) else if i = 3 then .inl (0, 5) else if i = 6 then .inl (0, 1) else .inl (0, 8) : Nat → sgT) i.toNatClampNeg) (.int x) → W p l e R s m args below meth c H locs cells slots Q (F0 m (pc + 1) ls (.int x :: rest))) : W p l e R s m args below meth c H locs cells slots Q (F0 m pc ls (.int i :: .ref a :: rest)) :=
  sg_iald X hK hG ha (k := 21) rfl hin hdg kk
theorem sg_sp_rules {ad ks : List Nat} {x i : Int32} {a b : Int} (h : okV ad ks ((fun i => if i = 0 then .inl (0, 6) else if i = 1 then .inl (0, 5) else if i = 2 then .inl (0, 5) else if i = 3 then .inl (0, 5) else if i = 6 then .inl (0, 1) else .inl (0, 8) : Nat → sgT) i.toNatClampNeg) (.int x)) {lo hi : Int} (hi0 : iv lo hi i) (hd : decide (0 ≤ lo ∧ lo = hi) = true) (he : (fun i => if i = 0 then .inl (0, 6) else if i = 1 then .inl (0, 5) else if i = 2 then .inl (0, 5) else if i = 3 then .inl (0, 5) else if i = 6 then .inl (0, 1) else .inl (0, 8) : Nat → sgT) lo.toNat = .inl (a, b)) : iv a b x := by
  obtain ⟨h1, h2⟩ := of_decide_eq_true hd
  have e : i.toNatClampNeg = lo.toNat := by
    have := hi0.1
    have := hi0.2
    show i.toInt.toNat = lo.toNat
    omega
  rw [e, he] at h
  obtain ⟨y, h3, h4⟩ := h
  cases h3
  exact h4
theorem al_23  {i : Int32}  (X : CallFix p m c cc nL s args sg_tbl own) (hK : va_K D vwCl tys s) (hG : sgG (KT P) D vwCl A tys ad ks H) (ha : isK ad ks 23 a) (hin : vp_in i 4) (hdg : decode cc pc = .ok (.iaload, 1)) (kk : ∀ x : Int32, iv (-2147483648) 2147483647 x → W p l e R s m args below meth c H locs cells slots Q (F0 m (pc + 1) ls (.int x :: rest))) : W p l e R s m args below meth c H locs cells slots Q (F0 m pc ls (.int i :: .ref a :: rest)) :=
  sg_iald X hK hG ha (k := 23) rfl hin hdg (fun x hx => by obtain ⟨y, h1, h2⟩ := hx; cases h1; exact kk _ h2)
theorem al_24  {i : Int32}  (X : CallFix p m c cc nL s args sg_tbl own) (hK : va_K D vwCl tys s) (hG : sgG (KT P) D vwCl A tys ad ks H) (ha : isK ad ks 24 a) (hin : vp_in i 4) (hdg : decode cc pc = .ok (.iaload, 1)) (kk : ∀ x : Int32, iv (-2147483648) 2147483647 x → W p l e R s m args below meth c H locs cells slots Q (F0 m (pc + 1) ls (.int x :: rest))) : W p l e R s m args below meth c H locs cells slots Q (F0 m pc ls (.int i :: .ref a :: rest)) :=
  sg_iald X hK hG ha (k := 24) rfl hin hdg (fun x hx => by obtain ⟨y, h1, h2⟩ := hx; cases h1; exact kk _ h2)
theorem al_25  {i : Int32}  (X : CallFix p m c cc nL s args sg_tbl own) (hK : va_K D vwCl tys s) (hG : sgG (KT P) D vwCl A tys ad ks H) (ha : isK ad ks 25 a) (hin : vp_in i 4) (hdg : decode cc pc = .ok (.iaload, 1)) (kk : ∀ x : Int32, iv (-2147483648) 2147483647 x → W p l e R s m args below meth c H locs cells slots Q (F0 m (pc + 1) ls (.int x :: rest))) : W p l e R s m args below meth c H locs cells slots Q (F0 m pc ls (.int i :: .ref a :: rest)) :=
  sg_iald X hK hG ha (k := 25) rfl hin hdg (fun x hx => by obtain ⟨y, h1, h2⟩ := hx; cases h1; exact kk _ h2)
theorem as_13  {i : Int32} {x : Int32}  (X : CallFix p m c cc nL s args sg_tbl own) (hK : va_K D vwCl tys s) (hG : sgG (KT P) D vwCl A tys ad ks H) (hS : va_S A H0 H locs) (ha : isK ad ks 13 a) (hin : vp_in i 12) (hv : okV ad ks (.inl ((-2147483648), 2147483647)) (.int x)) (hdg : decode cc pc = .ok (.iastore, 1)) (kk : ∀ (H1 : Heap) (locs1 : List Loc), sgG (KT P) D vwCl A tys ad ks H1 → va_S A H0 H1 locs1 → sgFr (KT P) D vwCl ad ks H H1 (fun _ _ => False) → W p l e R s m args below meth c H1 locs1 cells slots Q (F0 m (pc + 1) ls rest)) : W p l e R s m args below meth c H locs cells slots Q (F0 m pc ls (.int x :: .int i :: .ref a :: rest)) :=
  sg_iast X hK hG hS ha (k := 13) rfl hin hv hdg kk
theorem as_14  {i : Int32} {x : Int32}  (X : CallFix p m c cc nL s args sg_tbl own) (hK : va_K D vwCl tys s) (hG : sgG (KT P) D vwCl A tys ad ks H) (hS : va_S A H0 H locs) (ha : isK ad ks 14 a) (hin : vp_in i 12) (hv : okV ad ks (.inl (0, 1)) (.int (vp_nar .boolean x))) (hdg : decode cc pc = .ok (.bastore, 1)) (kk : ∀ (H1 : Heap) (locs1 : List Loc), sgG (KT P) D vwCl A tys ad ks H1 → va_S A H0 H1 locs1 → sgFr (KT P) D vwCl ad ks H H1 (fun _ _ => False) → W p l e R s m args below meth c H1 locs1 cells slots Q (F0 m (pc + 1) ls rest)) : W p l e R s m args below meth c H locs cells slots Q (F0 m pc ls (.int x :: .int i :: .ref a :: rest)) :=
  sg_zast X hK hG hS ha (k := 14) rfl hin hv hdg kk
set_option maxHeartbeats 8000000 in
set_option maxRecDepth 100000 in
theorem m_X9_begin (l : Launch) {D : va_G} {base : Nat} {tys : List (ClassId × FieldType)} {ad ks : List Nat} {P : sgPm} (a0 : Nat) (h0 : isK ad ks 9 a0) (x1 : Int32) (h1 : iv 0 1073741823 x1) (x2 : Int32) : sgMv l (KT P) D vwCl base tys ad ks yX9_begin cX9_begin 3 none ({ frames := 0, cells := 0, slots := 0, locals := 0 }) [.ref a0, .int x1, .int x2] := by
  refine sg_ofW (by decide +kernel) (Nat.le_of_ble_eq_true rfl) (fun p e s m below meth c X hr hlk hb hK hC hG ls hl => ?_)
  have hS : va_S (fun q : Nat => base ≤ q) s.heap s.heap [] := va_S.rf
  have hl : lv_has ls 3 [(0, .ref a0), (1, .int x1), (2, .int x2)] := hl
  refine lv_aload_n X.1 X.2.1 dX9_begin_0 rfl (lv_at hl 0 rfl) ?_
  refine lv_iload_n X.1 X.2.1 dX9_begin_1 rfl (lv_at hl 1 rfl) ?_
  refine pf_X9_0 X hK hG hS h0 wl_1_115 ⟨_, rfl, h1⟩ dX9_begin_2 (fun H locs hG hS ku1 ru1 => ?_)
  refine lv_aload_n X.1 X.2.1 dX9_begin_5 rfl (lv_at hl 0 rfl) ?_
  refine lv_iconst (v := 0) X.1 X.2.1 dX9_begin_6 (by decide +kernel) ?_
  refine pf_X9_1 X hK hG hS h0 wl_1_119 ⟨_, rfl, (iv_top _)⟩ dX9_begin_7 (fun H locs hG hS ku2 ru2 => ?_)
  refine lv_aload_n X.1 X.2.1 dX9_begin_10 rfl (lv_at hl 0 rfl) ?_
  refine lv_iload_n X.1 X.2.1 dX9_begin_11 rfl (lv_at hl 2 rfl) ?_
  refine pf_X9_2 X hK hG hS h0 wl_1_123 ⟨_, rfl, (iv_top _)⟩ dX9_begin_12 (fun H locs hG hS ku3 ru3 => ?_)
  refine lv_aload_n X.1 X.2.1 dX9_begin_15 rfl (lv_at hl 0 rfl) ?_
  refine lv_iconst (v := 0) X.1 X.2.1 dX9_begin_16 (by decide +kernel) ?_
  refine pf_X9_3 X hK hG hS h0 wl_1_127 ⟨_, rfl, (iv_top _)⟩ dX9_begin_17 (fun H locs hG hS ku4 ru4 => ?_)
  refine lv_aload_n X.1 X.2.1 dX9_begin_20 rfl (lv_at hl 0 rfl) ?_
  refine lv_iconst (v := 0) X.1 X.2.1 dX9_begin_21 (by decide +kernel) ?_
  refine pf_X9_4 X hK hG hS h0 wl_1_131 ⟨_, rfl, (iv_top _)⟩ dX9_begin_22 (fun H locs hG hS ku5 ru5 => ?_)
  refine lv_aload_n X.1 X.2.1 dX9_begin_25 rfl (lv_at hl 0 rfl) ?_
  refine lv_iconst (v := 0) X.1 X.2.1 dX9_begin_26 (by decide +kernel) ?_
  refine pf_X9_5 X hK hG hS h0 wl_1_134 ⟨_, rfl, (iv_top _)⟩ dX9_begin_27 (fun H locs hG hS ku6 ru6 => ?_)
  refine lv_aload_n X.1 X.2.1 dX9_begin_30 rfl (lv_at hl 0 rfl) ?_
  refine lv_iconst (v := 0) X.1 X.2.1 dX9_begin_31 (by decide +kernel) ?_
  refine pf_X9_6 X hK hG hS h0 wl_1_137 ⟨_, rfl, (iv_top _)⟩ dX9_begin_32 (fun H locs hG hS ku7 ru7 => ?_)
  refine lv_aload_n X.1 X.2.1 dX9_begin_35 rfl (lv_at hl 0 rfl) ?_
  refine lv_iconst (v := 0) X.1 X.2.1 dX9_begin_36 (by decide +kernel) ?_
  refine pf_X9_7 X hK hG hS h0 wl_1_140 ⟨_, rfl, (iv_of (iv_c 0 (a := 0) (b := 0) (by decide +kernel)) (a' := 0) (b' := 1) (by decide +kernel))⟩ dX9_begin_37 (fun H locs hG hS ku8 ru8 => ?_)
  exact sg_vret X hr hlk hb hK hC hG hS dX9_begin_40

theorem ca_X9_begin   (X : CallFix p m c cc nL s args sg_tbl own) (hK : va_K D vwCl tys s) (hG : sgG (KT P) D vwCl (fun q : Nat => base ≤ q) tys ad ks H) (hC : sgC base s) (hS : va_S (fun q : Nat => base ≤ q) s.heap H locs) (hb : base ≤ s.heap.size) (a0 : Nat) (h0 : isK ad ks 9 a0) (x1 : Int32) (h1 : iv 0 1073741823 x1) (x2 : Int32) (hl : Cond.methodLink own index yX9_begin ∈ sg_tbl) (hsize : ls.size = nL) (hst : st0 = [.int x1, .int x2].reverse ++ .ref a0 :: rest) (hW : (rest.map fun v => v.category).sum ≤ 8) (hR : 1 ≤ R.frames ∧ 22 ≤ R.locals) (hf : cells ≤ R.cells ∧ slots ≤ R.slots) (hdg : decode cc pc = .ok (.invokevirtual index, 3)) (kk : ∀ (H1 : Heap) (locs1 : List Loc), sgG (KT P) D vwCl (fun q : Nat => base ≤ q) tys ad ks H1 → va_S (fun q : Nat => base ≤ q) s.heap H1 locs1 → W p l e R s m args below meth c H1 locs1 cells slots Q (F0 m (pc + 3) ls rest)) : W p l e R s m args below meth c H locs cells slots Q (F0 m pc ls st0) :=
  sg_callVv X hK hG hC hS hb (m_X9_begin l a0 h0 x1 h1 x2) h0 (k := 9) (ci := 9) rfl (C := RX9) (T := TX9) (N := 8) rfl wl_4_46 wl_1_5 wl_4_44 wl_4_45 (n := 2) (by decide +kernel) rfl rfl rfl hl hsize hst hW hR hf hdg kk

set_option maxHeartbeats 8000000 in
set_option maxRecDepth 100000 in
theorem m_X9_takeFrom (l : Launch) {D : va_G} {base : Nat} {tys : List (ClassId × FieldType)} {ad ks : List Nat} {P : sgPm} (a0 : Nat) (h0 : isK ad ks 9 a0) (a1 : Nat) (h1 : isK ad ks 9 a1) : sgMv l (KT P) D vwCl base tys ad ks yX9_takeFrom cX9_takeFrom 2 none ({ frames := 0, cells := 0, slots := 0, locals := 0 }) [.ref a0, .ref a1] := by
  refine sg_ofW (by decide +kernel) (Nat.le_of_ble_eq_true rfl) (fun p e s m below meth c X hr hlk hb hK hC hG ls hl => ?_)
  have hS : va_S (fun q : Nat => base ≤ q) s.heap s.heap [] := va_S.rf
  have hl : lv_has ls 2 [(0, .ref a0), (1, .ref a1)] := hl
  refine lv_aload_n X.1 X.2.1 dX9_takeFrom_0 rfl (lv_at hl 0 rfl) ?_
  refine lv_aload_n X.1 X.2.1 dX9_takeFrom_1 rfl (lv_at hl 1 rfl) ?_
  refine gf_X9_0 X hK hG h1 wl_1_115 dX9_takeFrom_2 (fun f1 hf1 kf1 => ?_)
  refine pf_X9_0 X hK hG hS h0 wl_1_115 ⟨_, rfl, hf1⟩ dX9_takeFrom_5 (fun H locs hG hS ku2 ru2 => ?_)
  refine lv_aload_n X.1 X.2.1 dX9_takeFrom_8 rfl (lv_at hl 0 rfl) ?_
  refine lv_aload_n X.1 X.2.1 dX9_takeFrom_9 rfl (lv_at hl 1 rfl) ?_
  refine gf_X9_1 X hK hG h1 wl_1_119 dX9_takeFrom_10 (fun f3 hf3 kf3 => ?_)
  refine pf_X9_1 X hK hG hS h0 wl_1_119 ⟨_, rfl, (iv_top _)⟩ dX9_takeFrom_13 (fun H locs hG hS ku4 ru4 => ?_)
  refine lv_aload_n X.1 X.2.1 dX9_takeFrom_16 rfl (lv_at hl 0 rfl) ?_
  refine lv_aload_n X.1 X.2.1 dX9_takeFrom_17 rfl (lv_at hl 1 rfl) ?_
  refine gf_X9_2 X hK hG h1 wl_1_123 dX9_takeFrom_18 (fun f5 hf5 kf5 => ?_)
  refine pf_X9_2 X hK hG hS h0 wl_1_123 ⟨_, rfl, (iv_top _)⟩ dX9_takeFrom_21 (fun H locs hG hS ku6 ru6 => ?_)
  refine lv_aload_n X.1 X.2.1 dX9_takeFrom_24 rfl (lv_at hl 0 rfl) ?_
  refine lv_aload_n X.1 X.2.1 dX9_takeFrom_25 rfl (lv_at hl 1 rfl) ?_
  refine gf_X9_3 X hK hG h1 wl_1_127 dX9_takeFrom_26 (fun f7 hf7 kf7 => ?_)
  refine pf_X9_3 X hK hG hS h0 wl_1_127 ⟨_, rfl, (iv_top _)⟩ dX9_takeFrom_29 (fun H locs hG hS ku8 ru8 => ?_)
  refine lv_aload_n X.1 X.2.1 dX9_takeFrom_32 rfl (lv_at hl 0 rfl) ?_
  refine lv_aload_n X.1 X.2.1 dX9_takeFrom_33 rfl (lv_at hl 1 rfl) ?_
  refine gf_X9_4 X hK hG h1 wl_1_131 dX9_takeFrom_34 (fun f9 hf9 kf9 => ?_)
  refine pf_X9_4 X hK hG hS h0 wl_1_131 ⟨_, rfl, (iv_top _)⟩ dX9_takeFrom_37 (fun H locs hG hS ku10 ru10 => ?_)
  refine lv_aload_n X.1 X.2.1 dX9_takeFrom_40 rfl (lv_at hl 0 rfl) ?_
  refine lv_aload_n X.1 X.2.1 dX9_takeFrom_41 rfl (lv_at hl 1 rfl) ?_
  refine gf_X9_5 X hK hG h1 wl_1_134 dX9_takeFrom_42 (fun f11 hf11 kf11 => ?_)
  refine pf_X9_5 X hK hG hS h0 wl_1_134 ⟨_, rfl, (iv_top _)⟩ dX9_takeFrom_45 (fun H locs hG hS ku12 ru12 => ?_)
  refine lv_aload_n X.1 X.2.1 dX9_takeFrom_48 rfl (lv_at hl 0 rfl) ?_
  refine lv_aload_n X.1 X.2.1 dX9_takeFrom_49 rfl (lv_at hl 1 rfl) ?_
  refine gf_X9_6 X hK hG h1 wl_1_137 dX9_takeFrom_50 (fun f13 hf13 kf13 => ?_)
  refine pf_X9_6 X hK hG hS h0 wl_1_137 ⟨_, rfl, (iv_top _)⟩ dX9_takeFrom_53 (fun H locs hG hS ku14 ru14 => ?_)
  refine lv_aload_n X.1 X.2.1 dX9_takeFrom_56 rfl (lv_at hl 0 rfl) ?_
  refine lv_aload_n X.1 X.2.1 dX9_takeFrom_57 rfl (lv_at hl 1 rfl) ?_
  refine gf_X9_7 X hK hG h1 wl_1_140 dX9_takeFrom_58 (fun f15 hf15 kf15 => ?_)
  refine pf_X9_7 X hK hG hS h0 wl_1_140 ⟨_, rfl, hf15⟩ dX9_takeFrom_61 (fun H locs hG hS ku16 ru16 => ?_)
  exact sg_vret X hr hlk hb hK hC hG hS dX9_takeFrom_64

theorem ca_X9_takeFrom   (X : CallFix p m c cc nL s args sg_tbl own) (hK : va_K D vwCl tys s) (hG : sgG (KT P) D vwCl (fun q : Nat => base ≤ q) tys ad ks H) (hC : sgC base s) (hS : va_S (fun q : Nat => base ≤ q) s.heap H locs) (hb : base ≤ s.heap.size) (a0 : Nat) (h0 : isK ad ks 9 a0) (a1 : Nat) (h1 : isK ad ks 9 a1) (hl : Cond.methodLink own index yX9_takeFrom ∈ sg_tbl) (hsize : ls.size = nL) (hst : st0 = [.ref a1].reverse ++ .ref a0 :: rest) (hW : (rest.map fun v => v.category).sum ≤ 8) (hR : 1 ≤ R.frames ∧ 21 ≤ R.locals) (hf : cells ≤ R.cells ∧ slots ≤ R.slots) (hdg : decode cc pc = .ok (.invokevirtual index, 3)) (kk : ∀ (H1 : Heap) (locs1 : List Loc), sgG (KT P) D vwCl (fun q : Nat => base ≤ q) tys ad ks H1 → va_S (fun q : Nat => base ≤ q) s.heap H1 locs1 → W p l e R s m args below meth c H1 locs1 cells slots Q (F0 m (pc + 3) ls rest)) : W p l e R s m args below meth c H locs cells slots Q (F0 m pc ls st0) :=
  sg_callVv X hK hG hC hS hb (m_X9_takeFrom l a0 h0 a1 h1) h0 (k := 9) (ci := 9) rfl (C := RX9) (T := TX9) (N := 8) rfl wl_4_167 wl_1_5 wl_4_165 wl_4_166 (n := 1) (by decide +kernel) rfl rfl rfl hl hsize hst hW hR hf hdg kk

set_option maxHeartbeats 8000000 in
set_option maxRecDepth 100000 in
theorem m_X1_clear (l : Launch) {D : va_G} {base : Nat} {tys : List (ClassId × FieldType)} {ad ks : List Nat} {P : sgPm} (a0 : Nat) (h0 : isK ad ks 1 a0) : sgMv l (KT P) D vwCl base tys ad ks yX1_clear cX1_clear 1 none ({ frames := 0, cells := 0, slots := 0, locals := 0 }) [.ref a0] := by
  refine sg_ofW (by decide +kernel) (Nat.le_of_ble_eq_true rfl) (fun p e s m below meth c X hr hlk hb hK hC hG ls hl => ?_)
  have hS : va_S (fun q : Nat => base ≤ q) s.heap s.heap [] := va_S.rf
  have hl : lv_has ls 1 [(0, .ref a0)] := hl
  refine lv_aload_n X.1 X.2.1 dX1_clear_0 rfl (lv_at hl 0 rfl) ?_
  refine lv_iconst (v := 0) X.1 X.2.1 dX1_clear_1 (by decide +kernel) ?_
  refine pf_X1_2 X hK hG hS h0 wl_2_185 ⟨_, rfl, (iv_of (iv_c 0 (a := 0) (b := 0) (by decide +kernel)) (a' := 0) (b' := 12) (by decide +kernel))⟩ dX1_clear_2 (fun H locs hG hS ku1 ru1 => ?_)
  exact sg_vret X hr hlk hb hK hC hG hS dX1_clear_5

theorem ca_X1_clear   (X : CallFix p m c cc nL s args sg_tbl own) (hK : va_K D vwCl tys s) (hG : sgG (KT P) D vwCl (fun q : Nat => base ≤ q) tys ad ks H) (hC : sgC base s) (hS : va_S (fun q : Nat => base ≤ q) s.heap H locs) (hb : base ≤ s.heap.size) (a0 : Nat) (h0 : isK ad ks 1 a0) (hl : Cond.methodLink own index yX1_clear ∈ sg_tbl) (hsize : ls.size = nL) (hst : st0 = [].reverse ++ .ref a0 :: rest) (hW : (rest.map fun v => v.category).sum ≤ 8) (hR : 1 ≤ R.frames ∧ 20 ≤ R.locals) (hf : cells ≤ R.cells ∧ slots ≤ R.slots) (hdg : decode cc pc = .ok (.invokevirtual index, 3)) (kk : ∀ (H1 : Heap) (locs1 : List Loc), sgG (KT P) D vwCl (fun q : Nat => base ≤ q) tys ad ks H1 → va_S (fun q : Nat => base ≤ q) s.heap H1 locs1 → W p l e R s m args below meth c H1 locs1 cells slots Q (F0 m (pc + 3) ls rest)) : W p l e R s m args below meth c H locs cells slots Q (F0 m pc ls st0) :=
  sg_callVv X hK hG hC hS hb (m_X1_clear l a0 h0) h0 (k := 1) (ci := 1) rfl (C := RX1) (T := TX1) (N := 3) rfl wl_4_54 wl_1_12 wl_4_52 wl_4_53 (n := 0) (by decide +kernel) rfl rfl rfl hl hsize hst hW hR hf hdg kk

set_option maxHeartbeats 8000000 in
set_option maxRecDepth 100000 in
theorem m_X1_add (l : Launch) {D : va_G} {base : Nat} {tys : List (ClassId × FieldType)} {ad ks : List Nat} {P : sgPm} (a0 : Nat) (h0 : isK ad ks 1 a0) (x1 : Int32) (x2 : Int32) (h2 : iv 0 1 x2) : sgMi l (KT P) D vwCl base tys ad ks yX1_add cX1_add 3 (some .int) ({ frames := 0, cells := 0, slots := 0, locals := 0 }) [.ref a0, .int x1, .int x2] (fun r : Int32 => True) := by
  refine sg_ofW (by decide +kernel) (Nat.le_of_ble_eq_true rfl) (fun p e s m below meth c X hr hlk hb hK hC hG ls hl => ?_)
  have hS : va_S (fun q : Nat => base ≤ q) s.heap s.heap [] := va_S.rf
  have hl : lv_has ls 3 [(0, .ref a0), (1, .int x1), (2, .int x2)] := hl
  refine lv_aload_n X.1 X.2.1 dX1_add_0 rfl (lv_at hl 0 rfl) ?_
  refine gf_X1_2 X hK hG h0 wl_2_185 dX1_add_1 (fun f1 hf1 kf1 => ?_)
  refine lv_bipush (v := 12) X.1 X.2.1 dX1_add_4 (by decide +kernel) ?_
  refine lv_icmp_lt (tgt := 11) X.1 X.2.1 dX1_add_6 (by decide) (fun c2 => ?_) (fun c2 => ?_)
  · refine lv_aload_n X.1 X.2.1 dX1_add_11 rfl (lv_at hl 0 rfl) ?_
    refine gf_X1_0 X hK hG h0 wl_2_183 dX1_add_12 (fun q3 hq3 kq3 => ?_)
    refine lv_aload_n X.1 X.2.1 dX1_add_15 rfl (lv_at hl 0 rfl) ?_
    refine gg_X1_2 X hK hG h0 wl_2_185 kf1 dX1_add_16 ?_
    refine lv_iload_n X.1 X.2.1 dX1_add_19 rfl (lv_at hl 1 rfl) ?_
    refine as_13 X hK hG hS hq3 (iv_vpin (iv_lt (b' := 11) c2 hf1 (iv_c 12 (a := 12) (b := 12) (by decide +kernel)) (by decide +kernel)) (by decide +kernel)) ⟨_, rfl, (iv_top _)⟩ dX1_add_20 (fun H locs hG hS ru4 => ?_)
    refine lv_aload_n X.1 X.2.1 dX1_add_21 rfl (lv_at hl 0 rfl) ?_
    refine gf_X1_1 X hK hG h0 wl_2_184 dX1_add_22 (fun q5 hq5 kq5 => ?_)
    refine lv_aload_n X.1 X.2.1 dX1_add_25 rfl (lv_at hl 0 rfl) ?_
    refine gg_X1_2 X hK hG h0 wl_2_185 (ru4 _ _ _ _ _ _ _ h0 rfl rfl (by decide) (fun z => z.elim) kf1) dX1_add_26 ?_
    refine lv_iload_n X.1 X.2.1 dX1_add_29 rfl (lv_at hl 2 rfl) ?_
    refine as_14 X hK hG hS hq5 (iv_vpin (iv_lt (b' := 11) c2 hf1 (iv_c 12 (a := 12) (b := 12) (by decide +kernel)) (by decide +kernel)) (by decide +kernel)) (sg_zok h2) dX1_add_30 (fun H locs hG hS ru6 => ?_)
    refine lv_aload_n X.1 X.2.1 dX1_add_31 rfl (lv_at hl 0 rfl) ?_
    refine lv_dup X.1 X.2.1 dX1_add_32 rfl ?_
    refine gg_X1_2 X hK hG h0 wl_2_185 (ru6 _ _ _ _ _ _ _ h0 rfl rfl (by decide) (fun z => z.elim) (ru4 _ _ _ _ _ _ _ h0 rfl rfl (by decide) (fun z => z.elim) kf1)) dX1_add_33 ?_
    refine lv_iconst (v := 1) X.1 X.2.1 dX1_add_36 (by decide +kernel) ?_
    refine lv_iadd X.1 X.2.1 dX1_add_37 ?_
    refine lv_topi (fun f7 ef7 => ?_)
    refine pf_X1_2 X hK hG hS h0 wl_2_185 ⟨_, rfl, (iv_of (iv_add (a' := 1) (b' := 12) ef7 (iv_lt (b' := 11) c2 hf1 (iv_c 12 (a := 12) (b := 12) (by decide +kernel)) (by decide +kernel)) (iv_c 1 (a := 1) (b := 1) (by decide +kernel)) (by decide +kernel)) (a' := 0) (b' := 12) (by decide +kernel))⟩ dX1_add_38 (fun H locs hG hS ku8 ru8 => ?_)
    refine lv_aload_n X.1 X.2.1 dX1_add_41 rfl (lv_at hl 0 rfl) ?_
    refine gg_X1_2 X hK hG h0 wl_2_185 ku8 dX1_add_42 ?_
    exact sg_iret X hr hlk hb hK hC hG hS trivial dX1_add_45
  · refine lv_iconst (v := (-1)) X.1 X.2.1 dX1_add_9 (by decide +kernel) ?_
    exact sg_iret X hr hlk hb hK hC hG hS trivial dX1_add_10

theorem ca_X1_add   (X : CallFix p m c cc nL s args sg_tbl own) (hK : va_K D vwCl tys s) (hG : sgG (KT P) D vwCl (fun q : Nat => base ≤ q) tys ad ks H) (hC : sgC base s) (hS : va_S (fun q : Nat => base ≤ q) s.heap H locs) (hb : base ≤ s.heap.size) (a0 : Nat) (h0 : isK ad ks 1 a0) (x1 : Int32) (x2 : Int32) (h2 : iv 0 1 x2) (hl : Cond.methodLink own index yX1_add ∈ sg_tbl) (hsize : ls.size = nL) (hst : st0 = [.int x1, .int x2].reverse ++ .ref a0 :: rest) (hW : (rest.map fun v => v.category).sum ≤ 8) (hR : 1 ≤ R.frames ∧ 22 ≤ R.locals) (hf : cells ≤ R.cells ∧ slots ≤ R.slots) (hdg : decode cc pc = .ok (.invokevirtual index, 3)) (kk : ∀ (r : Int32) (H1 : Heap) (locs1 : List Loc), (fun r : Int32 => True) r → sgG (KT P) D vwCl (fun q : Nat => base ≤ q) tys ad ks H1 → va_S (fun q : Nat => base ≤ q) s.heap H1 locs1 → W p l e R s m args below meth c H1 locs1 cells slots Q (F0 m (pc + 3) ls (.int r :: rest))) : W p l e R s m args below meth c H locs cells slots Q (F0 m pc ls st0) :=
  sg_callVi X hK hG hC hS hb (m_X1_add l a0 h0 x1 x2 h2) h0 (k := 1) (ci := 1) rfl (C := RX1) (T := TX1) (N := 3) rfl wl_5_229 wl_1_12 wl_5_227 wl_5_228 (n := 2) (by decide +kernel) rfl rfl rfl hl hsize hst hW hR hf hdg kk

set_option maxHeartbeats 8000000 in
set_option maxRecDepth 100000 in
theorem m_X1_fits (l : Launch) {D : va_G} {base : Nat} {tys : List (ClassId × FieldType)} {ad ks : List Nat} {P : sgPm} {Hx : Heap} (a0 : Nat) (h0 : isK ad ks 1 a0) (x1 : Int32) (x2 : Int32) : sgPi l (KT P) D vwCl base tys ad ks Hx yX1_fits cX1_fits 5 (some .boolean) ({ frames := 0, cells := 0, slots := 0, locals := 0 }) [.ref a0, .int x1, .int x2] (fun r : Int32 => iv 0 1 r) := by
  refine sg_ofP (Pq := fun Hx => va_Qi (fun r (_ : Unit) => (fun r : Int32 => iv 0 1 r) r) (fun _ t => t.heap = Hx) (fun _ : Nat => False)) (by decide +kernel) (Nat.le_of_ble_eq_true rfl) (fun p e s m below meth c X hr hlk hb hK hC hG ls hl => ?_)
  have hS : va_S (fun _ : Nat => False) s.heap s.heap [] := va_S.rf
  have hl : lv_has ls 5 [(0, .ref a0), (1, .int x1), (2, .int x2)] := hl
  refine lv_iconst (v := 0) X.1 X.2.1 dX1_fits_0 (by decide +kernel) ?_
  refine lv_istore_n (lv' := [(3, .int 0), (0, .ref a0), (1, .int x1), (2, .int x2)]) X.1 X.2.1 dX1_fits_1 rfl hl (by decide) rfl (fun ls hl => ?_)
  have B1_2 : ∀ (N : Nat) (locs : List Loc) (ls : Array Slot) (z1_3 : Int32), va_S (fun _ : Nat => False) s.heap s.heap locs → lv_has ls 5 [(0, .ref a0), (1, .int x1), (2, .int x2), (3, .int z1_3)] → iv 0 12 z1_3 → (13 - z1_3.toInt).toNat ≤ N → W p l e (headSpec (Cond.code yX1_fits cX1_fits 5 (some .boolean) :: sg_tbl) ({ frames := 0, cells := 0, slots := 0, locals := 0 })).room s m #[.ref a0, .int x1, .int x2] below meth c s.heap locs 0 0 (MQ below (va_Qi (fun r (_ : Unit) => (fun r : Int32 => iv 0 1 r) r) (fun _ t => t.heap = s.heap) (fun _ : Nat => False)) #[.ref a0, .int x1, .int x2] s 0 0 (fun _ : Nat => False)) (F0 m 2 ls []) := by
    intro N; induction N with
    | zero =>
      intro locs ls z1_3 hS hl hz1_3 hN
      exact absurd hN (by have := iv_up hz1_3; omega)
    | succ N ih1 =>
      intro locs ls z1_3 hS hl hz1_3 hN1
      refine lv_iload_n X.1 X.2.1 dX1_fits_2 rfl (lv_at hl 3 rfl) ?_
      refine lv_aload_n X.1 X.2.1 dX1_fits_3 rfl (lv_at hl 0 rfl) ?_
      refine gf_X1_2 X hK hG h0 wl_2_185 dX1_fits_4 (fun f2 hf2 kf2 => ?_)
      refine lv_icmp_ge (tgt := 56) X.1 X.2.1 dX1_fits_7 (by decide) (fun c3 => ?_) (fun c3 => ?_)
      · refine lv_iconst (v := 1) X.1 X.2.1 dX1_fits_56 (by decide +kernel) ?_
        exact sg_zretP X hr (sg_zn (iv_of (iv_c 1 (a := 1) (b := 1) (by decide +kernel)) (a' := 0) (b' := 1) (by decide +kernel))) hlk hS (iv_of (iv_c 1 (a := 1) (b := 1) (by decide +kernel)) (a' := 0) (b' := 1) (by decide +kernel)) dX1_fits_57
      · refine lv_aload_n X.1 X.2.1 dX1_fits_10 rfl (lv_at hl 0 rfl) ?_
        refine gf_X1_0 X hK hG h0 wl_2_183 dX1_fits_11 (fun q4 hq4 kq4 => ?_)
        refine lv_iload_n X.1 X.2.1 dX1_fits_14 rfl (lv_at hl 3 rfl) ?_
        refine al_13 X hK hG hq4 (iv_vpin (iv_lt (b' := 11) (iv_gt_of c3) hz1_3 hf2 (by decide +kernel)) (by decide +kernel)) dX1_fits_15 (fun f5 hf5 => ?_)
        refine lv_iload_n X.1 X.2.1 dX1_fits_16 rfl (lv_at hl 1 rfl) ?_
        have B7_35 : ∀ (locs : List Loc) (ls : Array Slot) (w7_0 : Int32), va_S (fun _ : Nat => False) s.heap s.heap locs → lv_has ls 5 [(0, .ref a0), (1, .int x1), (2, .int x2), (3, .int z1_3)] → iv 0 1 w7_0 → W p l e (headSpec (Cond.code yX1_fits cX1_fits 5 (some .boolean) :: sg_tbl) ({ frames := 0, cells := 0, slots := 0, locals := 0 })).room s m #[.ref a0, .int x1, .int x2] below meth c s.heap locs 0 0 (MQ below (va_Qi (fun r (_ : Unit) => (fun r : Int32 => iv 0 1 r) r) (fun _ t => t.heap = s.heap) (fun _ : Nat => False)) #[.ref a0, .int x1, .int x2] s 0 0 (fun _ : Nat => False)) (F0 m 35 ls [.int w7_0]) := by
          intro locs ls w7_0 hS hl hw7_0
          refine lv_istore (lv' := [(4, .int w7_0), (0, .ref a0), (1, .int x1), (2, .int x2), (3, .int z1_3)]) X.1 X.2.1 dX1_fits_35 hl (by decide) rfl (fun ls hl => ?_)
          refine lv_iload X.1 X.2.1 dX1_fits_37 (lv_at hl 0 rfl) ?_
          refine lv_aload_n X.1 X.2.1 dX1_fits_39 rfl (lv_at hl 1 rfl) ?_
          refine gf_X1_1 X hK hG h0 wl_2_184 dX1_fits_40 (fun q8 hq8 kq8 => ?_)
          refine lv_iload_n X.1 X.2.1 dX1_fits_43 rfl (lv_at hl 4 rfl) ?_
          refine al_14 X hK hG hq8 (iv_vpin (iv_lt (b' := 11) (iv_gt_of c3) hz1_3 hf2 (by decide +kernel)) (by decide +kernel)) dX1_fits_44 (fun f9 hf9 => ?_)
          refine lv_icmp_eq (tgt := 50) X.1 X.2.1 dX1_fits_45 (by decide) (fun c10 => ?_) (fun c10 => ?_)
          · obtain ⟨y11, ey11⟩ : ∃ y : Int32, y = z1_3 + Int32.ofInt 1 := ⟨_, rfl⟩
            refine lv_iinc (v := y11) (lv' := [(3, .int y11), (4, .int w7_0), (0, .ref a0), (1, .int x1), (2, .int x2)]) X.1 X.2.1 dX1_fits_50 hl (k := 4) rfl ey11.symm (by decide) rfl (fun ls hl => ?_)
            refine lv_goto (tgt := 2) X.1 X.2.1 dX1_fits_53 (by decide) ?_
            exact ih1 _ _ y11 hS (lv_sub hl [2, 3, 4, 0] rfl) (iv_of (iv_add (a' := 1) (b' := 12) ey11 (iv_lt (b' := 11) (iv_gt_of c3) hz1_3 hf2 (by decide +kernel)) (iv_c _ (a := 1) (b := 1) (by decide +kernel)) (by decide +kernel)) (a' := 0) (b' := 12) (by decide +kernel)) (iv_stepU ey11 (iv_lt (b' := 11) (iv_gt_of c3) hz1_3 hf2 (by decide +kernel)) (by decide +kernel) hN1)
          · refine lv_iconst (v := 0) X.1 X.2.1 dX1_fits_48 (by decide +kernel) ?_
            exact sg_zretP X hr (sg_zn (iv_of (iv_c 0 (a := 0) (b := 0) (by decide +kernel)) (a' := 0) (b' := 1) (by decide +kernel))) hlk hS (iv_of (iv_c 0 (a := 0) (b := 0) (by decide +kernel)) (a' := 0) (b' := 1) (by decide +kernel)) dX1_fits_49
        have B12_34 : ∀ (locs : List Loc) (ls : Array Slot), va_S (fun _ : Nat => False) s.heap s.heap locs → lv_has ls 5 [(0, .ref a0), (1, .int x1), (2, .int x2), (3, .int z1_3)] → W p l e (headSpec (Cond.code yX1_fits cX1_fits 5 (some .boolean) :: sg_tbl) ({ frames := 0, cells := 0, slots := 0, locals := 0 })).room s m #[.ref a0, .int x1, .int x2] below meth c s.heap locs 0 0 (MQ below (va_Qi (fun r (_ : Unit) => (fun r : Int32 => iv 0 1 r) r) (fun _ t => t.heap = s.heap) (fun _ : Nat => False)) #[.ref a0, .int x1, .int x2] s 0 0 (fun _ : Nat => False)) (F0 m 34 ls []) := by
          intro locs ls hS hl
          refine lv_iconst (v := 0) X.1 X.2.1 dX1_fits_34 (by decide +kernel) ?_
          exact B7_35 _ _ 0 hS (lv_sub hl [0, 1, 2, 3] rfl) (iv_of (iv_c 0 (a := 0) (b := 0) (by decide +kernel)) (a' := 0) (b' := 1) (by decide +kernel))
        refine lv_icmp_lt (tgt := 34) X.1 X.2.1 dX1_fits_17 (by decide) (fun c6 => ?_) (fun c6 => ?_)
        · exact B12_34 _ _ hS (lv_sub hl [0, 1, 2, 3] rfl)
        · refine lv_aload_n X.1 X.2.1 dX1_fits_20 rfl (lv_at hl 0 rfl) ?_
          refine gg_X1_0 X hK hG h0 wl_2_183 kq4 dX1_fits_21 ?_
          refine lv_iload_n X.1 X.2.1 dX1_fits_24 rfl (lv_at hl 3 rfl) ?_
          refine al_13 X hK hG hq4 (iv_vpin (iv_lt (b' := 11) (iv_gt_of c3) hz1_3 hf2 (by decide +kernel)) (by decide +kernel)) dX1_fits_25 (fun f13 hf13 => ?_)
          refine lv_iload_n X.1 X.2.1 dX1_fits_26 rfl (lv_at hl 2 rfl) ?_
          refine lv_icmp_gt (tgt := 34) X.1 X.2.1 dX1_fits_27 (by decide) (fun c14 => ?_) (fun c14 => ?_)
          · exact B12_34 _ _ hS (lv_sub hl [0, 1, 2, 3] rfl)
          · refine lv_iconst (v := 1) X.1 X.2.1 dX1_fits_30 (by decide +kernel) ?_
            refine lv_goto (tgt := 35) X.1 X.2.1 dX1_fits_31 (by decide) ?_
            exact B7_35 _ _ 1 hS (lv_sub hl [0, 1, 2, 3] rfl) (iv_of (iv_c 1 (a := 1) (b := 1) (by decide +kernel)) (a' := 0) (b' := 1) (by decide +kernel))
  exact B1_2 _ _ _ 0 hS (lv_sub hl [1, 2, 3, 0] rfl) (iv_of (iv_c 0 (a := 0) (b := 0) (by decide +kernel)) (a' := 0) (b' := 12) (by decide +kernel)) (Nat.le_refl _)

theorem ca_X1_fits   (X : CallFix p m c cc nL s args sg_tbl own) (hK : va_K D vwCl tys s) (hG : sgG (KT P) D vwCl (fun q : Nat => base ≤ q) tys ad ks H) (hC : sgC base s) (hA : ∀ q : Nat, A q → base ≤ q) (hS : va_S A s.heap H locs) (hb : base ≤ s.heap.size) (a0 : Nat) (h0 : isK ad ks 1 a0) (x1 : Int32) (x2 : Int32) (hl : Cond.methodLink own index yX1_fits ∈ sg_tbl) (hsize : ls.size = nL) (hst : st0 = [.int x1, .int x2].reverse ++ .ref a0 :: rest) (hW : (rest.map fun v => v.category).sum ≤ 8) (hR : 1 ≤ R.frames ∧ 24 ≤ R.locals) (hf : cells ≤ R.cells ∧ slots ≤ R.slots) (hdg : decode cc pc = .ok (.invokevirtual index, 3)) (kk : ∀ (r : Int32) (locs1 : List Loc), (fun r : Int32 => iv 0 1 r) r → va_S A s.heap H locs1 → W p l e R s m args below meth c H locs1 cells slots Q (F0 m (pc + 3) ls (.int r :: rest))) : W p l e R s m args below meth c H locs cells slots Q (F0 m pc ls st0) :=
  sg_callPVi X hK hG hC hA hS hb (m_X1_fits l a0 h0 x1 x2) h0 (k := 1) (ci := 1) rfl (C := RX1) (T := TX1) (N := 3) rfl wl_6_1 wl_1_12 wl_6_0 wl_0_43 (n := 2) (by decide +kernel) rfl rfl rfl hl hsize hst hW hR hf hdg kk

set_option maxHeartbeats 8000000 in
set_option maxRecDepth 100000 in
theorem m_X1_fitting (l : Launch) {D : va_G} {base : Nat} {tys : List (ClassId × FieldType)} {ad ks : List Nat} {P : sgPm} {Hx : Heap} (a0 : Nat) (h0 : isK ad ks 1 a0) (x1 : Int32) : sgPi l (KT P) D vwCl base tys ad ks Hx yX1_fitting cX1_fitting 5 (some .int) ({ frames := 1, cells := 0, slots := 0, locals := 24 }) [.ref a0, .int x1] (fun r : Int32 => True) := by
  refine sg_ofP (Pq := fun Hx => va_Qi (fun r (_ : Unit) => (fun r : Int32 => True) r) (fun _ t => t.heap = Hx) (fun _ : Nat => False)) (by decide +kernel) (Nat.le_of_ble_eq_true rfl) (fun p e s m below meth c X hr hlk hb hK hC hG ls hl => ?_)
  have hS : va_S (fun _ : Nat => False) s.heap s.heap [] := va_S.rf
  have hl : lv_has ls 5 [(0, .ref a0), (1, .int x1)] := hl
  refine lv_iconst (v := 0) X.1 X.2.1 dX1_fitting_0 (by decide +kernel) ?_
  refine lv_istore_n (lv' := [(2, .int 0), (0, .ref a0), (1, .int x1)]) X.1 X.2.1 dX1_fitting_1 rfl hl (by decide) rfl (fun ls hl => ?_)
  refine lv_iconst (v := 0) X.1 X.2.1 dX1_fitting_2 (by decide +kernel) ?_
  refine lv_istore_n (lv' := [(3, .int 0), (2, .int 0), (0, .ref a0), (1, .int x1)]) X.1 X.2.1 dX1_fitting_3 rfl hl (by decide) rfl (fun ls hl => ?_)
  have B1_4 : ∀ (N : Nat) (locs : List Loc) (ls : Array Slot) (z1_2 : Int32) (z1_3 : Int32), va_S (fun _ : Nat => False) s.heap s.heap locs → lv_has ls 5 [(0, .ref a0), (1, .int x1), (2, .int z1_2), (3, .int z1_3)] → iv 0 9 z1_3 → (10 - z1_3.toInt).toNat ≤ N → W p l e (headSpec (Cond.code yX1_fitting cX1_fitting 5 (some .int) :: sg_tbl) ({ frames := 1, cells := 0, slots := 0, locals := 24 })).room s m #[.ref a0, .int x1] below meth c s.heap locs 0 0 (MQ below (va_Qi (fun r (_ : Unit) => (fun r : Int32 => True) r) (fun _ t => t.heap = s.heap) (fun _ : Nat => False)) #[.ref a0, .int x1] s 0 0 (fun _ : Nat => False)) (F0 m 4 ls []) := by
    intro N; induction N with
    | zero =>
      intro locs ls z1_2 z1_3 hS hl hz1_3 hN
      exact absurd hN (by have := iv_up hz1_3; omega)
    | succ N ih1 =>
      intro locs ls z1_2 z1_3 hS hl hz1_3 hN1
      refine lv_iload_n X.1 X.2.1 dX1_fitting_4 rfl (lv_at hl 3 rfl) ?_
      refine lv_bipush (v := 8) X.1 X.2.1 dX1_fitting_5 (by decide +kernel) ?_
      refine lv_icmp_gt (tgt := 58) X.1 X.2.1 dX1_fitting_7 (by decide) (fun c2 => ?_) (fun c2 => ?_)
      · refine lv_iload_n X.1 X.2.1 dX1_fitting_58 rfl (lv_at hl 1 rfl) ?_
        refine lv_iconst (v := (-1)) X.1 X.2.1 dX1_fitting_59 (by decide +kernel) ?_
        refine lv_icmp_ne (tgt := 67) X.1 X.2.1 dX1_fitting_60 (by decide) (fun c3 => ?_) (fun c3 => ?_)
        · refine lv_iconst (v := (-1)) X.1 X.2.1 dX1_fitting_67 (by decide +kernel) ?_
          exact sg_iretP X hr hlk hS trivial dX1_fitting_68
        · refine lv_iload_n X.1 X.2.1 dX1_fitting_63 rfl (lv_at hl 2 rfl) ?_
          refine lv_goto (tgt := 68) X.1 X.2.1 dX1_fitting_64 (by decide) ?_
          exact sg_iretP X hr hlk hS trivial dX1_fitting_68
      · refine lv_iload_n X.1 X.2.1 dX1_fitting_10 rfl (lv_at hl 3 rfl) ?_
        refine lv_istore (lv' := [(4, .int z1_3), (0, .ref a0), (1, .int x1), (2, .int z1_2), (3, .int z1_3)]) X.1 X.2.1 dX1_fitting_11 hl (by decide) rfl (fun ls hl => ?_)
        have B4_13 : ∀ (N : Nat) (locs : List Loc) (ls : Array Slot) (z4_2 : Int32) (z4_4 : Int32), va_S (fun _ : Nat => False) s.heap s.heap locs → lv_has ls 5 [(0, .ref a0), (1, .int x1), (2, .int z4_2), (3, .int z1_3), (4, .int z4_4)] → iv 0 9 z4_4 → (10 - z4_4.toInt).toNat ≤ N → W p l e (headSpec (Cond.code yX1_fitting cX1_fitting 5 (some .int) :: sg_tbl) ({ frames := 1, cells := 0, slots := 0, locals := 24 })).room s m #[.ref a0, .int x1] below meth c s.heap locs 0 0 (MQ below (va_Qi (fun r (_ : Unit) => (fun r : Int32 => True) r) (fun _ t => t.heap = s.heap) (fun _ : Nat => False)) #[.ref a0, .int x1] s 0 0 (fun _ : Nat => False)) (F0 m 13 ls []) := by
          intro N; induction N with
          | zero =>
            intro locs ls z4_2 z4_4 hS hl hz4_4 hN
            exact absurd hN (by have := iv_up hz4_4; omega)
          | succ N ih4 =>
            intro locs ls z4_2 z4_4 hS hl hz4_4 hN4
            refine lv_iload X.1 X.2.1 dX1_fitting_13 (lv_at hl 4 rfl) ?_
            refine lv_bipush (v := 8) X.1 X.2.1 dX1_fitting_15 (by decide +kernel) ?_
            refine lv_icmp_gt (tgt := 52) X.1 X.2.1 dX1_fitting_17 (by decide) (fun c5 => ?_) (fun c5 => ?_)
            · obtain ⟨y6, ey6⟩ : ∃ y : Int32, y = z1_3 + Int32.ofInt 1 := ⟨_, rfl⟩
              refine lv_iinc (v := y6) (lv' := [(3, .int y6), (0, .ref a0), (1, .int x1), (2, .int z4_2), (4, .int z4_4)]) X.1 X.2.1 dX1_fitting_52 hl (k := 3) rfl ey6.symm (by decide) rfl (fun ls hl => ?_)
              refine lv_goto (tgt := 4) X.1 X.2.1 dX1_fitting_55 (by decide) ?_
              exact ih1 _ _ z4_2 y6 hS (lv_sub hl [1, 2, 3, 0] rfl) (iv_of (iv_add (a' := 1) (b' := 9) ey6 (iv_le (b' := 8) (iv_ge_of c2) hz1_3 (iv_c 8 (a := 8) (b := 8) (by decide +kernel)) (by decide +kernel)) (iv_c _ (a := 1) (b := 1) (by decide +kernel)) (by decide +kernel)) (a' := 0) (b' := 9) (by decide +kernel)) (iv_stepU ey6 (iv_le (b' := 8) (iv_ge_of c2) hz1_3 (iv_c 8 (a := 8) (b := 8) (by decide +kernel)) (by decide +kernel)) (by decide +kernel) hN1)
            · refine lv_aload_n X.1 X.2.1 dX1_fitting_20 rfl (lv_at hl 0 rfl) ?_
              refine lv_iload_n X.1 X.2.1 dX1_fitting_21 rfl (lv_at hl 3 rfl) ?_
              refine lv_iload X.1 X.2.1 dX1_fitting_22 (lv_at hl 4 rfl) ?_
              refine ca_X1_fits X hK hG hC (fun _ h => h.elim) hS hb a0 h0 z1_3 z4_4 wl_5_238 hl.1 (rest := []) rfl (Nat.le_of_ble_eq_true rfl) ⟨Nat.le_of_ble_eq_true rfl, Nat.le_of_ble_eq_true rfl⟩ ⟨Nat.le_of_ble_eq_true rfl, Nat.le_of_ble_eq_true rfl⟩ dX1_fitting_24 (fun f7 locs hf7 hS => ?_)
              have B9_46 : ∀ (locs : List Loc) (ls : Array Slot) (z9_2 : Int32), va_S (fun _ : Nat => False) s.heap s.heap locs → lv_has ls 5 [(0, .ref a0), (1, .int x1), (2, .int z9_2), (3, .int z1_3), (4, .int z4_4)] → W p l e (headSpec (Cond.code yX1_fitting cX1_fitting 5 (some .int) :: sg_tbl) ({ frames := 1, cells := 0, slots := 0, locals := 24 })).room s m #[.ref a0, .int x1] below meth c s.heap locs 0 0 (MQ below (va_Qi (fun r (_ : Unit) => (fun r : Int32 => True) r) (fun _ t => t.heap = s.heap) (fun _ : Nat => False)) #[.ref a0, .int x1] s 0 0 (fun _ : Nat => False)) (F0 m 46 ls []) := by
                intro locs ls z9_2 hS hl
                obtain ⟨y10, ey10⟩ : ∃ y : Int32, y = z4_4 + Int32.ofInt 1 := ⟨_, rfl⟩
                refine lv_iinc (v := y10) (lv' := [(4, .int y10), (0, .ref a0), (1, .int x1), (2, .int z9_2), (3, .int z1_3)]) X.1 X.2.1 dX1_fitting_46 hl (k := 4) rfl ey10.symm (by decide) rfl (fun ls hl => ?_)
                refine lv_goto (tgt := 13) X.1 X.2.1 dX1_fitting_49 (by decide) ?_
                exact ih4 _ _ z9_2 y10 hS (lv_sub hl [1, 2, 3, 4, 0] rfl) (iv_of (iv_add (a' := 1) (b' := 9) ey10 (iv_le (b' := 8) (iv_ge_of c5) hz4_4 (iv_c 8 (a := 8) (b := 8) (by decide +kernel)) (by decide +kernel)) (iv_c _ (a := 1) (b := 1) (by decide +kernel)) (by decide +kernel)) (a' := 0) (b' := 9) (by decide +kernel)) (iv_stepU ey10 (iv_le (b' := 8) (iv_ge_of c5) hz4_4 (iv_c 8 (a := 8) (b := 8) (by decide +kernel)) (by decide +kernel)) (by decide +kernel) hN4)
              refine lv_if_eq (tgt := 46) X.1 X.2.1 dX1_fitting_27 (by decide) (fun c8 => ?_) (fun c8 => ?_)
              · exact B9_46 _ _ z4_2 hS (lv_sub hl [0, 1, 2, 3, 4] rfl)
              · refine lv_iload_n X.1 X.2.1 dX1_fitting_30 rfl (lv_at hl 2 rfl) ?_
                refine lv_iload_n X.1 X.2.1 dX1_fitting_31 rfl (lv_at hl 1 rfl) ?_
                refine lv_icmp_ne (tgt := 43) X.1 X.2.1 dX1_fitting_32 (by decide) (fun c11 => ?_) (fun c11 => ?_)
                · obtain ⟨y12, ey12⟩ : ∃ y : Int32, y = z4_2 + Int32.ofInt 1 := ⟨_, rfl⟩
                  refine lv_iinc (v := y12) (lv' := [(2, .int y12), (0, .ref a0), (1, .int x1), (3, .int z1_3), (4, .int z4_4)]) X.1 X.2.1 dX1_fitting_43 hl (k := 2) rfl ey12.symm (by decide) rfl (fun ls hl => ?_)
                  exact B9_46 _ _ y12 hS (lv_sub hl [1, 2, 0, 3, 4] rfl)
                · refine lv_bipush (v := 10) X.1 X.2.1 dX1_fitting_35 (by decide +kernel) ?_
                  refine lv_iload_n X.1 X.2.1 dX1_fitting_37 rfl (lv_at hl 3 rfl) ?_
                  refine lv_imul X.1 X.2.1 dX1_fitting_38 ?_
                  refine lv_topi (fun f13 ef13 => ?_)
                  refine lv_iload X.1 X.2.1 dX1_fitting_39 (lv_at hl 4 rfl) ?_
                  refine lv_iadd X.1 X.2.1 dX1_fitting_41 ?_
                  refine lv_topi (fun f14 ef14 => ?_)
                  exact sg_iretP X hr hlk hS trivial dX1_fitting_42
        exact B4_13 _ _ _ z1_2 z1_3 hS (lv_sub hl [1, 2, 3, 4, 0] rfl) (iv_of (iv_le (b' := 8) (iv_ge_of c2) hz1_3 (iv_c 8 (a := 8) (b := 8) (by decide +kernel)) (by decide +kernel)) (a' := 0) (b' := 9) (by decide +kernel)) (Nat.le_refl _)
  exact B1_4 _ _ _ 0 0 hS (lv_sub hl [2, 3, 1, 0] rfl) (iv_of (iv_c 0 (a := 0) (b := 0) (by decide +kernel)) (a' := 0) (b' := 9) (by decide +kernel)) (Nat.le_refl _)

theorem ca_X1_fitting   (X : CallFix p m c cc nL s args sg_tbl own) (hK : va_K D vwCl tys s) (hG : sgG (KT P) D vwCl (fun q : Nat => base ≤ q) tys ad ks H) (hC : sgC base s) (hA : ∀ q : Nat, A q → base ≤ q) (hS : va_S A s.heap H locs) (hb : base ≤ s.heap.size) (a0 : Nat) (h0 : isK ad ks 1 a0) (x1 : Int32) (hl : Cond.methodLink own index yX1_fitting ∈ sg_tbl) (hsize : ls.size = nL) (hst : st0 = [.int x1].reverse ++ .ref a0 :: rest) (hW : (rest.map fun v => v.category).sum ≤ 8) (hR : 2 ≤ R.frames ∧ 48 ≤ R.locals) (hf : cells ≤ R.cells ∧ slots ≤ R.slots) (hdg : decode cc pc = .ok (.invokevirtual index, 3)) (kk : ∀ (r : Int32) (locs1 : List Loc), (fun r : Int32 => True) r → va_S A s.heap H locs1 → W p l e R s m args below meth c H locs1 cells slots Q (F0 m (pc + 3) ls (.int r :: rest))) : W p l e R s m args below meth c H locs cells slots Q (F0 m pc ls st0) :=
  sg_callPVi X hK hG hC hA hS hb (m_X1_fitting l a0 h0 x1) h0 (k := 1) (ci := 1) rfl (C := RX1) (T := TX1) (N := 3) rfl wl_5_237 wl_1_12 wl_5_235 wl_5_236 (n := 1) (by decide +kernel) rfl rfl rfl hl hsize hst hW hR hf hdg kk

set_option maxHeartbeats 8000000 in
set_option maxRecDepth 100000 in
theorem m_X4_row (l : Launch) {D : va_G} {base : Nat} {tys : List (ClassId × FieldType)} {ad ks : List Nat} {P : sgPm} {Hx : Heap} (a0 : Nat) (h0 : isK ad ks 4 a0) (x1 : Int32) : sgPi l (KT P) D vwCl base tys ad ks Hx yX4_row cX4_row 2 (some .int) ({ frames := 0, cells := 0, slots := 0, locals := 0 }) [.ref a0, .int x1] (fun r : Int32 => True) := by
  refine sg_ofP (Pq := fun Hx => va_Qi (fun r (_ : Unit) => (fun r : Int32 => True) r) (fun _ t => t.heap = Hx) (fun _ : Nat => False)) (by decide +kernel) (Nat.le_of_ble_eq_true rfl) (fun p e s m below meth c X hr hlk hb hK hC hG ls hl => ?_)
  have hS : va_S (fun _ : Nat => False) s.heap s.heap [] := va_S.rf
  have hl : lv_has ls 2 [(0, .ref a0), (1, .int x1)] := hl
  refine lv_aload_n X.1 X.2.1 dX4_row_0 rfl (lv_at hl 0 rfl) ?_
  refine gf_X4_7 X hK hG h0 wl_1_225 dX4_row_1 (fun f1 hf1 kf1 => ?_)
  refine lv_iconst (v := 1) X.1 X.2.1 dX4_row_4 (by decide +kernel) ?_
  refine lv_icmp_ge (tgt := 12) X.1 X.2.1 dX4_row_5 (by decide) (fun c2 => ?_) (fun c2 => ?_)
  · refine lv_iload_n X.1 X.2.1 dX4_row_12 rfl (lv_at hl 1 rfl) ?_
    refine lv_aload_n X.1 X.2.1 dX4_row_13 rfl (lv_at hl 0 rfl) ?_
    refine gg_X4_7 X hK hG h0 wl_1_225 kf1 dX4_row_14 ?_
    refine lv_idiv X.1 X.2.1 dX4_row_17 (iv_ne0 (iv_ler (c' := 1) c2 (iv_c 1 (a := 1) (b := 1) (by decide +kernel)) (iv_top f1) (by decide +kernel)) (by decide +kernel)) ?_
    refine lv_topi (fun f3 ef3 => ?_)
    exact sg_iretP X hr hlk hS trivial dX4_row_18
  · refine lv_iconst (v := 0) X.1 X.2.1 dX4_row_8 (by decide +kernel) ?_
    refine lv_goto (tgt := 18) X.1 X.2.1 dX4_row_9 (by decide) ?_
    exact sg_iretP X hr hlk hS trivial dX4_row_18

theorem ca_X4_row   (X : CallFix p m c cc nL s args sg_tbl own) (hK : va_K D vwCl tys s) (hG : sgG (KT P) D vwCl (fun q : Nat => base ≤ q) tys ad ks H) (hC : sgC base s) (hA : ∀ q : Nat, A q → base ≤ q) (hS : va_S A s.heap H locs) (hb : base ≤ s.heap.size) (a0 : Nat) (h0 : isK ad ks 4 a0) (x1 : Int32) (hl : Cond.methodLink own index yX4_row ∈ sg_tbl) (hsize : ls.size = nL) (hst : st0 = [.int x1].reverse ++ .ref a0 :: rest) (hW : (rest.map fun v => v.category).sum ≤ 8) (hR : 1 ≤ R.frames ∧ 21 ≤ R.locals) (hf : cells ≤ R.cells ∧ slots ≤ R.slots) (hdg : decode cc pc = .ok (.invokevirtual index, 3)) (kk : ∀ (r : Int32) (locs1 : List Loc), (fun r : Int32 => True) r → va_S A s.heap H locs1 → W p l e R s m args below meth c H locs1 cells slots Q (F0 m (pc + 3) ls (.int r :: rest))) : W p l e R s m args below meth c H locs cells slots Q (F0 m pc ls st0) :=
  sg_callPVi X hK hG hC hA hS hb (m_X4_row l a0 h0 x1) h0 (k := 4) (ci := 4) rfl (C := RX4) (T := TX4) (N := 15) rfl wl_4_119 wl_1_7 wl_4_117 wl_4_118 (n := 1) (by decide +kernel) rfl rfl rfl hl hsize hst hW hR hf hdg kk

set_option maxHeartbeats 8000000 in
set_option maxRecDepth 100000 in
theorem m_X4_column (l : Launch) {D : va_G} {base : Nat} {tys : List (ClassId × FieldType)} {ad ks : List Nat} {P : sgPm} {Hx : Heap} (a0 : Nat) (h0 : isK ad ks 4 a0) (x1 : Int32) : sgPi l (KT P) D vwCl base tys ad ks Hx yX4_column cX4_column 2 (some .int) ({ frames := 0, cells := 0, slots := 0, locals := 0 }) [.ref a0, .int x1] (fun r : Int32 => True) := by
  refine sg_ofP (Pq := fun Hx => va_Qi (fun r (_ : Unit) => (fun r : Int32 => True) r) (fun _ t => t.heap = Hx) (fun _ : Nat => False)) (by decide +kernel) (Nat.le_of_ble_eq_true rfl) (fun p e s m below meth c X hr hlk hb hK hC hG ls hl => ?_)
  have hS : va_S (fun _ : Nat => False) s.heap s.heap [] := va_S.rf
  have hl : lv_has ls 2 [(0, .ref a0), (1, .int x1)] := hl
  refine lv_aload_n X.1 X.2.1 dX4_column_0 rfl (lv_at hl 0 rfl) ?_
  refine gf_X4_7 X hK hG h0 wl_1_225 dX4_column_1 (fun f1 hf1 kf1 => ?_)
  refine lv_iconst (v := 1) X.1 X.2.1 dX4_column_4 (by decide +kernel) ?_
  refine lv_icmp_ge (tgt := 12) X.1 X.2.1 dX4_column_5 (by decide) (fun c2 => ?_) (fun c2 => ?_)
  · refine lv_iload_n X.1 X.2.1 dX4_column_12 rfl (lv_at hl 1 rfl) ?_
    refine lv_aload_n X.1 X.2.1 dX4_column_13 rfl (lv_at hl 0 rfl) ?_
    refine gg_X4_7 X hK hG h0 wl_1_225 kf1 dX4_column_14 ?_
    refine lv_irem X.1 X.2.1 dX4_column_17 (iv_ne0 (iv_ler (c' := 1) c2 (iv_c 1 (a := 1) (b := 1) (by decide +kernel)) (iv_top f1) (by decide +kernel)) (by decide +kernel)) ?_
    refine lv_topi (fun f3 ef3 => ?_)
    exact sg_iretP X hr hlk hS trivial dX4_column_18
  · refine lv_iconst (v := 0) X.1 X.2.1 dX4_column_8 (by decide +kernel) ?_
    refine lv_goto (tgt := 18) X.1 X.2.1 dX4_column_9 (by decide) ?_
    exact sg_iretP X hr hlk hS trivial dX4_column_18

theorem ca_X4_column   (X : CallFix p m c cc nL s args sg_tbl own) (hK : va_K D vwCl tys s) (hG : sgG (KT P) D vwCl (fun q : Nat => base ≤ q) tys ad ks H) (hC : sgC base s) (hA : ∀ q : Nat, A q → base ≤ q) (hS : va_S A s.heap H locs) (hb : base ≤ s.heap.size) (a0 : Nat) (h0 : isK ad ks 4 a0) (x1 : Int32) (hl : Cond.methodLink own index yX4_column ∈ sg_tbl) (hsize : ls.size = nL) (hst : st0 = [.int x1].reverse ++ .ref a0 :: rest) (hW : (rest.map fun v => v.category).sum ≤ 8) (hR : 1 ≤ R.frames ∧ 21 ≤ R.locals) (hf : cells ≤ R.cells ∧ slots ≤ R.slots) (hdg : decode cc pc = .ok (.invokevirtual index, 3)) (kk : ∀ (r : Int32) (locs1 : List Loc), (fun r : Int32 => True) r → va_S A s.heap H locs1 → W p l e R s m args below meth c H locs1 cells slots Q (F0 m (pc + 3) ls (.int r :: rest))) : W p l e R s m args below meth c H locs cells slots Q (F0 m pc ls st0) :=
  sg_callPVi X hK hG hC hA hS hb (m_X4_column l a0 h0 x1) h0 (k := 4) (ci := 4) rfl (C := RX4) (T := TX4) (N := 15) rfl wl_3_184 wl_1_7 wl_3_182 wl_3_183 (n := 1) (by decide +kernel) rfl rfl rfl hl hsize hst hW hR hf hdg kk

set_option maxHeartbeats 8000000 in
set_option maxRecDepth 100000 in
theorem m_X4_mirrors (l : Launch) {D : va_G} {base : Nat} {tys : List (ClassId × FieldType)} {ad ks : List Nat} {P : sgPm} {Hx : Heap} (a0 : Nat) (h0 : isK ad ks 4 a0) : sgPi l (KT P) D vwCl base tys ad ks Hx yX4_mirrors cX4_mirrors 1 (some .int) ({ frames := 0, cells := 0, slots := 0, locals := 0 }) [.ref a0] (fun r : Int32 => iv 4 8 r) := by
  refine sg_ofP (Pq := fun Hx => va_Qi (fun r (_ : Unit) => (fun r : Int32 => iv 4 8 r) r) (fun _ t => t.heap = Hx) (fun _ : Nat => False)) (by decide +kernel) (Nat.le_of_ble_eq_true rfl) (fun p e s m below meth c X hr hlk hb hK hC hG ls hl => ?_)
  have hS : va_S (fun _ : Nat => False) s.heap s.heap [] := va_S.rf
  have hl : lv_has ls 1 [(0, .ref a0)] := hl
  refine lv_aload_n X.1 X.2.1 dX4_mirrors_0 rfl (lv_at hl 0 rfl) ?_
  refine gf_X4_7 X hK hG h0 wl_1_225 dX4_mirrors_1 (fun f1 hf1 kf1 => ?_)
  refine lv_aload_n X.1 X.2.1 dX4_mirrors_4 rfl (lv_at hl 0 rfl) ?_
  refine gf_X4_8 X hK hG h0 wl_1_226 dX4_mirrors_5 (fun f2 hf2 kf2 => ?_)
  refine lv_icmp_ne (tgt := 16) X.1 X.2.1 dX4_mirrors_8 (by decide) (fun c3 => ?_) (fun c3 => ?_)
  · refine lv_iconst (v := 4) X.1 X.2.1 dX4_mirrors_16 (by decide +kernel) ?_
    exact sg_iretP X hr hlk hS (iv_of (iv_c 4 (a := 4) (b := 4) (by decide +kernel)) (a' := 4) (b' := 8) (by decide +kernel)) dX4_mirrors_17
  · refine lv_bipush (v := 8) X.1 X.2.1 dX4_mirrors_11 (by decide +kernel) ?_
    refine lv_goto (tgt := 17) X.1 X.2.1 dX4_mirrors_13 (by decide) ?_
    exact sg_iretP X hr hlk hS (iv_of (iv_c 8 (a := 8) (b := 8) (by decide +kernel)) (a' := 4) (b' := 8) (by decide +kernel)) dX4_mirrors_17

theorem ca_X4_mirrors   (X : CallFix p m c cc nL s args sg_tbl own) (hK : va_K D vwCl tys s) (hG : sgG (KT P) D vwCl (fun q : Nat => base ≤ q) tys ad ks H) (hC : sgC base s) (hA : ∀ q : Nat, A q → base ≤ q) (hS : va_S A s.heap H locs) (hb : base ≤ s.heap.size) (a0 : Nat) (h0 : isK ad ks 4 a0) (hl : Cond.methodLink own index yX4_mirrors ∈ sg_tbl) (hsize : ls.size = nL) (hst : st0 = [].reverse ++ .ref a0 :: rest) (hW : (rest.map fun v => v.category).sum ≤ 8) (hR : 1 ≤ R.frames ∧ 20 ≤ R.locals) (hf : cells ≤ R.cells ∧ slots ≤ R.slots) (hdg : decode cc pc = .ok (.invokevirtual index, 3)) (kk : ∀ (r : Int32) (locs1 : List Loc), (fun r : Int32 => iv 4 8 r) r → va_S A s.heap H locs1 → W p l e R s m args below meth c H locs1 cells slots Q (F0 m (pc + 3) ls (.int r :: rest))) : W p l e R s m args below meth c H locs cells slots Q (F0 m pc ls st0) :=
  sg_callPVi X hK hG hC hA hS hb (m_X4_mirrors l a0 h0) h0 (k := 4) (ci := 4) rfl (C := RX4) (T := TX4) (N := 15) rfl wl_6_20 wl_1_7 wl_6_18 wl_6_19 (n := 0) (by decide +kernel) rfl rfl rfl hl hsize hst hW hR hf hdg kk

set_option maxHeartbeats 8000000 in
set_option maxRecDepth 100000 in
theorem m_X4_beside (l : Launch) {D : va_G} {base : Nat} {tys : List (ClassId × FieldType)} {ad ks : List Nat} {P : sgPm} {Hx : Heap} (a0 : Nat) (h0 : isK ad ks 4 a0) (x1 : Int32) : sgPi l (KT P) D vwCl base tys ad ks Hx yX4_beside cX4_beside 3 (some .int) ({ frames := 0, cells := 0, slots := 0, locals := 0 }) [.ref a0, .int x1] (fun r : Int32 => True) := by
  refine sg_ofP (Pq := fun Hx => va_Qi (fun r (_ : Unit) => (fun r : Int32 => True) r) (fun _ t => t.heap = Hx) (fun _ : Nat => False)) (by decide +kernel) (Nat.le_of_ble_eq_true rfl) (fun p e s m below meth c X hr hlk hb hK hC hG ls hl => ?_)
  have hS : va_S (fun _ : Nat => False) s.heap s.heap [] := va_S.rf
  have hl : lv_has ls 3 [(0, .ref a0), (1, .int x1)] := hl
  refine lv_iload_n X.1 X.2.1 dX4_beside_0 rfl (lv_at hl 1 rfl) ?_
  refine lv_aload_n X.1 X.2.1 dX4_beside_1 rfl (lv_at hl 0 rfl) ?_
  refine gf_X4_3 X hK hG h0 wl_1_215 dX4_beside_2 (fun q1 hq1 kq1 => ?_)
  refine lv_iconst (v := 0) X.1 X.2.1 dX4_beside_5 (by decide +kernel) ?_
  refine al_24 X hK hG hq1 (iv_vpin (iv_c 0 (a := 0) (b := 0) (by decide +kernel)) (by decide +kernel)) dX4_beside_6 (fun f2 hf2 => ?_)
  refine lv_iand X.1 X.2.1 dX4_beside_7 ?_
  refine lv_topi (fun f3 ef3 => ?_)
  refine lv_iconst (v := 1) X.1 X.2.1 dX4_beside_8 (by decide +kernel) ?_
  refine lv_ishl X.1 X.2.1 dX4_beside_9 ?_
  refine lv_topi (fun f4 ef4 => ?_)
  refine lv_iload_n X.1 X.2.1 dX4_beside_10 rfl (lv_at hl 1 rfl) ?_
  refine lv_iconst (v := 1) X.1 X.2.1 dX4_beside_11 (by decide +kernel) ?_
  obtain ⟨f5, ef5⟩ : ∃ y : Int32, y = (x1.toUInt32 >>> ((1 : Int32).toUInt32 &&& Int32.toUInt32 31)).toInt32 := ⟨_, rfl⟩
  refine lv_iushr (v := f5) X.1 X.2.1 dX4_beside_12 ef5.symm ?_
  refine lv_aload_n X.1 X.2.1 dX4_beside_13 rfl (lv_at hl 0 rfl) ?_
  refine gg_X4_3 X hK hG h0 wl_1_215 kq1 dX4_beside_14 ?_
  refine lv_iconst (v := 0) X.1 X.2.1 dX4_beside_17 (by decide +kernel) ?_
  refine al_24 X hK hG hq1 (iv_vpin (iv_c 0 (a := 0) (b := 0) (by decide +kernel)) (by decide +kernel)) dX4_beside_18 (fun f6 hf6 => ?_)
  refine lv_iand X.1 X.2.1 dX4_beside_19 ?_
  refine lv_topi (fun f7 ef7 => ?_)
  refine lv_ior X.1 X.2.1 dX4_beside_20 ?_
  refine lv_topi (fun f8 ef8 => ?_)
  refine lv_istore_n (lv' := [(2, .int f8), (0, .ref a0), (1, .int x1)]) X.1 X.2.1 dX4_beside_21 rfl hl (by decide) rfl (fun ls hl => ?_)
  refine lv_iload_n X.1 X.2.1 dX4_beside_22 rfl (lv_at hl 0 rfl) ?_
  refine lv_iload_n X.1 X.2.1 dX4_beside_23 rfl (lv_at hl 2 rfl) ?_
  refine lv_aload_n X.1 X.2.1 dX4_beside_24 rfl (lv_at hl 1 rfl) ?_
  refine gf_X4_7 X hK hG h0 wl_1_225 dX4_beside_25 (fun f9 hf9 kf9 => ?_)
  refine lv_ishl X.1 X.2.1 dX4_beside_28 ?_
  refine lv_topi (fun f10 ef10 => ?_)
  refine lv_ior X.1 X.2.1 dX4_beside_29 ?_
  refine lv_topi (fun f11 ef11 => ?_)
  refine lv_iload_n X.1 X.2.1 dX4_beside_30 rfl (lv_at hl 2 rfl) ?_
  refine lv_aload_n X.1 X.2.1 dX4_beside_31 rfl (lv_at hl 1 rfl) ?_
  refine gg_X4_7 X hK hG h0 wl_1_225 kf9 dX4_beside_32 ?_
  obtain ⟨f12, ef12⟩ : ∃ y : Int32, y = (x1.toUInt32 >>> ((f9 : Int32).toUInt32 &&& Int32.toUInt32 31)).toInt32 := ⟨_, rfl⟩
  refine lv_iushr (v := f12) X.1 X.2.1 dX4_beside_35 ef12.symm ?_
  refine lv_ior X.1 X.2.1 dX4_beside_36 ?_
  refine lv_topi (fun f13 ef13 => ?_)
  refine lv_aload_n X.1 X.2.1 dX4_beside_37 rfl (lv_at hl 1 rfl) ?_
  refine gf_X4_6 X hK hG h0 wl_1_222 dX4_beside_38 (fun f14 hf14 kf14 => ?_)
  refine lv_iand X.1 X.2.1 dX4_beside_41 ?_
  refine lv_topi (fun f15 ef15 => ?_)
  exact sg_iretP X hr hlk hS trivial dX4_beside_42

theorem ca_X4_beside   (X : CallFix p m c cc nL s args sg_tbl own) (hK : va_K D vwCl tys s) (hG : sgG (KT P) D vwCl (fun q : Nat => base ≤ q) tys ad ks H) (hC : sgC base s) (hA : ∀ q : Nat, A q → base ≤ q) (hS : va_S A s.heap H locs) (hb : base ≤ s.heap.size) (a0 : Nat) (h0 : isK ad ks 4 a0) (x1 : Int32) (hl : Cond.methodLink own index yX4_beside ∈ sg_tbl) (hsize : ls.size = nL) (hst : st0 = [.int x1].reverse ++ .ref a0 :: rest) (hW : (rest.map fun v => v.category).sum ≤ 8) (hR : 1 ≤ R.frames ∧ 22 ≤ R.locals) (hf : cells ≤ R.cells ∧ slots ≤ R.slots) (hdg : decode cc pc = .ok (.invokevirtual index, 3)) (kk : ∀ (r : Int32) (locs1 : List Loc), (fun r : Int32 => True) r → va_S A s.heap H locs1 → W p l e R s m args below meth c H locs1 cells slots Q (F0 m (pc + 3) ls (.int r :: rest))) : W p l e R s m args below meth c H locs cells slots Q (F0 m pc ls st0) :=
  sg_callPVi X hK hG hC hA hS hb (m_X4_beside l a0 h0 x1) h0 (k := 4) (ci := 4) rfl (C := RX4) (T := TX4) (N := 15) rfl wl_5_147 wl_1_7 wl_5_145 wl_5_146 (n := 1) (by decide +kernel) rfl rfl rfl hl hsize hst hW hR hf hdg kk

set_option maxHeartbeats 8000000 in
set_option maxRecDepth 100000 in
theorem m_X4_startsBut (l : Launch) {D : va_G} {base : Nat} {tys : List (ClassId × FieldType)} {ad ks : List Nat} {P : sgPm} {Hx : Heap} (a0 : Nat) (h0 : isK ad ks 4 a0) (x1 : Int32) (x2 : Int32) (h2 : iv 0 3 x2) (x3 : Int32) : sgPi l (KT P) D vwCl base tys ad ks Hx yX4_startsBut cX4_startsBut 6 (some .int) ({ frames := 0, cells := 0, slots := 0, locals := 0 }) [.ref a0, .int x1, .int x2, .int x3] (fun r : Int32 => True) := by
  refine sg_ofP (Pq := fun Hx => va_Qi (fun r (_ : Unit) => (fun r : Int32 => True) r) (fun _ t => t.heap = Hx) (fun _ : Nat => False)) (by decide +kernel) (Nat.le_of_ble_eq_true rfl) (fun p e s m below meth c X hr hlk hb hK hC hG ls hl => ?_)
  have hS : va_S (fun _ : Nat => False) s.heap s.heap [] := va_S.rf
  have hl : lv_has ls 6 [(0, .ref a0), (1, .int x1), (2, .int x2), (3, .int x3)] := hl
  refine lv_aload_n X.1 X.2.1 dX4_startsBut_0 rfl (lv_at hl 0 rfl) ?_
  refine gf_X4_4 X hK hG h0 wl_1_216 dX4_startsBut_1 (fun q1 hq1 kq1 => ?_)
  refine lv_iload_n X.1 X.2.1 dX4_startsBut_4 rfl (lv_at hl 2 rfl) ?_
  refine al_25 X hK hG hq1 (iv_vpin h2 (by decide +kernel)) dX4_startsBut_5 (fun f2 hf2 => ?_)
  refine lv_istore (lv' := [(4, .int f2), (0, .ref a0), (1, .int x1), (2, .int x2), (3, .int x3)]) X.1 X.2.1 dX4_startsBut_6 hl (by decide) rfl (fun ls hl => ?_)
  refine lv_iconst (v := 0) X.1 X.2.1 dX4_startsBut_8 (by decide +kernel) ?_
  refine lv_istore (lv' := [(5, .int 0), (4, .int f2), (0, .ref a0), (1, .int x1), (2, .int x2), (3, .int x3)]) X.1 X.2.1 dX4_startsBut_9 hl (by decide) rfl (fun ls hl => ?_)
  have B3_11 : ∀ (N : Nat) (locs : List Loc) (ls : Array Slot) (z3_4 : Int32) (z3_5 : Int32), va_S (fun _ : Nat => False) s.heap s.heap locs → lv_has ls 6 [(0, .ref a0), (1, .int x1), (2, .int x2), (3, .int x3), (4, .int z3_4), (5, .int z3_5)] → iv 0 5 z3_5 → (6 - z3_5.toInt).toNat ≤ N → W p l e (headSpec (Cond.code yX4_startsBut cX4_startsBut 6 (some .int) :: sg_tbl) ({ frames := 0, cells := 0, slots := 0, locals := 0 })).room s m #[.ref a0, .int x1, .int x2, .int x3] below meth c s.heap locs 0 0 (MQ below (va_Qi (fun r (_ : Unit) => (fun r : Int32 => True) r) (fun _ t => t.heap = s.heap) (fun _ : Nat => False)) #[.ref a0, .int x1, .int x2, .int x3] s 0 0 (fun _ : Nat => False)) (F0 m 11 ls []) := by
    intro N; induction N with
    | zero =>
      intro locs ls z3_4 z3_5 hS hl hz3_5 hN
      exact absurd hN (by have := iv_up hz3_5; omega)
    | succ N ih3 =>
      intro locs ls z3_4 z3_5 hS hl hz3_5 hN3
      refine lv_iload X.1 X.2.1 dX4_startsBut_11 (lv_at hl 5 rfl) ?_
      refine lv_aload_n X.1 X.2.1 dX4_startsBut_13 rfl (lv_at hl 0 rfl) ?_
      refine gf_X4_0 X hK hG h0 wl_1_209 dX4_startsBut_14 (fun q4 hq4 kq4 => ?_)
      refine lv_iconst (v := 2) X.1 X.2.1 dX4_startsBut_17 (by decide +kernel) ?_
      refine al_21 X hK hG hq4 (iv_vpin (iv_c 2 (a := 2) (b := 2) (by decide +kernel)) (by decide +kernel)) dX4_startsBut_18 (fun f5 hf5 => ?_)
      have of5 := hf5
      have hf5 : iv 0 5 f5 := sg_sp_rules hf5 (iv_c 2 (a := 2) (b := 2) (by decide +kernel)) (by decide +kernel) rfl
      refine lv_icmp_ge (tgt := 55) X.1 X.2.1 dX4_startsBut_19 (by decide) (fun c6 => ?_) (fun c6 => ?_)
      · refine lv_iload X.1 X.2.1 dX4_startsBut_55 (lv_at hl 4 rfl) ?_
        exact sg_iretP X hr hlk hS trivial dX4_startsBut_57
      · refine lv_iload X.1 X.2.1 dX4_startsBut_22 (lv_at hl 4 rfl) ?_
        refine lv_if_eq (tgt := 55) X.1 X.2.1 dX4_startsBut_24 (by decide) (fun c7 => ?_) (fun c7 => ?_)
        · refine lv_iload X.1 X.2.1 dX4_startsBut_55 (lv_at hl 4 rfl) ?_
          exact sg_iretP X hr hlk hS trivial dX4_startsBut_57
        · refine lv_iload X.1 X.2.1 dX4_startsBut_27 (lv_at hl 5 rfl) ?_
          refine lv_iload_n X.1 X.2.1 dX4_startsBut_29 rfl (lv_at hl 1 rfl) ?_
          have B9_49 : ∀ (locs : List Loc) (ls : Array Slot) (z9_4 : Int32), va_S (fun _ : Nat => False) s.heap s.heap locs → lv_has ls 6 [(0, .ref a0), (1, .int x1), (2, .int x2), (3, .int x3), (4, .int z9_4), (5, .int z3_5)] → W p l e (headSpec (Cond.code yX4_startsBut cX4_startsBut 6 (some .int) :: sg_tbl) ({ frames := 0, cells := 0, slots := 0, locals := 0 })).room s m #[.ref a0, .int x1, .int x2, .int x3] below meth c s.heap locs 0 0 (MQ below (va_Qi (fun r (_ : Unit) => (fun r : Int32 => True) r) (fun _ t => t.heap = s.heap) (fun _ : Nat => False)) #[.ref a0, .int x1, .int x2, .int x3] s 0 0 (fun _ : Nat => False)) (F0 m 49 ls []) := by
            intro locs ls z9_4 hS hl
            obtain ⟨y10, ey10⟩ : ∃ y : Int32, y = z3_5 + Int32.ofInt 1 := ⟨_, rfl⟩
            refine lv_iinc (v := y10) (lv' := [(5, .int y10), (0, .ref a0), (1, .int x1), (2, .int x2), (3, .int x3), (4, .int z9_4)]) X.1 X.2.1 dX4_startsBut_49 hl (k := 5) rfl ey10.symm (by decide) rfl (fun ls hl => ?_)
            refine lv_goto (tgt := 11) X.1 X.2.1 dX4_startsBut_52 (by decide) ?_
            exact ih3 _ _ z9_4 y10 hS (lv_sub hl [1, 2, 3, 4, 5, 0] rfl) (iv_of (iv_add (a' := 1) (b' := 5) ey10 (iv_lt (b' := 4) (iv_gt_of c6) hz3_5 hf5 (by decide +kernel)) (iv_c _ (a := 1) (b := 1) (by decide +kernel)) (by decide +kernel)) (a' := 0) (b' := 5) (by decide +kernel)) (iv_stepU ey10 (iv_lt (b' := 4) (iv_gt_of c6) hz3_5 hf5 (by decide +kernel)) (by decide +kernel) hN3)
          refine lv_icmp_eq (tgt := 49) X.1 X.2.1 dX4_startsBut_30 (by decide) (fun c8 => ?_) (fun c8 => ?_)
          · exact B9_49 _ _ z3_4 hS (lv_sub hl [0, 1, 2, 3, 4, 5] rfl)
          · refine lv_iload X.1 X.2.1 dX4_startsBut_33 (lv_at hl 4 rfl) ?_
            refine lv_iload_n X.1 X.2.1 dX4_startsBut_35 rfl (lv_at hl 3 rfl) ?_
            refine lv_iload X.1 X.2.1 dX4_startsBut_36 (lv_at hl 5 rfl) ?_
            refine lv_aload_n X.1 X.2.1 dX4_startsBut_38 rfl (lv_at hl 0 rfl) ?_
            refine gf_X4_2 X hK hG h0 wl_1_214 dX4_startsBut_39 (fun q11 hq11 kq11 => ?_)
            refine lv_iload_n X.1 X.2.1 dX4_startsBut_42 rfl (lv_at hl 2 rfl) ?_
            refine al_23 X hK hG hq11 (iv_vpin h2 (by decide +kernel)) dX4_startsBut_43 (fun f12 hf12 => ?_)
            refine lv_imul X.1 X.2.1 dX4_startsBut_44 ?_
            refine lv_topi (fun f13 ef13 => ?_)
            obtain ⟨f14, ef14⟩ : ∃ y : Int32, y = (x3.toUInt32 >>> ((f13 : Int32).toUInt32 &&& Int32.toUInt32 31)).toInt32 := ⟨_, rfl⟩
            refine lv_iushr (v := f14) X.1 X.2.1 dX4_startsBut_45 ef14.symm ?_
            refine lv_iand X.1 X.2.1 dX4_startsBut_46 ?_
            refine lv_topi (fun f15 ef15 => ?_)
            refine lv_istore (lv' := [(4, .int f15), (0, .ref a0), (1, .int x1), (2, .int x2), (3, .int x3), (5, .int z3_5)]) X.1 X.2.1 dX4_startsBut_47 hl (by decide) rfl (fun ls hl => ?_)
            exact B9_49 _ _ f15 hS (lv_sub hl [1, 2, 3, 4, 0, 5] rfl)
  exact B3_11 _ _ _ f2 0 hS (lv_sub hl [2, 3, 4, 5, 1, 0] rfl) (iv_of (iv_c 0 (a := 0) (b := 0) (by decide +kernel)) (a' := 0) (b' := 5) (by decide +kernel)) (Nat.le_refl _)

theorem ca_X4_startsBut   (X : CallFix p m c cc nL s args sg_tbl own) (hK : va_K D vwCl tys s) (hG : sgG (KT P) D vwCl (fun q : Nat => base ≤ q) tys ad ks H) (hC : sgC base s) (hA : ∀ q : Nat, A q → base ≤ q) (hS : va_S A s.heap H locs) (hb : base ≤ s.heap.size) (a0 : Nat) (h0 : isK ad ks 4 a0) (x1 : Int32) (x2 : Int32) (h2 : iv 0 3 x2) (x3 : Int32) (hl : Cond.methodLink own index yX4_startsBut ∈ sg_tbl) (hsize : ls.size = nL) (hst : st0 = [.int x1, .int x2, .int x3].reverse ++ .ref a0 :: rest) (hW : (rest.map fun v => v.category).sum ≤ 8) (hR : 1 ≤ R.frames ∧ 25 ≤ R.locals) (hf : cells ≤ R.cells ∧ slots ≤ R.slots) (hdg : decode cc pc = .ok (.invokevirtual index, 3)) (kk : ∀ (r : Int32) (locs1 : List Loc), (fun r : Int32 => True) r → va_S A s.heap H locs1 → W p l e R s m args below meth c H locs1 cells slots Q (F0 m (pc + 3) ls (.int r :: rest))) : W p l e R s m args below meth c H locs cells slots Q (F0 m pc ls st0) :=
  sg_callPVi X hK hG hC hA hS hb (m_X4_startsBut l a0 h0 x1 x2 h2 x3) h0 (k := 4) (ci := 4) rfl (C := RX4) (T := TX4) (N := 15) rfl wl_3_200 wl_1_7 wl_3_199 wl_0_9 (n := 3) (by decide +kernel) rfl rfl rfl hl hsize hst hW hR hf hdg kk

set_option maxHeartbeats 8000000 in
set_option maxRecDepth 100000 in
theorem m_X4_hasLine (l : Launch) {D : va_G} {base : Nat} {tys : List (ClassId × FieldType)} {ad ks : List Nat} {P : sgPm} {Hx : Heap} (a0 : Nat) (h0 : isK ad ks 4 a0) (x1 : Int32) : sgPi l (KT P) D vwCl base tys ad ks Hx yX4_hasLine cX4_hasLine 3 (some .boolean) ({ frames := 1, cells := 0, slots := 0, locals := 25 }) [.ref a0, .int x1] (fun r : Int32 => iv 0 1 r) := by
  refine sg_ofP (Pq := fun Hx => va_Qi (fun r (_ : Unit) => (fun r : Int32 => iv 0 1 r) r) (fun _ t => t.heap = Hx) (fun _ : Nat => False)) (by decide +kernel) (Nat.le_of_ble_eq_true rfl) (fun p e s m below meth c X hr hlk hb hK hC hG ls hl => ?_)
  have hS : va_S (fun _ : Nat => False) s.heap s.heap [] := va_S.rf
  have hl : lv_has ls 3 [(0, .ref a0), (1, .int x1)] := hl
  refine lv_iconst (v := 0) X.1 X.2.1 dX4_hasLine_0 (by decide +kernel) ?_
  refine lv_istore_n (lv' := [(2, .int 0), (0, .ref a0), (1, .int x1)]) X.1 X.2.1 dX4_hasLine_1 rfl hl (by decide) rfl (fun ls hl => ?_)
  have B1_2 : ∀ (N : Nat) (locs : List Loc) (ls : Array Slot) (z1_2 : Int32), va_S (fun _ : Nat => False) s.heap s.heap locs → lv_has ls 3 [(0, .ref a0), (1, .int x1), (2, .int z1_2)] → iv 0 4 z1_2 → (5 - z1_2.toInt).toNat ≤ N → W p l e (headSpec (Cond.code yX4_hasLine cX4_hasLine 3 (some .boolean) :: sg_tbl) ({ frames := 1, cells := 0, slots := 0, locals := 25 })).room s m #[.ref a0, .int x1] below meth c s.heap locs 0 0 (MQ below (va_Qi (fun r (_ : Unit) => (fun r : Int32 => iv 0 1 r) r) (fun _ t => t.heap = s.heap) (fun _ : Nat => False)) #[.ref a0, .int x1] s 0 0 (fun _ : Nat => False)) (F0 m 2 ls []) := by
    intro N; induction N with
    | zero =>
      intro locs ls z1_2 hS hl hz1_2 hN
      exact absurd hN (by have := iv_up hz1_2; omega)
    | succ N ih1 =>
      intro locs ls z1_2 hS hl hz1_2 hN1
      refine lv_iload_n X.1 X.2.1 dX4_hasLine_2 rfl (lv_at hl 2 rfl) ?_
      refine lv_iconst (v := 4) X.1 X.2.1 dX4_hasLine_3 (by decide +kernel) ?_
      refine lv_icmp_ge (tgt := 25) X.1 X.2.1 dX4_hasLine_4 (by decide) (fun c2 => ?_) (fun c2 => ?_)
      · refine lv_iconst (v := 0) X.1 X.2.1 dX4_hasLine_25 (by decide +kernel) ?_
        exact sg_zretP X hr (sg_zn (iv_of (iv_c 0 (a := 0) (b := 0) (by decide +kernel)) (a' := 0) (b' := 1) (by decide +kernel))) hlk hS (iv_of (iv_c 0 (a := 0) (b := 0) (by decide +kernel)) (a' := 0) (b' := 1) (by decide +kernel)) dX4_hasLine_26
      · refine lv_aload_n X.1 X.2.1 dX4_hasLine_7 rfl (lv_at hl 0 rfl) ?_
        refine lv_iconst (v := (-1)) X.1 X.2.1 dX4_hasLine_8 (by decide +kernel) ?_
        refine lv_iload_n X.1 X.2.1 dX4_hasLine_9 rfl (lv_at hl 2 rfl) ?_
        refine lv_iload_n X.1 X.2.1 dX4_hasLine_10 rfl (lv_at hl 1 rfl) ?_
        refine ca_X4_startsBut X hK hG hC (fun _ h => h.elim) hS hb a0 h0 (-1) z1_2 (iv_lt (b' := 3) (iv_gt_of c2) hz1_2 (iv_c 4 (a := 4) (b := 4) (by decide +kernel)) (by decide +kernel)) x1 wl_3_197 hl.1 (rest := []) rfl (Nat.le_of_ble_eq_true rfl) ⟨Nat.le_of_ble_eq_true rfl, Nat.le_of_ble_eq_true rfl⟩ ⟨Nat.le_of_ble_eq_true rfl, Nat.le_of_ble_eq_true rfl⟩ dX4_hasLine_11 (fun f3 locs hf3 hS => ?_)
        refine lv_if_eq (tgt := 19) X.1 X.2.1 dX4_hasLine_14 (by decide) (fun c4 => ?_) (fun c4 => ?_)
        · obtain ⟨y5, ey5⟩ : ∃ y : Int32, y = z1_2 + Int32.ofInt 1 := ⟨_, rfl⟩
          refine lv_iinc (v := y5) (lv' := [(2, .int y5), (0, .ref a0), (1, .int x1)]) X.1 X.2.1 dX4_hasLine_19 hl (k := 2) rfl ey5.symm (by decide) rfl (fun ls hl => ?_)
          refine lv_goto (tgt := 2) X.1 X.2.1 dX4_hasLine_22 (by decide) ?_
          exact ih1 _ _ y5 hS (lv_sub hl [1, 2, 0] rfl) (iv_of (iv_add (a' := 1) (b' := 4) ey5 (iv_lt (b' := 3) (iv_gt_of c2) hz1_2 (iv_c 4 (a := 4) (b := 4) (by decide +kernel)) (by decide +kernel)) (iv_c _ (a := 1) (b := 1) (by decide +kernel)) (by decide +kernel)) (a' := 0) (b' := 4) (by decide +kernel)) (iv_stepU ey5 (iv_lt (b' := 3) (iv_gt_of c2) hz1_2 (iv_c 4 (a := 4) (b := 4) (by decide +kernel)) (by decide +kernel)) (by decide +kernel) hN1)
        · refine lv_iconst (v := 1) X.1 X.2.1 dX4_hasLine_17 (by decide +kernel) ?_
          exact sg_zretP X hr (sg_zn (iv_of (iv_c 1 (a := 1) (b := 1) (by decide +kernel)) (a' := 0) (b' := 1) (by decide +kernel))) hlk hS (iv_of (iv_c 1 (a := 1) (b := 1) (by decide +kernel)) (a' := 0) (b' := 1) (by decide +kernel)) dX4_hasLine_18
  exact B1_2 _ _ _ 0 hS (lv_sub hl [1, 2, 0] rfl) (iv_of (iv_c 0 (a := 0) (b := 0) (by decide +kernel)) (a' := 0) (b' := 4) (by decide +kernel)) (Nat.le_refl _)

theorem ca_X4_hasLine   (X : CallFix p m c cc nL s args sg_tbl own) (hK : va_K D vwCl tys s) (hG : sgG (KT P) D vwCl (fun q : Nat => base ≤ q) tys ad ks H) (hC : sgC base s) (hA : ∀ q : Nat, A q → base ≤ q) (hS : va_S A s.heap H locs) (hb : base ≤ s.heap.size) (a0 : Nat) (h0 : isK ad ks 4 a0) (x1 : Int32) (hl : Cond.methodLink own index yX4_hasLine ∈ sg_tbl) (hsize : ls.size = nL) (hst : st0 = [.int x1].reverse ++ .ref a0 :: rest) (hW : (rest.map fun v => v.category).sum ≤ 8) (hR : 2 ≤ R.frames ∧ 47 ≤ R.locals) (hf : cells ≤ R.cells ∧ slots ≤ R.slots) (hdg : decode cc pc = .ok (.invokevirtual index, 3)) (kk : ∀ (r : Int32) (locs1 : List Loc), (fun r : Int32 => iv 0 1 r) r → va_S A s.heap H locs1 → W p l e R s m args below meth c H locs1 cells slots Q (F0 m (pc + 3) ls (.int r :: rest))) : W p l e R s m args below meth c H locs cells slots Q (F0 m pc ls st0) :=
  sg_callPVi X hK hG hC hA hS hb (m_X4_hasLine l a0 h0 x1) h0 (k := 4) (ci := 4) rfl (C := RX4) (T := TX4) (N := 15) rfl wl_3_196 wl_1_7 wl_3_194 wl_3_195 (n := 1) (by decide +kernel) rfl rfl rfl hl hsize hst hW hR hf hdg kk
end
