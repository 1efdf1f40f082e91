-- ===== PART A: goes FIRST, ahead of the names: the tables' words, and 'selects' of the private methods out of them =====
/-- a private method of a class that the tables say can be made, by its rows of tables_1 -/
def lw_okq (q : MethodName × Nat) : Prop := (q.1.cls ≠ "java/lang/invoke/MethodHandle" ∧ q.1.cls ≠ "java/lang/invoke/VarHandle") ∧ Cond.instantiable q.1.cls q.2 ∈ tables_1 ∧ Cond.privateMethod q.1 ∈ tables_1 ∧ Cond.instanceMethod q.1 ∈ tables_1
theorem lw_p0 : lw_okq (⟨"LawnAhead$Ground", "clear", "()V"⟩, 15) := ⟨⟨by decide +kernel, by decide +kernel⟩, List.mem_of_getElem? (i := 204) (by decide +kernel), List.mem_of_getElem? (i := 515) (by decide +kernel), List.mem_of_getElem? (i := 516) (by decide +kernel)⟩
theorem lw_p1 : lw_okq (⟨"LawnAhead$Ground", "readClause", "(LLawnAhead$Tape;)Z"⟩, 15) := ⟨⟨by decide +kernel, by decide +kernel⟩, List.mem_of_getElem? (i := 204) (by decide +kernel), List.mem_of_getElem? (i := 524) (by decide +kernel), List.mem_of_getElem? (i := 525) (by decide +kernel)⟩
theorem lw_p2 : lw_okq (⟨"LawnAhead$Ground", "mayCome", "(I)Z"⟩, 15) := ⟨⟨by decide +kernel, by decide +kernel⟩, List.mem_of_getElem? (i := 204) (by decide +kernel), List.mem_of_getElem? (i := 532) (by decide +kernel), List.mem_of_getElem? (i := 533) (by decide +kernel)⟩
theorem lw_p3 : lw_okq (⟨"LawnAhead$Ground", "readRules", "(LLawnAhead$Tape;)Z"⟩, 15) := ⟨⟨by decide +kernel, by decide +kernel⟩, List.mem_of_getElem? (i := 204) (by decide +kernel), List.mem_of_getElem? (i := 547) (by decide +kernel), List.mem_of_getElem? (i := 548) (by decide +kernel)⟩
theorem lw_p4 : lw_okq (⟨"LawnAhead$Ground", "readSpot", "(LLawnAhead$Tape;Z)Z"⟩, 15) := ⟨⟨by decide +kernel, by decide +kernel⟩, List.mem_of_getElem? (i := 204) (by decide +kernel), List.mem_of_getElem? (i := 644) (by decide +kernel), List.mem_of_getElem? (i := 645) (by decide +kernel)⟩
theorem lw_p5 : lw_okq (⟨"LawnAhead$Ground", "isWhole", "()Z"⟩, 15) := ⟨⟨by decide +kernel, by decide +kernel⟩, List.mem_of_getElem? (i := 204) (by decide +kernel), List.mem_of_getElem? (i := 654) (by decide +kernel), List.mem_of_getElem? (i := 655) (by decide +kernel)⟩
theorem lw_p6 : lw_okq (⟨"LawnAhead$Ground", "layOut", "()V"⟩, 15) := ⟨⟨by decide +kernel, by decide +kernel⟩, List.mem_of_getElem? (i := 204) (by decide +kernel), List.mem_of_getElem? (i := 658) (by decide +kernel), List.mem_of_getElem? (i := 659) (by decide +kernel)⟩
theorem lw_p7 : lw_okq (⟨"LawnAhead$Ground", "setWay", "(III)V"⟩, 15) := ⟨⟨by decide +kernel, by decide +kernel⟩, List.mem_of_getElem? (i := 204) (by decide +kernel), List.mem_of_getElem? (i := 666) (by decide +kernel), List.mem_of_getElem? (i := 667) (by decide +kernel)⟩
theorem lw_p8 : lw_okq (⟨"LawnAhead$Ground", "besideAnyWay", "(I)I"⟩, 15) := ⟨⟨by decide +kernel, by decide +kernel⟩, List.mem_of_getElem? (i := 204) (by decide +kernel), List.mem_of_getElem? (i := 670) (by decide +kernel), List.mem_of_getElem? (i := 671) (by decide +kernel)⟩
theorem lw_p9 : lw_okq (⟨"LawnAhead$Ground", "startsBut", "(III)I"⟩, 15) := ⟨⟨by decide +kernel, by decide +kernel⟩, List.mem_of_getElem? (i := 204) (by decide +kernel), List.mem_of_getElem? (i := 678) (by decide +kernel), List.mem_of_getElem? (i := 679) (by decide +kernel)⟩
theorem lw_p10 : lw_okq (⟨"LawnAhead$Law", "readClause", "(LLawnAhead$Tape;I)Z"⟩, 7) := ⟨⟨by decide +kernel, by decide +kernel⟩, List.mem_of_getElem? (i := 61) (by decide +kernel), List.mem_of_getElem? (i := 691) (by decide +kernel), List.mem_of_getElem? (i := 692) (by decide +kernel)⟩
theorem lw_p11 : lw_okq (⟨"LawnAhead$Law", "readSum", "(LLawnAhead$Tape;I)Z"⟩, 7) := ⟨⟨by decide +kernel, by decide +kernel⟩, List.mem_of_getElem? (i := 61) (by decide +kernel), List.mem_of_getElem? (i := 701) (by decide +kernel), List.mem_of_getElem? (i := 702) (by decide +kernel)⟩
theorem lw_p12 : lw_okq (⟨"LawnAhead$Law", "readAtom", "(LLawnAhead$Tape;I)Z"⟩, 7) := ⟨⟨by decide +kernel, by decide +kernel⟩, List.mem_of_getElem? (i := 61) (by decide +kernel), List.mem_of_getElem? (i := 705) (by decide +kernel), List.mem_of_getElem? (i := 706) (by decide +kernel)⟩
theorem lw_p13 : lw_okq (⟨"LawnAhead$Law", "put", "(I)V"⟩, 7) := ⟨⟨by decide +kernel, by decide +kernel⟩, List.mem_of_getElem? (i := 61) (by decide +kernel), List.mem_of_getElem? (i := 713) (by decide +kernel), List.mem_of_getElem? (i := 714) (by decide +kernel)⟩
theorem lw_p14 : lw_okq (⟨"LawnAhead$Law", "readComparison", "(LLawnAhead$Tape;I)Z"⟩, 7) := ⟨⟨by decide +kernel, by decide +kernel⟩, List.mem_of_getElem? (i := 61) (by decide +kernel), List.mem_of_getElem? (i := 722) (by decide +kernel), List.mem_of_getElem? (i := 723) (by decide +kernel)⟩
theorem lw_p15 : lw_okq (⟨"LawnAhead$Law", "readCondition", "(LLawnAhead$Tape;IZ)Z"⟩, 7) := ⟨⟨by decide +kernel, by decide +kernel⟩, List.mem_of_getElem? (i := 61) (by decide +kernel), List.mem_of_getElem? (i := 726) (by decide +kernel), List.mem_of_getElem? (i := 727) (by decide +kernel)⟩
def lw_privs_1 : List (MethodName × Nat) := [(⟨"LawnAhead$Ground", "clear", "()V"⟩, 15), (⟨"LawnAhead$Ground", "readClause", "(LLawnAhead$Tape;)Z"⟩, 15), (⟨"LawnAhead$Ground", "mayCome", "(I)Z"⟩, 15), (⟨"LawnAhead$Ground", "readRules", "(LLawnAhead$Tape;)Z"⟩, 15), (⟨"LawnAhead$Ground", "readSpot", "(LLawnAhead$Tape;Z)Z"⟩, 15), (⟨"LawnAhead$Ground", "isWhole", "()Z"⟩, 15), (⟨"LawnAhead$Ground", "layOut", "()V"⟩, 15), (⟨"LawnAhead$Ground", "setWay", "(III)V"⟩, 15), (⟨"LawnAhead$Ground", "besideAnyWay", "(I)I"⟩, 15), (⟨"LawnAhead$Ground", "startsBut", "(III)I"⟩, 15), (⟨"LawnAhead$Law", "readClause", "(LLawnAhead$Tape;I)Z"⟩, 7), (⟨"LawnAhead$Law", "readSum", "(LLawnAhead$Tape;I)Z"⟩, 7), (⟨"LawnAhead$Law", "readAtom", "(LLawnAhead$Tape;I)Z"⟩, 7), (⟨"LawnAhead$Law", "put", "(I)V"⟩, 7), (⟨"LawnAhead$Law", "readComparison", "(LLawnAhead$Tape;I)Z"⟩, 7), (⟨"LawnAhead$Law", "readCondition", "(LLawnAhead$Tape;IZ)Z"⟩, 7)]
theorem lw_r1 : ∀ q ∈ lw_privs_1, lw_okq q := List.forall_mem_cons.mpr ⟨lw_p0, List.forall_mem_cons.mpr ⟨lw_p1, List.forall_mem_cons.mpr ⟨lw_p2, List.forall_mem_cons.mpr ⟨lw_p3, List.forall_mem_cons.mpr ⟨lw_p4, List.forall_mem_cons.mpr ⟨lw_p5, List.forall_mem_cons.mpr ⟨lw_p6, List.forall_mem_cons.mpr ⟨lw_p7, List.forall_mem_cons.mpr ⟨lw_p8, List.forall_mem_cons.mpr ⟨lw_p9, List.forall_mem_cons.mpr ⟨lw_p10, List.forall_mem_cons.mpr ⟨lw_p11, List.forall_mem_cons.mpr ⟨lw_p12, List.forall_mem_cons.mpr ⟨lw_p13, List.forall_mem_cons.mpr ⟨lw_p14, List.forall_mem_cons.mpr ⟨lw_p15, fun _ h => absurd h List.not_mem_nil⟩⟩⟩⟩⟩⟩⟩⟩⟩⟩⟩⟩⟩⟩⟩⟩
theorem lw_p16 : lw_okq (⟨"LawnAhead$Law", "readUnit", "(LLawnAhead$Tape;I)Z"⟩, 7) := ⟨⟨by decide +kernel, by decide +kernel⟩, List.mem_of_getElem? (i := 61) (by decide +kernel), List.mem_of_getElem? (i := 730) (by decide +kernel), List.mem_of_getElem? (i := 731) (by decide +kernel)⟩
theorem lw_p17 : lw_okq (⟨"LawnAhead$Game", "readMove", "(LLawnAhead$Tape;)I"⟩, 3) := ⟨⟨by decide +kernel, by decide +kernel⟩, List.mem_of_getElem? (i := 89) (by decide +kernel), List.mem_of_getElem? (i := 740) (by decide +kernel), List.mem_of_getElem? (i := 741) (by decide +kernel)⟩
theorem lw_p18 : lw_okq (⟨"LawnAhead", "tellLawn", "()I"⟩, 17) := ⟨⟨by decide +kernel, by decide +kernel⟩, List.mem_of_getElem? (i := 28) (by decide +kernel), List.mem_of_getElem? (i := 760) (by decide +kernel), List.mem_of_getElem? (i := 761) (by decide +kernel)⟩
theorem lw_p19 : lw_okq (⟨"LawnAhead", "lookByLaw", "()V"⟩, 17) := ⟨⟨by decide +kernel, by decide +kernel⟩, List.mem_of_getElem? (i := 28) (by decide +kernel), List.mem_of_getElem? (i := 780) (by decide +kernel), List.mem_of_getElem? (i := 781) (by decide +kernel)⟩
theorem lw_p20 : lw_okq (⟨"LawnAhead", "noLawn", "()Z"⟩, 17) := ⟨⟨by decide +kernel, by decide +kernel⟩, List.mem_of_getElem? (i := 28) (by decide +kernel), List.mem_of_getElem? (i := 795) (by decide +kernel), List.mem_of_getElem? (i := 796) (by decide +kernel)⟩
theorem lw_p21 : lw_okq (⟨"LawnAhead", "act", "(IIII)Z"⟩, 17) := ⟨⟨by decide +kernel, by decide +kernel⟩, List.mem_of_getElem? (i := 28) (by decide +kernel), List.mem_of_getElem? (i := 811) (by decide +kernel), List.mem_of_getElem? (i := 812) (by decide +kernel)⟩
theorem lw_p22 : lw_okq (⟨"LawnAhead$Sight", "turnTo", "(II)V"⟩, 9) := ⟨⟨by decide +kernel, by decide +kernel⟩, List.mem_of_getElem? (i := 270) (by decide +kernel), List.mem_of_getElem? (i := 829) (by decide +kernel), List.mem_of_getElem? (i := 830) (by decide +kernel)⟩
theorem lw_p23 : lw_okq (⟨"LawnAhead$Sight", "setLetters", "(IIII)V"⟩, 9) := ⟨⟨by decide +kernel, by decide +kernel⟩, List.mem_of_getElem? (i := 270) (by decide +kernel), List.mem_of_getElem? (i := 833) (by decide +kernel), List.mem_of_getElem? (i := 834) (by decide +kernel)⟩
theorem lw_p24 : lw_okq (⟨"LawnAhead$Law", "reckon", "(II[I)I"⟩, 7) := ⟨⟨by decide +kernel, by decide +kernel⟩, List.mem_of_getElem? (i := 61) (by decide +kernel), List.mem_of_getElem? (i := 851) (by decide +kernel), List.mem_of_getElem? (i := 852) (by decide +kernel)⟩
theorem lw_p25 : lw_okq (⟨"LawnAhead", "playNight", "()V"⟩, 17) := ⟨⟨by decide +kernel, by decide +kernel⟩, List.mem_of_getElem? (i := 28) (by decide +kernel), List.mem_of_getElem? (i := 919) (by decide +kernel), List.mem_of_getElem? (i := 920) (by decide +kernel)⟩
theorem lw_p26 : lw_okq (⟨"LawnAhead", "draw", "(I)I"⟩, 17) := ⟨⟨by decide +kernel, by decide +kernel⟩, List.mem_of_getElem? (i := 28) (by decide +kernel), List.mem_of_getElem? (i := 923) (by decide +kernel), List.mem_of_getElem? (i := 924) (by decide +kernel)⟩
theorem lw_p27 : lw_okq (⟨"LawnAhead$Sight", "listWay", "(IIII)V"⟩, 9) := ⟨⟨by decide +kernel, by decide +kernel⟩, List.mem_of_getElem? (i := 270) (by decide +kernel), List.mem_of_getElem? (i := 944) (by decide +kernel), List.mem_of_getElem? (i := 945) (by decide +kernel)⟩
theorem lw_p28 : lw_okq (⟨"LawnAhead", "isGame", "(I)Z"⟩, 17) := ⟨⟨by decide +kernel, by decide +kernel⟩, List.mem_of_getElem? (i := 28) (by decide +kernel), List.mem_of_getElem? (i := 982) (by decide +kernel), List.mem_of_getElem? (i := 983) (by decide +kernel)⟩
theorem lw_p29 : lw_okq (⟨"LawnAhead$Play", "step", "(LLawnAhead$State;II)Z"⟩, 9) := ⟨⟨by decide +kernel, by decide +kernel⟩, List.mem_of_getElem? (i := 315) (by decide +kernel), List.mem_of_getElem? (i := 1007) (by decide +kernel), List.mem_of_getElem? (i := 1008) (by decide +kernel)⟩
theorem lw_p30 : lw_okq (⟨"LawnAhead$Play", "lookOn", "()V"⟩, 9) := ⟨⟨by decide +kernel, by decide +kernel⟩, List.mem_of_getElem? (i := 315) (by decide +kernel), List.mem_of_getElem? (i := 1026) (by decide +kernel), List.mem_of_getElem? (i := 1027) (by decide +kernel)⟩
theorem lw_p31 : lw_okq (⟨"LawnAhead$Play", "search", "(III)V"⟩, 9) := ⟨⟨by decide +kernel, by decide +kernel⟩, List.mem_of_getElem? (i := 315) (by decide +kernel), List.mem_of_getElem? (i := 1030) (by decide +kernel), List.mem_of_getElem? (i := 1031) (by decide +kernel)⟩
def lw_privs_2 : List (MethodName × Nat) := [(⟨"LawnAhead$Law", "readUnit", "(LLawnAhead$Tape;I)Z"⟩, 7), (⟨"LawnAhead$Game", "readMove", "(LLawnAhead$Tape;)I"⟩, 3), (⟨"LawnAhead", "tellLawn", "()I"⟩, 17), (⟨"LawnAhead", "lookByLaw", "()V"⟩, 17), (⟨"LawnAhead", "noLawn", "()Z"⟩, 17), (⟨"LawnAhead", "act", "(IIII)Z"⟩, 17), (⟨"LawnAhead$Sight", "turnTo", "(II)V"⟩, 9), (⟨"LawnAhead$Sight", "setLetters", "(IIII)V"⟩, 9), (⟨"LawnAhead$Law", "reckon", "(II[I)I"⟩, 7), (⟨"LawnAhead", "playNight", "()V"⟩, 17), (⟨"LawnAhead", "draw", "(I)I"⟩, 17), (⟨"LawnAhead$Sight", "listWay", "(IIII)V"⟩, 9), (⟨"LawnAhead", "isGame", "(I)Z"⟩, 17), (⟨"LawnAhead$Play", "step", "(LLawnAhead$State;II)Z"⟩, 9), (⟨"LawnAhead$Play", "lookOn", "()V"⟩, 9), (⟨"LawnAhead$Play", "search", "(III)V"⟩, 9)]
theorem lw_r2 : ∀ q ∈ lw_privs_2, lw_okq q := List.forall_mem_cons.mpr ⟨lw_p16, List.forall_mem_cons.mpr ⟨lw_p17, List.forall_mem_cons.mpr ⟨lw_p18, List.forall_mem_cons.mpr ⟨lw_p19, List.forall_mem_cons.mpr ⟨lw_p20, List.forall_mem_cons.mpr ⟨lw_p21, List.forall_mem_cons.mpr ⟨lw_p22, List.forall_mem_cons.mpr ⟨lw_p23, List.forall_mem_cons.mpr ⟨lw_p24, List.forall_mem_cons.mpr ⟨lw_p25, List.forall_mem_cons.mpr ⟨lw_p26, List.forall_mem_cons.mpr ⟨lw_p27, List.forall_mem_cons.mpr ⟨lw_p28, List.forall_mem_cons.mpr ⟨lw_p29, List.forall_mem_cons.mpr ⟨lw_p30, List.forall_mem_cons.mpr ⟨lw_p31, fun _ h => absurd h List.not_mem_nil⟩⟩⟩⟩⟩⟩⟩⟩⟩⟩⟩⟩⟩⟩⟩⟩
theorem lw_p32 : lw_okq (⟨"LawnAhead$Play", "isHopeless", "(II)Z"⟩, 9) := ⟨⟨by decide +kernel, by decide +kernel⟩, List.mem_of_getElem? (i := 315) (by decide +kernel), List.mem_of_getElem? (i := 1034) (by decide +kernel), List.mem_of_getElem? (i := 1035) (by decide +kernel)⟩
theorem lw_p33 : lw_okq (⟨"LawnAhead$Play", "fillLeaf", "(III)V"⟩, 9) := ⟨⟨by decide +kernel, by decide +kernel⟩, List.mem_of_getElem? (i := 315) (by decide +kernel), List.mem_of_getElem? (i := 1039) (by decide +kernel), List.mem_of_getElem? (i := 1040) (by decide +kernel)⟩
theorem lw_p34 : lw_okq (⟨"LawnAhead", "openNight", "()Z"⟩, 17) := ⟨⟨by decide +kernel, by decide +kernel⟩, List.mem_of_getElem? (i := 28) (by decide +kernel), List.mem_of_getElem? (i := 1070) (by decide +kernel), List.mem_of_getElem? (i := 1071) (by decide +kernel)⟩
theorem lw_p35 : lw_okq (⟨"LawnAhead$Ends", "spread", "(II)I"⟩, 10) := ⟨⟨by decide +kernel, by decide +kernel⟩, List.mem_of_getElem? (i := 379) (by decide +kernel), List.mem_of_getElem? (i := 1101) (by decide +kernel), List.mem_of_getElem? (i := 1102) (by decide +kernel)⟩
theorem lw_p36 : lw_okq (⟨"LawnAhead$Ends", "sumPart", "(II)V"⟩, 10) := ⟨⟨by decide +kernel, by decide +kernel⟩, List.mem_of_getElem? (i := 379) (by decide +kernel), List.mem_of_getElem? (i := 1123) (by decide +kernel), List.mem_of_getElem? (i := 1124) (by decide +kernel)⟩
theorem lw_p37 : lw_okq (⟨"LawnAhead$Ends", "listLocalCuts", "(I)I"⟩, 10) := ⟨⟨by decide +kernel, by decide +kernel⟩, List.mem_of_getElem? (i := 379) (by decide +kernel), List.mem_of_getElem? (i := 1127) (by decide +kernel), List.mem_of_getElem? (i := 1128) (by decide +kernel)⟩
theorem lw_p38 : lw_okq (⟨"LawnAhead$Ends", "local", "(II)I"⟩, 10) := ⟨⟨by decide +kernel, by decide +kernel⟩, List.mem_of_getElem? (i := 379) (by decide +kernel), List.mem_of_getElem? (i := 1132) (by decide +kernel), List.mem_of_getElem? (i := 1133) (by decide +kernel)⟩
theorem lw_p39 : lw_okq (⟨"LawnAhead$Ends", "partWith", "(I)I"⟩, 10) := ⟨⟨by decide +kernel, by decide +kernel⟩, List.mem_of_getElem? (i := 379) (by decide +kernel), List.mem_of_getElem? (i := 1157) (by decide +kernel), List.mem_of_getElem? (i := 1158) (by decide +kernel)⟩
theorem lw_p40 : lw_okq (⟨"LawnAhead$Ends", "fewestIn", "(I)I"⟩, 10) := ⟨⟨by decide +kernel, by decide +kernel⟩, List.mem_of_getElem? (i := 379) (by decide +kernel), List.mem_of_getElem? (i := 1169) (by decide +kernel), List.mem_of_getElem? (i := 1170) (by decide +kernel)⟩
theorem lw_p41 : lw_okq (⟨"LawnAhead", "isCell", "(I)Z"⟩, 17) := ⟨⟨by decide +kernel, by decide +kernel⟩, List.mem_of_getElem? (i := 28) (by decide +kernel), List.mem_of_getElem? (i := 1178) (by decide +kernel), List.mem_of_getElem? (i := 1179) (by decide +kernel)⟩
theorem lw_p42 : lw_okq (⟨"LawnAhead", "kindOf", "(I)I"⟩, 17) := ⟨⟨by decide +kernel, by decide +kernel⟩, List.mem_of_getElem? (i := 28) (by decide +kernel), List.mem_of_getElem? (i := 1182) (by decide +kernel), List.mem_of_getElem? (i := 1183) (by decide +kernel)⟩
theorem lw_p43 : lw_okq (⟨"LawnAhead$Books", "fits", "(II)Z"⟩, 3) := ⟨⟨by decide +kernel, by decide +kernel⟩, List.mem_of_getElem? (i := 418) (by decide +kernel), List.mem_of_getElem? (i := 1199) (by decide +kernel), List.mem_of_getElem? (i := 1200) (by decide +kernel)⟩
theorem lw_p44 : lw_okq (⟨"LawnAhead$Ground", "mirroredCell", "(II)I"⟩, 15) := ⟨⟨by decide +kernel, by decide +kernel⟩, List.mem_of_getElem? (i := 204) (by decide +kernel), List.mem_of_getElem? (i := 1226) (by decide +kernel), List.mem_of_getElem? (i := 1227) (by decide +kernel)⟩
theorem lw_p45 : lw_okq (⟨"LawnAhead", "leavesAll", "(I)Z"⟩, 17) := ⟨⟨by decide +kernel, by decide +kernel⟩, List.mem_of_getElem? (i := 28) (by decide +kernel), List.mem_of_getElem? (i := 1235) (by decide +kernel), List.mem_of_getElem? (i := 1236) (by decide +kernel)⟩
theorem lw_p46 : lw_okq (⟨"LawnAhead$Ahead", "partsWon", "(IIIJ)J"⟩, 5) := ⟨⟨by decide +kernel, by decide +kernel⟩, List.mem_of_getElem? (i := 355) (by decide +kernel), List.mem_of_getElem? (i := 1253) (by decide +kernel), List.mem_of_getElem? (i := 1254) (by decide +kernel)⟩
theorem lw_p47 : lw_okq (⟨"java/lang/Throwable", "fillInStackTrace", "(I)Ljava/lang/Throwable;"⟩, 6) := ⟨⟨by decide +kernel, by decide +kernel⟩, List.mem_of_getElem? (i := 1345) (by decide +kernel), List.mem_of_getElem? (i := 1343) (by decide +kernel), List.mem_of_getElem? (i := 1344) (by decide +kernel)⟩
def lw_privs_3 : List (MethodName × Nat) := [(⟨"LawnAhead$Play", "isHopeless", "(II)Z"⟩, 9), (⟨"LawnAhead$Play", "fillLeaf", "(III)V"⟩, 9), (⟨"LawnAhead", "openNight", "()Z"⟩, 17), (⟨"LawnAhead$Ends", "spread", "(II)I"⟩, 10), (⟨"LawnAhead$Ends", "sumPart", "(II)V"⟩, 10), (⟨"LawnAhead$Ends", "listLocalCuts", "(I)I"⟩, 10), (⟨"LawnAhead$Ends", "local", "(II)I"⟩, 10), (⟨"LawnAhead$Ends", "partWith", "(I)I"⟩, 10), (⟨"LawnAhead$Ends", "fewestIn", "(I)I"⟩, 10), (⟨"LawnAhead", "isCell", "(I)Z"⟩, 17), (⟨"LawnAhead", "kindOf", "(I)I"⟩, 17), (⟨"LawnAhead$Books", "fits", "(II)Z"⟩, 3), (⟨"LawnAhead$Ground", "mirroredCell", "(II)I"⟩, 15), (⟨"LawnAhead", "leavesAll", "(I)Z"⟩, 17), (⟨"LawnAhead$Ahead", "partsWon", "(IIIJ)J"⟩, 5), (⟨"java/lang/Throwable", "fillInStackTrace", "(I)Ljava/lang/Throwable;"⟩, 6)]
theorem lw_r3 : ∀ q ∈ lw_privs_3, lw_okq q := List.forall_mem_cons.mpr ⟨lw_p32, List.forall_mem_cons.mpr ⟨lw_p33, List.forall_mem_cons.mpr ⟨lw_p34, List.forall_mem_cons.mpr ⟨lw_p35, List.forall_mem_cons.mpr ⟨lw_p36, List.forall_mem_cons.mpr ⟨lw_p37, List.forall_mem_cons.mpr ⟨lw_p38, List.forall_mem_cons.mpr ⟨lw_p39, List.forall_mem_cons.mpr ⟨lw_p40, List.forall_mem_cons.mpr ⟨lw_p41, List.forall_mem_cons.mpr ⟨lw_p42, List.forall_mem_cons.mpr ⟨lw_p43, List.forall_mem_cons.mpr ⟨lw_p44, List.forall_mem_cons.mpr ⟨lw_p45, List.forall_mem_cons.mpr ⟨lw_p46, List.forall_mem_cons.mpr ⟨lw_p47, fun _ h => absurd h List.not_mem_nil⟩⟩⟩⟩⟩⟩⟩⟩⟩⟩⟩⟩⟩⟩⟩⟩
theorem lw_p48 : lw_okq (⟨"LawnAheadModel", "put", "(I)V"⟩, 53) := ⟨⟨by decide +kernel, by decide +kernel⟩, List.mem_of_getElem? (i := 1371) (by decide +kernel), List.mem_of_getElem? (i := 1547) (by decide +kernel), List.mem_of_getElem? (i := 1548) (by decide +kernel)⟩
theorem lw_p49 : lw_okq (⟨"LawnAheadModel", "readLawn", "()V"⟩, 53) := ⟨⟨by decide +kernel, by decide +kernel⟩, List.mem_of_getElem? (i := 1371) (by decide +kernel), List.mem_of_getElem? (i := 1563) (by decide +kernel), List.mem_of_getElem? (i := 1564) (by decide +kernel)⟩
theorem lw_p50 : lw_okq (⟨"LawnAheadModel", "starts", "([BII)V"⟩, 53) := ⟨⟨by decide +kernel, by decide +kernel⟩, List.mem_of_getElem? (i := 1371) (by decide +kernel), List.mem_of_getElem? (i := 1567) (by decide +kernel), List.mem_of_getElem? (i := 1568) (by decide +kernel)⟩
theorem lw_p51 : lw_okq (⟨"LawnAheadModel", "readClause", "()V"⟩, 53) := ⟨⟨by decide +kernel, by decide +kernel⟩, List.mem_of_getElem? (i := 1371) (by decide +kernel), List.mem_of_getElem? (i := 1574) (by decide +kernel), List.mem_of_getElem? (i := 1575) (by decide +kernel)⟩
theorem lw_p52 : lw_okq (⟨"LawnAheadModel", "look", "()I"⟩, 53) := ⟨⟨by decide +kernel, by decide +kernel⟩, List.mem_of_getElem? (i := 1371) (by decide +kernel), List.mem_of_getElem? (i := 1578) (by decide +kernel), List.mem_of_getElem? (i := 1579) (by decide +kernel)⟩
theorem lw_p53 : lw_okq (⟨"LawnAheadModel", "fails", "()Z"⟩, 53) := ⟨⟨by decide +kernel, by decide +kernel⟩, List.mem_of_getElem? (i := 1371) (by decide +kernel), List.mem_of_getElem? (i := 1582) (by decide +kernel), List.mem_of_getElem? (i := 1583) (by decide +kernel)⟩
theorem lw_p54 : lw_okq (⟨"LawnAheadModel", "readItems", "(I[ILjava/lang/String;)V"⟩, 53) := ⟨⟨by decide +kernel, by decide +kernel⟩, List.mem_of_getElem? (i := 1371) (by decide +kernel), List.mem_of_getElem? (i := 1587) (by decide +kernel), List.mem_of_getElem? (i := 1588) (by decide +kernel)⟩
theorem lw_p55 : lw_okq (⟨"LawnAheadModel", "number", "(II)I"⟩, 53) := ⟨⟨by decide +kernel, by decide +kernel⟩, List.mem_of_getElem? (i := 1371) (by decide +kernel), List.mem_of_getElem? (i := 1624) (by decide +kernel), List.mem_of_getElem? (i := 1625) (by decide +kernel)⟩
theorem lw_p56 : lw_okq (⟨"LawnAheadModel", "isDigit", "()Z"⟩, 53) := ⟨⟨by decide +kernel, by decide +kernel⟩, List.mem_of_getElem? (i := 1371) (by decide +kernel), List.mem_of_getElem? (i := 1628) (by decide +kernel), List.mem_of_getElem? (i := 1629) (by decide +kernel)⟩
theorem lw_p57 : lw_okq (⟨"LawnAheadModel", "here", "()I"⟩, 53) := ⟨⟨by decide +kernel, by decide +kernel⟩, List.mem_of_getElem? (i := 1371) (by decide +kernel), List.mem_of_getElem? (i := 1632) (by decide +kernel), List.mem_of_getElem? (i := 1633) (by decide +kernel)⟩
theorem lw_p58 : lw_okq (⟨"LawnAheadModel", "goThrough", "([BII)V"⟩, 53) := ⟨⟨by decide +kernel, by decide +kernel⟩, List.mem_of_getElem? (i := 1371) (by decide +kernel), List.mem_of_getElem? (i := 1647) (by decide +kernel), List.mem_of_getElem? (i := 1648) (by decide +kernel)⟩
theorem lw_p59 : lw_okq (⟨"LawnAheadModel", "clause", "()V"⟩, 53) := ⟨⟨by decide +kernel, by decide +kernel⟩, List.mem_of_getElem? (i := 1371) (by decide +kernel), List.mem_of_getElem? (i := 1651) (by decide +kernel), List.mem_of_getElem? (i := 1652) (by decide +kernel)⟩
theorem lw_p60 : lw_okq (⟨"LawnAheadModel", "takes", "(I)Z"⟩, 53) := ⟨⟨by decide +kernel, by decide +kernel⟩, List.mem_of_getElem? (i := 1371) (by decide +kernel), List.mem_of_getElem? (i := 1658) (by decide +kernel), List.mem_of_getElem? (i := 1659) (by decide +kernel)⟩
theorem lw_p61 : lw_okq (⟨"LawnAheadModel", "condition", "(ZI)Z"⟩, 53) := ⟨⟨by decide +kernel, by decide +kernel⟩, List.mem_of_getElem? (i := 1371) (by decide +kernel), List.mem_of_getElem? (i := 1662) (by decide +kernel), List.mem_of_getElem? (i := 1663) (by decide +kernel)⟩
theorem lw_p62 : lw_okq (⟨"LawnAheadModel", "part", "(ZI)Z"⟩, 53) := ⟨⟨by decide +kernel, by decide +kernel⟩, List.mem_of_getElem? (i := 1371) (by decide +kernel), List.mem_of_getElem? (i := 1666) (by decide +kernel), List.mem_of_getElem? (i := 1667) (by decide +kernel)⟩
theorem lw_p63 : lw_okq (⟨"LawnAheadModel", "compares", "(ZI)Z"⟩, 53) := ⟨⟨by decide +kernel, by decide +kernel⟩, List.mem_of_getElem? (i := 1371) (by decide +kernel), List.mem_of_getElem? (i := 1670) (by decide +kernel), List.mem_of_getElem? (i := 1671) (by decide +kernel)⟩
def lw_privs_4 : List (MethodName × Nat) := [(⟨"LawnAheadModel", "put", "(I)V"⟩, 53), (⟨"LawnAheadModel", "readLawn", "()V"⟩, 53), (⟨"LawnAheadModel", "starts", "([BII)V"⟩, 53), (⟨"LawnAheadModel", "readClause", "()V"⟩, 53), (⟨"LawnAheadModel", "look", "()I"⟩, 53), (⟨"LawnAheadModel", "fails", "()Z"⟩, 53), (⟨"LawnAheadModel", "readItems", "(I[ILjava/lang/String;)V"⟩, 53), (⟨"LawnAheadModel", "number", "(II)I"⟩, 53), (⟨"LawnAheadModel", "isDigit", "()Z"⟩, 53), (⟨"LawnAheadModel", "here", "()I"⟩, 53), (⟨"LawnAheadModel", "goThrough", "([BII)V"⟩, 53), (⟨"LawnAheadModel", "clause", "()V"⟩, 53), (⟨"LawnAheadModel", "takes", "(I)Z"⟩, 53), (⟨"LawnAheadModel", "condition", "(ZI)Z"⟩, 53), (⟨"LawnAheadModel", "part", "(ZI)Z"⟩, 53), (⟨"LawnAheadModel", "compares", "(ZI)Z"⟩, 53)]
theorem lw_r4 : ∀ q ∈ lw_privs_4, lw_okq q := List.forall_mem_cons.mpr ⟨lw_p48, List.forall_mem_cons.mpr ⟨lw_p49, List.forall_mem_cons.mpr ⟨lw_p50, List.forall_mem_cons.mpr ⟨lw_p51, List.forall_mem_cons.mpr ⟨lw_p52, List.forall_mem_cons.mpr ⟨lw_p53, List.forall_mem_cons.mpr ⟨lw_p54, List.forall_mem_cons.mpr ⟨lw_p55, List.forall_mem_cons.mpr ⟨lw_p56, List.forall_mem_cons.mpr ⟨lw_p57, List.forall_mem_cons.mpr ⟨lw_p58, List.forall_mem_cons.mpr ⟨lw_p59, List.forall_mem_cons.mpr ⟨lw_p60, List.forall_mem_cons.mpr ⟨lw_p61, List.forall_mem_cons.mpr ⟨lw_p62, List.forall_mem_cons.mpr ⟨lw_p63, fun _ h => absurd h List.not_mem_nil⟩⟩⟩⟩⟩⟩⟩⟩⟩⟩⟩⟩⟩⟩⟩⟩
theorem lw_p64 : lw_okq (⟨"LawnAheadModel", "sum", "()I"⟩, 53) := ⟨⟨by decide +kernel, by decide +kernel⟩, List.mem_of_getElem? (i := 1371) (by decide +kernel), List.mem_of_getElem? (i := 1674) (by decide +kernel), List.mem_of_getElem? (i := 1675) (by decide +kernel)⟩
theorem lw_p65 : lw_okq (⟨"LawnAheadModel", "term", "()I"⟩, 53) := ⟨⟨by decide +kernel, by decide +kernel⟩, List.mem_of_getElem? (i := 1371) (by decide +kernel), List.mem_of_getElem? (i := 1678) (by decide +kernel), List.mem_of_getElem? (i := 1679) (by decide +kernel)⟩
theorem lw_p66 : lw_okq (⟨"LawnAheadModel", "atom", "()I"⟩, 53) := ⟨⟨by decide +kernel, by decide +kernel⟩, List.mem_of_getElem? (i := 1371) (by decide +kernel), List.mem_of_getElem? (i := 1682) (by decide +kernel), List.mem_of_getElem? (i := 1683) (by decide +kernel)⟩
theorem lw_p67 : lw_okq (⟨"LawnAheadModel", "goesIn", "()Z"⟩, 53) := ⟨⟨by decide +kernel, by decide +kernel⟩, List.mem_of_getElem? (i := 1371) (by decide +kernel), List.mem_of_getElem? (i := 1686) (by decide +kernel), List.mem_of_getElem? (i := 1687) (by decide +kernel)⟩
theorem lw_p68 : lw_okq (⟨"LawnAheadModel", "unit", "()Z"⟩, 53) := ⟨⟨by decide +kernel, by decide +kernel⟩, List.mem_of_getElem? (i := 1371) (by decide +kernel), List.mem_of_getElem? (i := 1704) (by decide +kernel), List.mem_of_getElem? (i := 1705) (by decide +kernel)⟩
theorem lw_p69 : lw_okq (⟨"LawnAheadModel", "readGame", "()V"⟩, 53) := ⟨⟨by decide +kernel, by decide +kernel⟩, List.mem_of_getElem? (i := 1371) (by decide +kernel), List.mem_of_getElem? (i := 1708) (by decide +kernel), List.mem_of_getElem? (i := 1709) (by decide +kernel)⟩
theorem lw_p70 : lw_okq (⟨"LawnAheadModel", "readMove", "(I)V"⟩, 53) := ⟨⟨by decide +kernel, by decide +kernel⟩, List.mem_of_getElem? (i := 1371) (by decide +kernel), List.mem_of_getElem? (i := 1712) (by decide +kernel), List.mem_of_getElem? (i := 1713) (by decide +kernel)⟩
theorem lw_p71 : lw_okq (⟨"LawnAheadModel", "digit", "()I"⟩, 53) := ⟨⟨by decide +kernel, by decide +kernel⟩, List.mem_of_getElem? (i := 1371) (by decide +kernel), List.mem_of_getElem? (i := 1718) (by decide +kernel), List.mem_of_getElem? (i := 1719) (by decide +kernel)⟩
theorem lw_p72 : lw_okq (⟨"LawnAheadModel", "isCell", "(I)Z"⟩, 53) := ⟨⟨by decide +kernel, by decide +kernel⟩, List.mem_of_getElem? (i := 1371) (by decide +kernel), List.mem_of_getElem? (i := 1736) (by decide +kernel), List.mem_of_getElem? (i := 1737) (by decide +kernel)⟩
theorem lw_p73 : lw_okq (⟨"LawnAheadModel", "around", "(II)I"⟩, 53) := ⟨⟨by decide +kernel, by decide +kernel⟩, List.mem_of_getElem? (i := 1371) (by decide +kernel), List.mem_of_getElem? (i := 1740) (by decide +kernel), List.mem_of_getElem? (i := 1741) (by decide +kernel)⟩
theorem lw_p74 : lw_okq (⟨"LawnAheadModel", "mayGrow", "(IIII)Z"⟩, 53) := ⟨⟨by decide +kernel, by decide +kernel⟩, List.mem_of_getElem? (i := 1371) (by decide +kernel), List.mem_of_getElem? (i := 1745) (by decide +kernel), List.mem_of_getElem? (i := 1746) (by decide +kernel)⟩
theorem lw_p75 : lw_okq (⟨"LawnAheadModel", "worthNow", "()I"⟩, 53) := ⟨⟨by decide +kernel, by decide +kernel⟩, List.mem_of_getElem? (i := 1371) (by decide +kernel), List.mem_of_getElem? (i := 1750) (by decide +kernel), List.mem_of_getElem? (i := 1751) (by decide +kernel)⟩
theorem lw_p76 : lw_okq (⟨"LawnAheadModel", "canGrow", "([II)Z"⟩, 53) := ⟨⟨by decide +kernel, by decide +kernel⟩, List.mem_of_getElem? (i := 1371) (by decide +kernel), List.mem_of_getElem? (i := 1771) (by decide +kernel), List.mem_of_getElem? (i := 1772) (by decide +kernel)⟩
theorem lw_p77 : lw_okq (⟨"LawnAheadModel", "isOpen", "([I)Z"⟩, 53) := ⟨⟨by decide +kernel, by decide +kernel⟩, List.mem_of_getElem? (i := 1371) (by decide +kernel), List.mem_of_getElem? (i := 1775) (by decide +kernel), List.mem_of_getElem? (i := 1776) (by decide +kernel)⟩
theorem lw_p78 : lw_okq (⟨"LawnAheadModel", "remember", "()V"⟩, 53) := ⟨⟨by decide +kernel, by decide +kernel⟩, List.mem_of_getElem? (i := 1371) (by decide +kernel), List.mem_of_getElem? (i := 1779) (by decide +kernel), List.mem_of_getElem? (i := 1780) (by decide +kernel)⟩
theorem lw_p79 : lw_okq (⟨"LawnAheadModel", "grows", "([II)V"⟩, 53) := ⟨⟨by decide +kernel, by decide +kernel⟩, List.mem_of_getElem? (i := 1371) (by decide +kernel), List.mem_of_getElem? (i := 1783) (by decide +kernel), List.mem_of_getElem? (i := 1784) (by decide +kernel)⟩
def lw_privs_5 : List (MethodName × Nat) := [(⟨"LawnAheadModel", "sum", "()I"⟩, 53), (⟨"LawnAheadModel", "term", "()I"⟩, 53), (⟨"LawnAheadModel", "atom", "()I"⟩, 53), (⟨"LawnAheadModel", "goesIn", "()Z"⟩, 53), (⟨"LawnAheadModel", "unit", "()Z"⟩, 53), (⟨"LawnAheadModel", "readGame", "()V"⟩, 53), (⟨"LawnAheadModel", "readMove", "(I)V"⟩, 53), (⟨"LawnAheadModel", "digit", "()I"⟩, 53), (⟨"LawnAheadModel", "isCell", "(I)Z"⟩, 53), (⟨"LawnAheadModel", "around", "(II)I"⟩, 53), (⟨"LawnAheadModel", "mayGrow", "(IIII)Z"⟩, 53), (⟨"LawnAheadModel", "worthNow", "()I"⟩, 53), (⟨"LawnAheadModel", "canGrow", "([II)Z"⟩, 53), (⟨"LawnAheadModel", "isOpen", "([I)Z"⟩, 53), (⟨"LawnAheadModel", "remember", "()V"⟩, 53), (⟨"LawnAheadModel", "grows", "([II)V"⟩, 53)]
theorem lw_r5 : ∀ q ∈ lw_privs_5, lw_okq q := List.forall_mem_cons.mpr ⟨lw_p64, List.forall_mem_cons.mpr ⟨lw_p65, List.forall_mem_cons.mpr ⟨lw_p66, List.forall_mem_cons.mpr ⟨lw_p67, List.forall_mem_cons.mpr ⟨lw_p68, List.forall_mem_cons.mpr ⟨lw_p69, List.forall_mem_cons.mpr ⟨lw_p70, List.forall_mem_cons.mpr ⟨lw_p71, List.forall_mem_cons.mpr ⟨lw_p72, List.forall_mem_cons.mpr ⟨lw_p73, List.forall_mem_cons.mpr ⟨lw_p74, List.forall_mem_cons.mpr ⟨lw_p75, List.forall_mem_cons.mpr ⟨lw_p76, List.forall_mem_cons.mpr ⟨lw_p77, List.forall_mem_cons.mpr ⟨lw_p78, List.forall_mem_cons.mpr ⟨lw_p79, fun _ h => absurd h List.not_mem_nil⟩⟩⟩⟩⟩⟩⟩⟩⟩⟩⟩⟩⟩⟩⟩⟩
theorem lw_p80 : lw_okq (⟨"LawnAheadModel", "threatsIn", "(III)I"⟩, 53) := ⟨⟨by decide +kernel, by decide +kernel⟩, List.mem_of_getElem? (i := 1371) (by decide +kernel), List.mem_of_getElem? (i := 1787) (by decide +kernel), List.mem_of_getElem? (i := 1788) (by decide +kernel)⟩
theorem lw_p81 : lw_okq (⟨"LawnAheadModel", "canCut", "([IIII)Z"⟩, 53) := ⟨⟨by decide +kernel, by decide +kernel⟩, List.mem_of_getElem? (i := 1371) (by decide +kernel), List.mem_of_getElem? (i := 1798) (by decide +kernel), List.mem_of_getElem? (i := 1799) (by decide +kernel)⟩
theorem lw_p82 : lw_okq (⟨"LawnAheadModel", "cutBits", "(IIII)I"⟩, 53) := ⟨⟨by decide +kernel, by decide +kernel⟩, List.mem_of_getElem? (i := 1371) (by decide +kernel), List.mem_of_getElem? (i := 1802) (by decide +kernel), List.mem_of_getElem? (i := 1803) (by decide +kernel)⟩
theorem lw_p83 : lw_okq (⟨"LawnAheadModel", "mows", "([IIII)V"⟩, 53) := ⟨⟨by decide +kernel, by decide +kernel⟩, List.mem_of_getElem? (i := 1371) (by decide +kernel), List.mem_of_getElem? (i := 1806) (by decide +kernel), List.mem_of_getElem? (i := 1807) (by decide +kernel)⟩
theorem lw_p84 : lw_okq (⟨"LawnAheadModel", "canDig", "([II)Z"⟩, 53) := ⟨⟨by decide +kernel, by decide +kernel⟩, List.mem_of_getElem? (i := 1371) (by decide +kernel), List.mem_of_getElem? (i := 1821) (by decide +kernel), List.mem_of_getElem? (i := 1822) (by decide +kernel)⟩
theorem lw_p85 : lw_okq (⟨"LawnAheadModel", "goNight", "()V"⟩, 53) := ⟨⟨by decide +kernel, by decide +kernel⟩, List.mem_of_getElem? (i := 1371) (by decide +kernel), List.mem_of_getElem? (i := 1833) (by decide +kernel), List.mem_of_getElem? (i := 1834) (by decide +kernel)⟩
theorem lw_p86 : lw_okq (⟨"LawnAheadModel", "draw", "(I)I"⟩, 53) := ⟨⟨by decide +kernel, by decide +kernel⟩, List.mem_of_getElem? (i := 1371) (by decide +kernel), List.mem_of_getElem? (i := 1837) (by decide +kernel), List.mem_of_getElem? (i := 1838) (by decide +kernel)⟩
theorem lw_p87 : lw_okq (⟨"LawnAheadModel", "freeIn", "(III)I"⟩, 53) := ⟨⟨by decide +kernel, by decide +kernel⟩, List.mem_of_getElem? (i := 1371) (by decide +kernel), List.mem_of_getElem? (i := 1843) (by decide +kernel), List.mem_of_getElem? (i := 1844) (by decide +kernel)⟩
theorem lw_p88 : lw_okq (⟨"LawnAheadModel", "layAdvice", "(III)V"⟩, 53) := ⟨⟨by decide +kernel, by decide +kernel⟩, List.mem_of_getElem? (i := 1371) (by decide +kernel), List.mem_of_getElem? (i := 1850) (by decide +kernel), List.mem_of_getElem? (i := 1851) (by decide +kernel)⟩
theorem lw_p89 : lw_okq (⟨"LawnAheadModel", "codeOf", "(II)I"⟩, 53) := ⟨⟨by decide +kernel, by decide +kernel⟩, List.mem_of_getElem? (i := 1371) (by decide +kernel), List.mem_of_getElem? (i := 1854) (by decide +kernel), List.mem_of_getElem? (i := 1855) (by decide +kernel)⟩
theorem lw_p90 : lw_okq (⟨"LawnAheadModel", "without", "(II)I"⟩, 53) := ⟨⟨by decide +kernel, by decide +kernel⟩, List.mem_of_getElem? (i := 1371) (by decide +kernel), List.mem_of_getElem? (i := 1858) (by decide +kernel), List.mem_of_getElem? (i := 1859) (by decide +kernel)⟩
theorem lw_p91 : lw_okq (⟨"LawnAheadModel", "isGame", "(I)Z"⟩, 53) := ⟨⟨by decide +kernel, by decide +kernel⟩, List.mem_of_getElem? (i := 1371) (by decide +kernel), List.mem_of_getElem? (i := 1876) (by decide +kernel), List.mem_of_getElem? (i := 1877) (by decide +kernel)⟩
theorem lw_p92 : lw_okq (⟨"LawnAheadModel", "cellOf", "([II)I"⟩, 53) := ⟨⟨by decide +kernel, by decide +kernel⟩, List.mem_of_getElem? (i := 1371) (by decide +kernel), List.mem_of_getElem? (i := 1887) (by decide +kernel), List.mem_of_getElem? (i := 1888) (by decide +kernel)⟩
theorem lw_p93 : lw_okq (⟨"LawnAheadModel", "lowest", "([I)I"⟩, 53) := ⟨⟨by decide +kernel, by decide +kernel⟩, List.mem_of_getElem? (i := 1371) (by decide +kernel), List.mem_of_getElem? (i := 1891) (by decide +kernel), List.mem_of_getElem? (i := 1892) (by decide +kernel)⟩
theorem lw_p94 : lw_okq (⟨"LawnAheadModel", "canMove", "([III)Z"⟩, 53) := ⟨⟨by decide +kernel, by decide +kernel⟩, List.mem_of_getElem? (i := 1371) (by decide +kernel), List.mem_of_getElem? (i := 1896) (by decide +kernel), List.mem_of_getElem? (i := 1897) (by decide +kernel)⟩
theorem lw_p95 : lw_okq (⟨"LawnAheadModel", "moves", "([III)V"⟩, 53) := ⟨⟨by decide +kernel, by decide +kernel⟩, List.mem_of_getElem? (i := 1371) (by decide +kernel), List.mem_of_getElem? (i := 1900) (by decide +kernel), List.mem_of_getElem? (i := 1901) (by decide +kernel)⟩
def lw_privs_6 : List (MethodName × Nat) := [(⟨"LawnAheadModel", "threatsIn", "(III)I"⟩, 53), (⟨"LawnAheadModel", "canCut", "([IIII)Z"⟩, 53), (⟨"LawnAheadModel", "cutBits", "(IIII)I"⟩, 53), (⟨"LawnAheadModel", "mows", "([IIII)V"⟩, 53), (⟨"LawnAheadModel", "canDig", "([II)Z"⟩, 53), (⟨"LawnAheadModel", "goNight", "()V"⟩, 53), (⟨"LawnAheadModel", "draw", "(I)I"⟩, 53), (⟨"LawnAheadModel", "freeIn", "(III)I"⟩, 53), (⟨"LawnAheadModel", "layAdvice", "(III)V"⟩, 53), (⟨"LawnAheadModel", "codeOf", "(II)I"⟩, 53), (⟨"LawnAheadModel", "without", "(II)I"⟩, 53), (⟨"LawnAheadModel", "isGame", "(I)Z"⟩, 53), (⟨"LawnAheadModel", "cellOf", "([II)I"⟩, 53), (⟨"LawnAheadModel", "lowest", "([I)I"⟩, 53), (⟨"LawnAheadModel", "canMove", "([III)Z"⟩, 53), (⟨"LawnAheadModel", "moves", "([III)V"⟩, 53)]
theorem lw_r6 : ∀ q ∈ lw_privs_6, lw_okq q := List.forall_mem_cons.mpr ⟨lw_p80, List.forall_mem_cons.mpr ⟨lw_p81, List.forall_mem_cons.mpr ⟨lw_p82, List.forall_mem_cons.mpr ⟨lw_p83, List.forall_mem_cons.mpr ⟨lw_p84, List.forall_mem_cons.mpr ⟨lw_p85, List.forall_mem_cons.mpr ⟨lw_p86, List.forall_mem_cons.mpr ⟨lw_p87, List.forall_mem_cons.mpr ⟨lw_p88, List.forall_mem_cons.mpr ⟨lw_p89, List.forall_mem_cons.mpr ⟨lw_p90, List.forall_mem_cons.mpr ⟨lw_p91, List.forall_mem_cons.mpr ⟨lw_p92, List.forall_mem_cons.mpr ⟨lw_p93, List.forall_mem_cons.mpr ⟨lw_p94, List.forall_mem_cons.mpr ⟨lw_p95, fun _ h => absurd h List.not_mem_nil⟩⟩⟩⟩⟩⟩⟩⟩⟩⟩⟩⟩⟩⟩⟩⟩
theorem lw_p96 : lw_okq (⟨"LawnAheadModel", "comesTo", "(II)Z"⟩, 53) := ⟨⟨by decide +kernel, by decide +kernel⟩, List.mem_of_getElem? (i := 1371) (by decide +kernel), List.mem_of_getElem? (i := 1912) (by decide +kernel), List.mem_of_getElem? (i := 1913) (by decide +kernel)⟩
theorem lw_p97 : lw_okq (⟨"LawnAheadModel", "listed", "(IZ)I"⟩, 53) := ⟨⟨by decide +kernel, by decide +kernel⟩, List.mem_of_getElem? (i := 1371) (by decide +kernel), List.mem_of_getElem? (i := 1924) (by decide +kernel), List.mem_of_getElem? (i := 1925) (by decide +kernel)⟩
theorem lw_p98 : lw_okq (⟨"LawnAheadModel", "isNight", "()Z"⟩, 53) := ⟨⟨by decide +kernel, by decide +kernel⟩, List.mem_of_getElem? (i := 1371) (by decide +kernel), List.mem_of_getElem? (i := 1940) (by decide +kernel), List.mem_of_getElem? (i := 1941) (by decide +kernel)⟩
theorem lw_p99 : lw_okq (⟨"LawnAheadModel", "isHeldBehind", "(I)Z"⟩, 53) := ⟨⟨by decide +kernel, by decide +kernel⟩, List.mem_of_getElem? (i := 1371) (by decide +kernel), List.mem_of_getElem? (i := 1944) (by decide +kernel), List.mem_of_getElem? (i := 1945) (by decide +kernel)⟩
theorem lw_p100 : lw_okq (⟨"LawnAheadModel", "canHold", "(I)Z"⟩, 53) := ⟨⟨by decide +kernel, by decide +kernel⟩, List.mem_of_getElem? (i := 1371) (by decide +kernel), List.mem_of_getElem? (i := 1948) (by decide +kernel), List.mem_of_getElem? (i := 1949) (by decide +kernel)⟩
theorem lw_p101 : lw_okq (⟨"LawnAheadModel", "partAt", "(I)I"⟩, 53) := ⟨⟨by decide +kernel, by decide +kernel⟩, List.mem_of_getElem? (i := 1371) (by decide +kernel), List.mem_of_getElem? (i := 1964) (by decide +kernel), List.mem_of_getElem? (i := 1965) (by decide +kernel)⟩
theorem lw_p102 : lw_okq (⟨"LawnAheadModel", "partOf", "(I)I"⟩, 53) := ⟨⟨by decide +kernel, by decide +kernel⟩, List.mem_of_getElem? (i := 1371) (by decide +kernel), List.mem_of_getElem? (i := 1968) (by decide +kernel), List.mem_of_getElem? (i := 1969) (by decide +kernel)⟩
theorem lw_p103 : lw_okq (⟨"LawnAheadModel", "layPart", "(I)V"⟩, 53) := ⟨⟨by decide +kernel, by decide +kernel⟩, List.mem_of_getElem? (i := 1371) (by decide +kernel), List.mem_of_getElem? (i := 1976) (by decide +kernel), List.mem_of_getElem? (i := 1977) (by decide +kernel)⟩
theorem lw_p104 : lw_okq (⟨"LawnAheadModel", "laySet", "(I)V"⟩, 53) := ⟨⟨by decide +kernel, by decide +kernel⟩, List.mem_of_getElem? (i := 1371) (by decide +kernel), List.mem_of_getElem? (i := 1980) (by decide +kernel), List.mem_of_getElem? (i := 1981) (by decide +kernel)⟩
theorem lw_p105 : lw_okq (⟨"LawnAheadModel", "spread", "(I)I"⟩, 53) := ⟨⟨by decide +kernel, by decide +kernel⟩, List.mem_of_getElem? (i := 1371) (by decide +kernel), List.mem_of_getElem? (i := 1984) (by decide +kernel), List.mem_of_getElem? (i := 1985) (by decide +kernel)⟩
theorem lw_p106 : lw_okq (⟨"LawnAheadModel", "gathered", "(I)I"⟩, 53) := ⟨⟨by decide +kernel, by decide +kernel⟩, List.mem_of_getElem? (i := 1371) (by decide +kernel), List.mem_of_getElem? (i := 1988) (by decide +kernel), List.mem_of_getElem? (i := 1989) (by decide +kernel)⟩
theorem lw_p107 : lw_okq (⟨"LawnAheadModel", "areFew", "()Z"⟩, 53) := ⟨⟨by decide +kernel, by decide +kernel⟩, List.mem_of_getElem? (i := 1371) (by decide +kernel), List.mem_of_getElem? (i := 1997) (by decide +kernel), List.mem_of_getElem? (i := 1998) (by decide +kernel)⟩
theorem lw_p108 : lw_okq (⟨"LawnAheadModel", "isGrass", "(I)Z"⟩, 53) := ⟨⟨by decide +kernel, by decide +kernel⟩, List.mem_of_getElem? (i := 1371) (by decide +kernel), List.mem_of_getElem? (i := 2009) (by decide +kernel), List.mem_of_getElem? (i := 2010) (by decide +kernel)⟩
theorem lw_p109 : lw_okq (⟨"LawnAheadModel", "fits", "(II)Z"⟩, 53) := ⟨⟨by decide +kernel, by decide +kernel⟩, List.mem_of_getElem? (i := 1371) (by decide +kernel), List.mem_of_getElem? (i := 2017) (by decide +kernel), List.mem_of_getElem? (i := 2018) (by decide +kernel)⟩
theorem lw_p110 : lw_okq (⟨"LawnAheadModel", "turns", "()I"⟩, 53) := ⟨⟨by decide +kernel, by decide +kernel⟩, List.mem_of_getElem? (i := 1371) (by decide +kernel), List.mem_of_getElem? (i := 2029) (by decide +kernel), List.mem_of_getElem? (i := 2030) (by decide +kernel)⟩
theorem lw_p111 : lw_okq (⟨"LawnAheadModel", "turnedSet", "(II)I"⟩, 53) := ⟨⟨by decide +kernel, by decide +kernel⟩, List.mem_of_getElem? (i := 1371) (by decide +kernel), List.mem_of_getElem? (i := 2033) (by decide +kernel), List.mem_of_getElem? (i := 2034) (by decide +kernel)⟩
def lw_privs_7 : List (MethodName × Nat) := [(⟨"LawnAheadModel", "comesTo", "(II)Z"⟩, 53), (⟨"LawnAheadModel", "listed", "(IZ)I"⟩, 53), (⟨"LawnAheadModel", "isNight", "()Z"⟩, 53), (⟨"LawnAheadModel", "isHeldBehind", "(I)Z"⟩, 53), (⟨"LawnAheadModel", "canHold", "(I)Z"⟩, 53), (⟨"LawnAheadModel", "partAt", "(I)I"⟩, 53), (⟨"LawnAheadModel", "partOf", "(I)I"⟩, 53), (⟨"LawnAheadModel", "layPart", "(I)V"⟩, 53), (⟨"LawnAheadModel", "laySet", "(I)V"⟩, 53), (⟨"LawnAheadModel", "spread", "(I)I"⟩, 53), (⟨"LawnAheadModel", "gathered", "(I)I"⟩, 53), (⟨"LawnAheadModel", "areFew", "()Z"⟩, 53), (⟨"LawnAheadModel", "isGrass", "(I)Z"⟩, 53), (⟨"LawnAheadModel", "fits", "(II)Z"⟩, 53), (⟨"LawnAheadModel", "turns", "()I"⟩, 53), (⟨"LawnAheadModel", "turnedSet", "(II)I"⟩, 53)]
theorem lw_r7 : ∀ q ∈ lw_privs_7, lw_okq q := List.forall_mem_cons.mpr ⟨lw_p96, List.forall_mem_cons.mpr ⟨lw_p97, List.forall_mem_cons.mpr ⟨lw_p98, List.forall_mem_cons.mpr ⟨lw_p99, List.forall_mem_cons.mpr ⟨lw_p100, List.forall_mem_cons.mpr ⟨lw_p101, List.forall_mem_cons.mpr ⟨lw_p102, List.forall_mem_cons.mpr ⟨lw_p103, List.forall_mem_cons.mpr ⟨lw_p104, List.forall_mem_cons.mpr ⟨lw_p105, List.forall_mem_cons.mpr ⟨lw_p106, List.forall_mem_cons.mpr ⟨lw_p107, List.forall_mem_cons.mpr ⟨lw_p108, List.forall_mem_cons.mpr ⟨lw_p109, List.forall_mem_cons.mpr ⟨lw_p110, List.forall_mem_cons.mpr ⟨lw_p111, fun _ h => absurd h List.not_mem_nil⟩⟩⟩⟩⟩⟩⟩⟩⟩⟩⟩⟩⟩⟩⟩⟩
theorem lw_p112 : lw_okq (⟨"LawnAheadModel", "turned", "(II)I"⟩, 53) := ⟨⟨by decide +kernel, by decide +kernel⟩, List.mem_of_getElem? (i := 1371) (by decide +kernel), List.mem_of_getElem? (i := 2037) (by decide +kernel), List.mem_of_getElem? (i := 2038) (by decide +kernel)⟩
theorem lw_p113 : lw_okq (⟨"LawnAheadModel", "goOdds", "(IIIIJ)J"⟩, 53) := ⟨⟨by decide +kernel, by decide +kernel⟩, List.mem_of_getElem? (i := 1371) (by decide +kernel), List.mem_of_getElem? (i := 2052) (by decide +kernel), List.mem_of_getElem? (i := 2053) (by decide +kernel)⟩
def lw_privs_8 : List (MethodName × Nat) := [(⟨"LawnAheadModel", "turned", "(II)I"⟩, 53), (⟨"LawnAheadModel", "goOdds", "(IIIIJ)J"⟩, 53)]
theorem lw_r8 : ∀ q ∈ lw_privs_8, lw_okq q := List.forall_mem_cons.mpr ⟨lw_p112, List.forall_mem_cons.mpr ⟨lw_p113, fun _ h => absurd h List.not_mem_nil⟩⟩
def lw_privs : List (MethodName × Nat) := lw_privs_1 ++ (lw_privs_2 ++ (lw_privs_3 ++ (lw_privs_4 ++ (lw_privs_5 ++ (lw_privs_6 ++ (lw_privs_7 ++ (lw_privs_8)))))))
def lw_tbl : List Cond := k2_sels lw_privs ++ tables_1
theorem lw_privs_ok : ∀ q ∈ lw_privs, lw_okq q := by
  show ∀ q ∈ lw_privs_1 ++ (lw_privs_2 ++ (lw_privs_3 ++ (lw_privs_4 ++ (lw_privs_5 ++ (lw_privs_6 ++ (lw_privs_7 ++ (lw_privs_8))))))), lw_okq q
  exact List.forall_mem_append.mpr ⟨lw_r1, List.forall_mem_append.mpr ⟨lw_r2, List.forall_mem_append.mpr ⟨lw_r3, List.forall_mem_append.mpr ⟨lw_r4, List.forall_mem_append.mpr ⟨lw_r5, List.forall_mem_append.mpr ⟨lw_r6, List.forall_mem_append.mpr ⟨lw_r7, lw_r8⟩⟩⟩⟩⟩⟩⟩

def RX0 : String := "LawnAhead$Ahead"
def TX0 : u_T := fun k => match k with
  | 0 => ("LawnAhead$Ahead", "sight", "LLawnAhead$Sight;", true)
  | 1 => ("LawnAhead$Ahead", "earth", "I", false)
  | 2 => ("LawnAhead$Ahead", "chance", "I", false)
  | 3 => ("LawnAhead$Ahead", "bestCode", "I", false)
  | _ => ("LawnAhead$Ahead", "bestThreats", "I", false)
def tyX0 : Nat → FieldType := fun k => match k with
  | 0 => .object "LawnAhead$Sight"
  | 1 => .int
  | 2 => .int
  | 3 => .int
  | _ => .int
theorem tyX0_ok : ∀ k, k < 5 → parseFieldDescriptor (TX0 k).2.2.1 = some (tyX0 k) := by decide +kernel
theorem nmX0 : ∀ a, a < 5 → ∀ b, b < 5 → a ≠ b → (TX0 a).2.1 ≠ (TX0 b).2.1 := by decide +kernel
def RX1 : String := "LawnAhead$Books"
def TX1 : u_T := fun k => match k with
  | 0 => ("LawnAhead$Books", "around", "[I", true)
  | 1 => ("LawnAhead$Books", "grew", "[Z", true)
  | _ => ("LawnAhead$Books", "count", "I", false)
def tyX1 : Nat → FieldType := fun k => match k with
  | 0 => .array .int
  | 1 => .array .boolean
  | _ => .int
theorem tyX1_ok : ∀ k, k < 3 → parseFieldDescriptor (TX1 k).2.2.1 = some (tyX1 k) := by decide +kernel
theorem nmX1 : ∀ a, a < 3 → ∀ b, b < 3 → a ≠ b → (TX1 a).2.1 ≠ (TX1 b).2.1 := by decide +kernel
def RX2 : String := "LawnAhead$Ends"
def TX2 : u_T := fun k => match k with
  | 0 => ("LawnAhead$Ends", "sight", "LLawnAhead$Sight;", true)
  | 1 => ("LawnAhead$Ends", "parts", "[I", true)
  | 2 => ("LawnAhead$Ends", "places", "[I", true)
  | 3 => ("LawnAhead$Ends", "localCuts", "[I", true)
  | 4 => ("LawnAhead$Ends", "sums", "[I", false)
  | 5 => ("LawnAhead$Ends", "fewest", "[I", false)
  | 6 => ("LawnAhead$Ends", "partCount", "I", false)
  | 7 => ("LawnAhead$Ends", "foundIn", "I", false)
  | 8 => ("LawnAhead$Ends", "found", "Z", false)
  | _ => ("LawnAhead$Ends", "summed", "Z", false)
def tyX2 : Nat → FieldType := fun k => match k with
  | 0 => .object "LawnAhead$Sight"
  | 1 => .array .int
  | 2 => .array .int
  | 3 => .array .int
  | 4 => .array .int
  | 5 => .array .int
  | 6 => .int
  | 7 => .int
  | 8 => .boolean
  | _ => .boolean
theorem tyX2_ok : ∀ k, k < 10 → parseFieldDescriptor (TX2 k).2.2.1 = some (tyX2 k) := by decide +kernel
theorem nmX2 : ∀ a, a < 10 → ∀ b, b < 10 → a ≠ b → (TX2 a).2.1 ≠ (TX2 b).2.1 := by decide +kernel
def RX3 : String := "LawnAhead$Game"
def TX3 : u_T := fun k => match k with
  | 0 => ("LawnAhead$Game", "moves", "[I", true)
  | 1 => ("LawnAhead$Game", "count", "I", false)
  | _ => ("LawnAhead$Game", "leaves", "I", false)
def tyX3 : Nat → FieldType := fun k => match k with
  | 0 => .array .int
  | 1 => .int
  | _ => .int
theorem tyX3_ok : ∀ k, k < 3 → parseFieldDescriptor (TX3 k).2.2.1 = some (tyX3 k) := by decide +kernel
theorem nmX3 : ∀ a, a < 3 → ∀ b, b < 3 → a ≠ b → (TX3 a).2.1 ≠ (TX3 b).2.1 := by decide +kernel
def RX4 : String := "LawnAhead$Ground"
def TX4 : u_T := fun k => match k with
  | 0 => ("LawnAhead$Ground", "rules", "[I", true)
  | 1 => ("LawnAhead$Ground", "near", "[I", true)
  | 2 => ("LawnAhead$Ground", "strides", "[I", true)
  | 3 => ("LawnAhead$Ground", "open", "[I", true)
  | 4 => ("LawnAhead$Ground", "lineStarts", "[I", true)
  | 5 => ("LawnAhead$Ground", "cells", "I", false)
  | 6 => ("LawnAhead$Ground", "all", "I", false)
  | 7 => ("LawnAhead$Ground", "width", "I", false)
  | 8 => ("LawnAhead$Ground", "height", "I", false)
  | 9 => ("LawnAhead$Ground", "tufts", "I", false)
  | 10 => ("LawnAhead$Ground", "beds", "I", false)
  | 11 => ("LawnAhead$Ground", "ruled", "Z", false)
  | 12 => ("LawnAhead$Ground", "doubled", "Z", false)
  | 13 => ("LawnAhead$Ground", "tuftCount", "I", false)
  | _ => ("LawnAhead$Ground", "bedCount", "I", false)
def tyX4 : Nat → FieldType := fun k => match k with
  | 0 => .array .int
  | 1 => .array .int
  | 2 => .array .int
  | 3 => .array .int
  | 4 => .array .int
  | 5 => .int
  | 6 => .int
  | 7 => .int
  | 8 => .int
  | 9 => .int
  | 10 => .int
  | 11 => .boolean
  | 12 => .boolean
  | 13 => .int
  | _ => .int
theorem tyX4_ok : ∀ k, k < 15 → parseFieldDescriptor (TX4 k).2.2.1 = some (tyX4 k) := by decide +kernel
theorem nmX4 : ∀ a, a < 15 → ∀ b, b < 15 → a ≠ b → (TX4 a).2.1 ≠ (TX4 b).2.1 := by decide +kernel
def RX5 : String := "LawnAhead$History"
def TX5 : u_T := fun k => match k with
  | 0 => ("LawnAhead$History", "states", "[LLawnAhead$State;", true)
  | 1 => ("LawnAhead$History", "deeds", "[I", true)
  | 2 => ("LawnAhead$History", "imageState", "LLawnAhead$State;", true)
  | 3 => ("LawnAhead$History", "imageDeeds", "[I", true)
  | 4 => ("LawnAhead$History", "undoable", "I", false)
  | 5 => ("LawnAhead$History", "nextState", "I", false)
  | 6 => ("LawnAhead$History", "kept", "I", false)
  | 7 => ("LawnAhead$History", "nextDeed", "I", false)
  | 8 => ("LawnAhead$History", "hasImage", "Z", false)
  | 9 => ("LawnAhead$History", "imageKept", "I", false)
  | _ => ("LawnAhead$History", "imageNextDeed", "I", false)
def tyX5 : Nat → FieldType := fun k => match k with
  | 0 => .array (.object "LawnAhead$State")
  | 1 => .array .int
  | 2 => .object "LawnAhead$State"
  | 3 => .array .int
  | 4 => .int
  | 5 => .int
  | 6 => .int
  | 7 => .int
  | 8 => .boolean
  | 9 => .int
  | _ => .int
theorem tyX5_ok : ∀ k, k < 11 → parseFieldDescriptor (TX5 k).2.2.1 = some (tyX5 k) := by decide +kernel
theorem nmX5 : ∀ a, a < 11 → ∀ b, b < 11 → a ≠ b → (TX5 a).2.1 ≠ (TX5 b).2.1 := by decide +kernel
def RX6 : String := "LawnAhead$Law"
def TX6 : u_T := fun k => match k with
  | 0 => ("LawnAhead$Law", "code", "[I", true)
  | 1 => ("LawnAhead$Law", "stack", "[I", true)
  | 2 => ("LawnAhead$Law", "conditions", "[I", true)
  | 3 => ("LawnAhead$Law", "sums", "[I", true)
  | 4 => ("LawnAhead$Law", "size", "I", false)
  | 5 => ("LawnAhead$Law", "clauses", "I", false)
  | _ => ("LawnAhead$Law", "usesDay", "Z", false)
def tyX6 : Nat → FieldType := fun k => match k with
  | 0 => .array .int
  | 1 => .array .int
  | 2 => .array .int
  | 3 => .array .int
  | 4 => .int
  | 5 => .int
  | _ => .boolean
theorem tyX6_ok : ∀ k, k < 7 → parseFieldDescriptor (TX6 k).2.2.1 = some (tyX6 k) := by decide +kernel
theorem nmX6 : ∀ a, a < 7 → ∀ b, b < 7 → a ≠ b → (TX6 a).2.1 ≠ (TX6 b).2.1 := by decide +kernel
def RX7 : String := "LawnAhead$Play"
def TX7 : u_T := fun k => match k with
  | 0 => ("LawnAhead$Play", "sight", "LLawnAhead$Sight;", true)
  | 1 => ("LawnAhead$Play", "levels", "[LLawnAhead$State;", true)
  | 2 => ("LawnAhead$Play", "taken", "[I", true)
  | 3 => ("LawnAhead$Play", "grown", "[I", true)
  | 4 => ("LawnAhead$Play", "game", "LLawnAhead$Game;", false)
  | 5 => ("LawnAhead$Play", "aim", "I", false)
  | 6 => ("LawnAhead$Play", "sought", "I", false)
  | 7 => ("LawnAhead$Play", "found", "I", false)
  | _ => ("LawnAhead$Play", "foundCode", "I", false)
def tyX7 : Nat → FieldType := fun k => match k with
  | 0 => .object "LawnAhead$Sight"
  | 1 => .array (.object "LawnAhead$State")
  | 2 => .array .int
  | 3 => .array .int
  | 4 => .object "LawnAhead$Game"
  | 5 => .int
  | 6 => .int
  | 7 => .int
  | _ => .int
theorem tyX7_ok : ∀ k, k < 9 → parseFieldDescriptor (TX7 k).2.2.1 = some (tyX7 k) := by decide +kernel
theorem nmX7 : ∀ a, a < 9 → ∀ b, b < 9 → a ≠ b → (TX7 a).2.1 ≠ (TX7 b).2.1 := by decide +kernel
def RX8 : String := "LawnAhead$Sight"
def TX8 : u_T := fun k => match k with
  | 0 => ("LawnAhead$Sight", "ground", "LLawnAhead$Ground;", false)
  | 1 => ("LawnAhead$Sight", "law", "LLawnAhead$Law;", false)
  | 2 => ("LawnAhead$Sight", "pageDays", "[I", true)
  | 3 => ("LawnAhead$Sight", "reckoned", "[I", true)
  | 4 => ("LawnAhead$Sight", "worthy", "[I", true)
  | 5 => ("LawnAhead$Sight", "letters", "[I", true)
  | 6 => ("LawnAhead$Sight", "codes", "[I", true)
  | 7 => ("LawnAhead$Sight", "taken", "[I", true)
  | _ => ("LawnAhead$Sight", "listed", "I", false)
def tyX8 : Nat → FieldType := fun k => match k with
  | 0 => .object "LawnAhead$Ground"
  | 1 => .object "LawnAhead$Law"
  | 2 => .array .int
  | 3 => .array .int
  | 4 => .array .int
  | 5 => .array .int
  | 6 => .array .int
  | 7 => .array .int
  | _ => .int
theorem tyX8_ok : ∀ k, k < 9 → parseFieldDescriptor (TX8 k).2.2.1 = some (tyX8 k) := by decide +kernel
theorem nmX8 : ∀ a, a < 9 → ∀ b, b < 9 → a ≠ b → (TX8 a).2.1 ≠ (TX8 b).2.1 := by decide +kernel
def RX9 : String := "LawnAhead$State"
def TX9 : u_T := fun k => match k with
  | 0 => ("LawnAhead$State", "tufts", "I", false)
  | 1 => ("LawnAhead$State", "earth", "I", false)
  | 2 => ("LawnAhead$State", "turn", "I", false)
  | 3 => ("LawnAhead$State", "day", "I", false)
  | 4 => ("LawnAhead$State", "lawnThistles", "I", false)
  | 5 => ("LawnAhead$State", "houseThistles", "I", false)
  | 6 => ("LawnAhead$State", "meant", "I", false)
  | _ => ("LawnAhead$State", "won", "Z", false)
def tyX9 : Nat → FieldType := fun k => match k with
  | 0 => .int
  | 1 => .int
  | 2 => .int
  | 3 => .int
  | 4 => .int
  | 5 => .int
  | 6 => .int
  | _ => .boolean
theorem tyX9_ok : ∀ k, k < 8 → parseFieldDescriptor (TX9 k).2.2.1 = some (tyX9 k) := by decide +kernel
theorem nmX9 : ∀ a, a < 8 → ∀ b, b < 8 → a ≠ b → (TX9 a).2.1 ≠ (TX9 b).2.1 := by decide +kernel
def RX10 : String := "LawnAhead$Tape"
def TX10 : u_T := fun k => match k with
  | 0 => ("LawnAhead$Tape", "bytes", "[I", true)
  | 1 => ("LawnAhead$Tape", "length", "I", false)
  | 2 => ("LawnAhead$Tape", "at", "I", false)
  | _ => ("LawnAhead$Tape", "wrongAt", "I", false)
def tyX10 : Nat → FieldType := fun k => match k with
  | 0 => .array .int
  | 1 => .int
  | 2 => .int
  | _ => .int
theorem tyX10_ok : ∀ k, k < 4 → parseFieldDescriptor (TX10 k).2.2.1 = some (tyX10 k) := by decide +kernel
theorem nmX10 : ∀ a, a < 4 → ∀ b, b < 4 → a ≠ b → (TX10 a).2.1 ≠ (TX10 b).2.1 := by decide +kernel
def RX11 : String := "LawnAhead"
def TX11 : u_T := fun k => match k with
  | 0 => ("LawnAhead", "tape", "LLawnAhead$Tape;", true)
  | 1 => ("LawnAhead", "lawShelf", "[LLawnAhead$Law;", true)
  | 2 => ("LawnAhead", "gameShelf", "[LLawnAhead$Game;", true)
  | 3 => ("LawnAhead", "now", "LLawnAhead$State;", true)
  | 4 => ("LawnAhead", "history", "LLawnAhead$History;", true)
  | 5 => ("LawnAhead", "sight", "LLawnAhead$Sight;", true)
  | 6 => ("LawnAhead", "play", "LLawnAhead$Play;", true)
  | 7 => ("LawnAhead", "ahead", "LLawnAhead$Ahead;", true)
  | 8 => ("LawnAhead", "ends", "LLawnAhead$Ends;", true)
  | 9 => ("LawnAhead", "books", "LLawnAhead$Books;", true)
  | 10 => ("LawnAhead", "ground", "LLawnAhead$Ground;", false)
  | 11 => ("LawnAhead", "spare", "LLawnAhead$Ground;", false)
  | 12 => ("LawnAhead", "lawCount", "I", false)
  | 13 => ("LawnAhead", "gameCount", "I", false)
  | 14 => ("LawnAhead", "holding", "I", false)
  | 15 => ("LawnAhead", "dryness", "I", false)
  | _ => ("LawnAhead", "drawn", "J", false)
def tyX11 : Nat → FieldType := fun k => match k with
  | 0 => .object "LawnAhead$Tape"
  | 1 => .array (.object "LawnAhead$Law")
  | 2 => .array (.object "LawnAhead$Game")
  | 3 => .object "LawnAhead$State"
  | 4 => .object "LawnAhead$History"
  | 5 => .object "LawnAhead$Sight"
  | 6 => .object "LawnAhead$Play"
  | 7 => .object "LawnAhead$Ahead"
  | 8 => .object "LawnAhead$Ends"
  | 9 => .object "LawnAhead$Books"
  | 10 => .object "LawnAhead$Ground"
  | 11 => .object "LawnAhead$Ground"
  | 12 => .int
  | 13 => .int
  | 14 => .int
  | 15 => .int
  | _ => .long
theorem tyX11_ok : ∀ k, k < 17 → parseFieldDescriptor (TX11 k).2.2.1 = some (tyX11 k) := by decide +kernel
theorem nmX11 : ∀ a, a < 17 → ∀ b, b < 17 → a ≠ b → (TX11 a).2.1 ≠ (TX11 b).2.1 := by decide +kernel
def RX12 : String := "LawnAheadModel"
def TX12 : u_T := fun k => match k with
  | 0 => ("LawnAheadModel", "thrown", "I", false)
  | 1 => ("LawnAheadModel", "tape", "[B", true)
  | 2 => ("LawnAheadModel", "texts", "[B", true)
  | 3 => ("LawnAheadModel", "textLong", "[I", true)
  | 4 => ("LawnAheadModel", "letters", "[I", true)
  | 5 => ("LawnAheadModel", "text", "[B", false)
  | 6 => ("LawnAheadModel", "length", "I", false)
  | 7 => ("LawnAheadModel", "lawMany", "I", false)
  | 8 => ("LawnAheadModel", "begins", "I", false)
  | 9 => ("LawnAheadModel", "ends", "I", false)
  | 10 => ("LawnAheadModel", "at", "I", false)
  | 11 => ("LawnAheadModel", "fault", "I", false)
  | 12 => ("LawnAheadModel", "deep", "I", false)
  | 13 => ("LawnAheadModel", "label", "I", false)
  | 14 => ("LawnAheadModel", "found", "I", false)
  | 15 => ("LawnAheadModel", "labels", "Ljava/lang/String;", true)
  | 16 => ("LawnAheadModel", "allowed", "Ljava/lang/String;", true)
  | 17 => ("LawnAheadModel", "hasFound", "Z", false)
  | 18 => ("LawnAheadModel", "rule", "[I", true)
  | 19 => ("LawnAheadModel", "ruleRead", "[I", true)
  | 20 => ("LawnAheadModel", "one", "[I", true)
  | 21 => ("LawnAheadModel", "game", "[I", true)
  | 22 => ("LawnAheadModel", "gameLong", "[I", true)
  | 23 => ("LawnAheadModel", "cells", "I", false)
  | 24 => ("LawnAheadModel", "beds", "I", false)
  | 25 => ("LawnAheadModel", "tuftsRead", "I", false)
  | 26 => ("LawnAheadModel", "bedsRead", "I", false)
  | 27 => ("LawnAheadModel", "tuftMany", "I", false)
  | 28 => ("LawnAheadModel", "bedMany", "I", false)
  | 29 => ("LawnAheadModel", "games", "I", false)
  | 30 => ("LawnAheadModel", "hasRules", "Z", false)
  | 31 => ("LawnAheadModel", "isDoubled", "Z", false)
  | 32 => ("LawnAheadModel", "now", "[I", true)
  | 33 => ("LawnAheadModel", "trial", "[I", true)
  | 34 => ("LawnAheadModel", "law", "I", false)
  | 35 => ("LawnAheadModel", "drought", "I", false)
  | 36 => ("LawnAheadModel", "memoKey", "[J", true)
  | 37 => ("LawnAheadModel", "memoWorth", "[I", true)
  | 38 => ("LawnAheadModel", "undoRow", "[I", true)
  | 39 => ("LawnAheadModel", "acts", "I", false)
  | 40 => ("LawnAheadModel", "x", "J", false)
  | 41 => ("LawnAheadModel", "leaves", "[I", true)
  | 42 => ("LawnAheadModel", "adviceCode", "I", false)
  | 43 => ("LawnAheadModel", "adviceThreats", "I", false)
  | 44 => ("LawnAheadModel", "cellRow", "[I", true)
  | 45 => ("LawnAheadModel", "sums", "[I", true)
  | 46 => ("LawnAheadModel", "cutMany", "[I", true)
  | 47 => ("LawnAheadModel", "cellMany", "I", false)
  | 48 => ("LawnAheadModel", "bookAround", "[I", true)
  | 49 => ("LawnAheadModel", "bookMay", "[Z", true)
  | 50 => ("LawnAheadModel", "books", "I", false)
  | 51 => ("LawnAheadModel", "imageRow", "[I", true)
  | _ => ("LawnAheadModel", "hasImage", "Z", false)
def tyX12 : Nat → FieldType := fun k => match k with
  | 0 => .int
  | 1 => .array .byte
  | 2 => .array .byte
  | 3 => .array .int
  | 4 => .array .int
  | 5 => .array .byte
  | 6 => .int
  | 7 => .int
  | 8 => .int
  | 9 => .int
  | 10 => .int
  | 11 => .int
  | 12 => .int
  | 13 => .int
  | 14 => .int
  | 15 => .object "java/lang/String"
  | 16 => .object "java/lang/String"
  | 17 => .boolean
  | 18 => .array .int
  | 19 => .array .int
  | 20 => .array .int
  | 21 => .array .int
  | 22 => .array .int
  | 23 => .int
  | 24 => .int
  | 25 => .int
  | 26 => .int
  | 27 => .int
  | 28 => .int
  | 29 => .int
  | 30 => .boolean
  | 31 => .boolean
  | 32 => .array .int
  | 33 => .array .int
  | 34 => .int
  | 35 => .int
  | 36 => .array .long
  | 37 => .array .int
  | 38 => .array .int
  | 39 => .int
  | 40 => .long
  | 41 => .array .int
  | 42 => .int
  | 43 => .int
  | 44 => .array .int
  | 45 => .array .int
  | 46 => .array .int
  | 47 => .int
  | 48 => .array .int
  | 49 => .array .boolean
  | 50 => .int
  | 51 => .array .int
  | _ => .boolean
theorem tyX12_ok : ∀ k, k < 53 → parseFieldDescriptor (TX12 k).2.2.1 = some (tyX12 k) := by decide +kernel
theorem nmX12 : ∀ a, a < 53 → ∀ b, b < 53 → a ≠ b → (TX12 a).2.1 ≠ (TX12 b).2.1 := by decide +kernel
def RJ0 : String := "java/lang/String"
def RJ1 : String := "java/lang/StringLatin1"
def RJ10 : String := "java/lang/System"
def RJ11 : String := "java/lang/Character"
def RJ2 : String := "java/lang/StringUTF16"
def RJ3 : String := "jdk/internal/util/Preconditions"
def RJ6 : String := "java/lang/Integer"
def RJ7 : String := "java/util/Arrays"
def RJ9 : String := "java/lang/Math"
def RJx145de : String := "java/io/Serializable"
def RJx3cf43 : String := "java/lang/constant/ConstantDesc"
def RJx9f9b0 : String := "java/lang/CharSequence"
def RJxb160c : String := "java/lang/Comparable"
def RJxfd54e : String := "java/lang/constant/Constable"
abbrev vwCl : List vw_C := [(RX0, TX0, 5), (RX1, TX1, 3), (RX2, TX2, 10), (RX3, TX3, 3), (RX4, TX4, 15), (RX5, TX5, 11), (RX6, TX6, 7), (RX7, TX7, 9), (RX8, TX8, 9), (RX9, TX9, 8), (RX10, TX10, 4), (RX11, TX11, 17), (RX12, TX12, 53)]
/-- the words of the tables that a method may stand on -/
def sg_tbl : List Cond := lw_tbl.filter goodWord
theorem tb_0 : ∀ w ∈ k2_sels lw_privs, goodWord w = true → w ∈ sg_tbl := fun w h hg => List.mem_filter.mpr ⟨List.mem_append_left _ h, hg⟩
theorem tb_1 : ∀ w ∈ tables_1_1, goodWord w = true → w ∈ sg_tbl := fun w h hg => List.mem_filter.mpr ⟨List.mem_append_right _ (List.mem_append_left _ h), hg⟩
theorem tb_2 : ∀ w ∈ tables_1_2, goodWord w = true → w ∈ sg_tbl := fun w h hg => List.mem_filter.mpr ⟨List.mem_append_right _ (List.mem_append_right _ (List.mem_append_left _ h)), hg⟩
theorem tb_3 : ∀ w ∈ tables_1_3, goodWord w = true → w ∈ sg_tbl := fun w h hg => List.mem_filter.mpr ⟨List.mem_append_right _ (List.mem_append_right _ (List.mem_append_right _ (List.mem_append_left _ h))), hg⟩
theorem tb_4 : ∀ w ∈ tables_1_4, goodWord w = true → w ∈ sg_tbl := fun w h hg => List.mem_filter.mpr ⟨List.mem_append_right _ (List.mem_append_right _ (List.mem_append_right _ (List.mem_append_right _ (List.mem_append_left _ h)))), hg⟩
theorem tb_5 : ∀ w ∈ tables_1_5, goodWord w = true → w ∈ sg_tbl := fun w h hg => List.mem_filter.mpr ⟨List.mem_append_right _ (List.mem_append_right _ (List.mem_append_right _ (List.mem_append_right _ (List.mem_append_right _ (List.mem_append_left _ h))))), hg⟩
theorem tb_6 : ∀ w ∈ tables_1_6, goodWord w = true → w ∈ sg_tbl := fun w h hg => List.mem_filter.mpr ⟨List.mem_append_right _ (List.mem_append_right _ (List.mem_append_right _ (List.mem_append_right _ (List.mem_append_right _ (List.mem_append_right _ (List.mem_append_left _ h)))))), hg⟩
theorem tb_7 : ∀ w ∈ tables_1_7, goodWord w = true → w ∈ sg_tbl := fun w h hg => List.mem_filter.mpr ⟨List.mem_append_right _ (List.mem_append_right _ (List.mem_append_right _ (List.mem_append_right _ (List.mem_append_right _ (List.mem_append_right _ (List.mem_append_right _ (List.mem_append_left _ h))))))), hg⟩
theorem tb_8 : ∀ w ∈ tables_1_8, goodWord w = true → w ∈ sg_tbl := fun w h hg => List.mem_filter.mpr ⟨List.mem_append_right _ (List.mem_append_right _ (List.mem_append_right _ (List.mem_append_right _ (List.mem_append_right _ (List.mem_append_right _ (List.mem_append_right _ (List.mem_append_right _ (List.mem_append_left _ h)))))))), hg⟩
theorem tb_9 : ∀ w ∈ tables_1_9, goodWord w = true → w ∈ sg_tbl := fun w h hg => List.mem_filter.mpr ⟨List.mem_append_right _ (List.mem_append_right _ (List.mem_append_right _ (List.mem_append_right _ (List.mem_append_right _ (List.mem_append_right _ (List.mem_append_right _ (List.mem_append_right _ (List.mem_append_right _ h)))))))), hg⟩
