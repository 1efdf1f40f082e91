theorem dL_law_992 : decode cL_law 992 = .ok (.aload_n 1, 1) := by decide +kernel
theorem dL_law_993 : decode cL_law 993 = .ok (.invokevirtual 129, 3) := by decide +kernel
theorem dL_law_996 : decode cL_law 996 = .ok (.pop, 1) := by decide +kernel
theorem dL_law_997 : decode cL_law 997 = .ok (.aload_n 2, 1) := by decide +kernel
theorem dL_law_998 : decode cL_law 998 = .ok (.invokevirtual 132, 3) := by decide +kernel
theorem dL_law_1001 : decode cL_law 1001 = .ok (.pop, 1) := by decide +kernel
theorem dL_law_1002 : decode cL_law 1002 = .ok (.goto 347, 3) := by decide +kernel
theorem dL_law_1005 : decode cL_law 1005 = .ok (.aload_n 1, 1) := by decide +kernel
theorem dL_law_1006 : decode cL_law 1006 = .ok (.aload_n 0, 1) := by decide +kernel
theorem dL_law_1007 : decode cL_law 1007 = .ok (.iload 4, 2) := by decide +kernel
theorem dL_law_1009 : decode cL_law 1009 = .ok (.iconst 1, 1) := by decide +kernel
theorem dL_law_1010 : decode cL_law 1010 = .ok (.iadd, 1) := by decide +kernel
theorem dL_law_1011 : decode cL_law 1011 = .ok (.iaload, 1) := by decide +kernel
theorem dL_law_1012 : decode cL_law 1012 = .ok (.invokevirtual 133, 3) := by decide +kernel
theorem dL_law_1015 : decode cL_law 1015 = .ok (.pop, 1) := by decide +kernel
theorem dL_law_1016 : decode cL_law 1016 = .ok (.aload_n 2, 1) := by decide +kernel
theorem dL_law_1017 : decode cL_law 1017 = .ok (.aload_n 0, 1) := by decide +kernel
theorem dL_law_1018 : decode cL_law 1018 = .ok (.iload 4, 2) := by decide +kernel
theorem dL_law_1020 : decode cL_law 1020 = .ok (.iconst 1, 1) := by decide +kernel
theorem dL_law_1021 : decode cL_law 1021 = .ok (.iadd, 1) := by decide +kernel
theorem dL_law_1022 : decode cL_law 1022 = .ok (.iaload, 1) := by decide +kernel
theorem dL_law_1023 : decode cL_law 1023 = .ok (.invokevirtual 136, 3) := by decide +kernel
theorem dL_law_1026 : decode cL_law 1026 = .ok (.pop, 1) := by decide +kernel
theorem dL_law_1027 : decode cL_law 1027 = .ok (.goto 322, 3) := by decide +kernel
theorem dL_law_1030 : decode cL_law 1030 = .ok (.aload_n 1, 1) := by decide +kernel
theorem dL_law_1031 : decode cL_law 1031 = .ok (.aload_n 0, 1) := by decide +kernel
theorem dL_law_1032 : decode cL_law 1032 = .ok (.iload 4, 2) := by decide +kernel
theorem dL_law_1034 : decode cL_law 1034 = .ok (.iconst 1, 1) := by decide +kernel
theorem dL_law_1035 : decode cL_law 1035 = .ok (.iadd, 1) := by decide +kernel
theorem dL_law_1036 : decode cL_law 1036 = .ok (.iaload, 1) := by decide +kernel
theorem dL_law_1037 : decode cL_law 1037 = .ok (.invokevirtual 137, 3) := by decide +kernel
theorem dL_law_1040 : decode cL_law 1040 = .ok (.pop, 1) := by decide +kernel
theorem dL_law_1041 : decode cL_law 1041 = .ok (.aload_n 2, 1) := by decide +kernel
theorem dL_law_1042 : decode cL_law 1042 = .ok (.aload_n 0, 1) := by decide +kernel
theorem dL_law_1043 : decode cL_law 1043 = .ok (.iload 4, 2) := by decide +kernel
theorem dL_law_1045 : decode cL_law 1045 = .ok (.iconst 1, 1) := by decide +kernel
theorem dL_law_1046 : decode cL_law 1046 = .ok (.iadd, 1) := by decide +kernel
theorem dL_law_1047 : decode cL_law 1047 = .ok (.iaload, 1) := by decide +kernel
theorem dL_law_1048 : decode cL_law 1048 = .ok (.invokevirtual 140, 3) := by decide +kernel
theorem dL_law_1051 : decode cL_law 1051 = .ok (.pop, 1) := by decide +kernel
theorem dL_law_1052 : decode cL_law 1052 = .ok (.goto 297, 3) := by decide +kernel
theorem dL_law_1055 : decode cL_law 1055 = .ok (.aload_n 1, 1) := by decide +kernel
theorem dL_law_1056 : decode cL_law 1056 = .ok (.invokevirtual 141, 3) := by decide +kernel
theorem dL_law_1059 : decode cL_law 1059 = .ok (.pop, 1) := by decide +kernel
theorem dL_law_1060 : decode cL_law 1060 = .ok (.aload_n 2, 1) := by decide +kernel
theorem dL_law_1061 : decode cL_law 1061 = .ok (.invokevirtual 144, 3) := by decide +kernel
theorem dL_law_1064 : decode cL_law 1064 = .ok (.pop, 1) := by decide +kernel
theorem dL_law_1065 : decode cL_law 1065 = .ok (.goto 284, 3) := by decide +kernel
theorem dL_law_1068 : decode cL_law 1068 = .ok (.aload_n 1, 1) := by decide +kernel
theorem dL_law_1069 : decode cL_law 1069 = .ok (.invokevirtual 145, 3) := by decide +kernel
theorem dL_law_1072 : decode cL_law 1072 = .ok (.pop, 1) := by decide +kernel
theorem dL_law_1073 : decode cL_law 1073 = .ok (.aload_n 2, 1) := by decide +kernel
theorem dL_law_1074 : decode cL_law 1074 = .ok (.invokevirtual 148, 3) := by decide +kernel
theorem dL_law_1077 : decode cL_law 1077 = .ok (.pop, 1) := by decide +kernel
theorem dL_law_1078 : decode cL_law 1078 = .ok (.goto 271, 3) := by decide +kernel
theorem dL_law_1081 : decode cL_law 1081 = .ok (.aload_n 1, 1) := by decide +kernel
theorem dL_law_1082 : decode cL_law 1082 = .ok (.aload_n 0, 1) := by decide +kernel
theorem dL_law_1083 : decode cL_law 1083 = .ok (.iload 4, 2) := by decide +kernel
theorem dL_law_1085 : decode cL_law 1085 = .ok (.iconst 1, 1) := by decide +kernel
theorem dL_law_1086 : decode cL_law 1086 = .ok (.iadd, 1) := by decide +kernel
theorem dL_law_1087 : decode cL_law 1087 = .ok (.iaload, 1) := by decide +kernel
theorem dL_law_1088 : decode cL_law 1088 = .ok (.aload_n 0, 1) := by decide +kernel
theorem dL_law_1089 : decode cL_law 1089 = .ok (.iload 4, 2) := by decide +kernel
theorem dL_law_1091 : decode cL_law 1091 = .ok (.iconst 2, 1) := by decide +kernel
theorem dL_law_1092 : decode cL_law 1092 = .ok (.iadd, 1) := by decide +kernel
theorem dL_law_1093 : decode cL_law 1093 = .ok (.iaload, 1) := by decide +kernel
theorem dL_law_1094 : decode cL_law 1094 = .ok (.ifCond .eq 7, 3) := by decide +kernel
theorem dL_law_1097 : decode cL_law 1097 = .ok (.iconst 1, 1) := by decide +kernel
theorem dL_law_1098 : decode cL_law 1098 = .ok (.goto 4, 3) := by decide +kernel
theorem dL_law_1101 : decode cL_law 1101 = .ok (.iconst 0, 1) := by decide +kernel
theorem dL_law_1102 : decode cL_law 1102 = .ok (.invokevirtual 149, 3) := by decide +kernel
theorem dL_law_1105 : decode cL_law 1105 = .ok (.pop, 1) := by decide +kernel
theorem dL_law_1106 : decode cL_law 1106 = .ok (.aload_n 2, 1) := by decide +kernel
theorem dL_law_1107 : decode cL_law 1107 = .ok (.aload_n 0, 1) := by decide +kernel
theorem dL_law_1108 : decode cL_law 1108 = .ok (.iload 4, 2) := by decide +kernel
theorem dL_law_1110 : decode cL_law 1110 = .ok (.iconst 1, 1) := by decide +kernel
theorem dL_law_1111 : decode cL_law 1111 = .ok (.iadd, 1) := by decide +kernel
theorem dL_law_1112 : decode cL_law 1112 = .ok (.iaload, 1) := by decide +kernel
theorem dL_law_1113 : decode cL_law 1113 = .ok (.aload_n 0, 1) := by decide +kernel
theorem dL_law_1114 : decode cL_law 1114 = .ok (.iload 4, 2) := by decide +kernel
theorem dL_law_1116 : decode cL_law 1116 = .ok (.iconst 2, 1) := by decide +kernel
theorem dL_law_1117 : decode cL_law 1117 = .ok (.iadd, 1) := by decide +kernel
theorem dL_law_1118 : decode cL_law 1118 = .ok (.iaload, 1) := by decide +kernel
theorem dL_law_1119 : decode cL_law 1119 = .ok (.ifCond .eq 7, 3) := by decide +kernel
theorem dL_law_1122 : decode cL_law 1122 = .ok (.iconst 1, 1) := by decide +kernel
theorem dL_law_1123 : decode cL_law 1123 = .ok (.goto 4, 3) := by decide +kernel
theorem dL_law_1126 : decode cL_law 1126 = .ok (.iconst 0, 1) := by decide +kernel
theorem dL_law_1127 : decode cL_law 1127 = .ok (.invokevirtual 153, 3) := by decide +kernel
theorem dL_law_1130 : decode cL_law 1130 = .ok (.pop, 1) := by decide +kernel
theorem dL_law_1131 : decode cL_law 1131 = .ok (.goto 218, 3) := by decide +kernel
theorem wl_5_128 : (.methodLink RL 129 yX11_meant : Cond) ∈ sg_tbl := tb_5 _ (List.mem_of_getElem? (i := 128) (by decide +kernel)) (by decide +kernel)
theorem wl_9_35 : (.methodLink RL 132 yX12_meant : Cond) ∈ sg_tbl := tb_9 _ (List.mem_of_getElem? (i := 35) (by decide +kernel)) (by decide +kernel)
theorem wl_5_132 : (.methodLink RL 133 yX11_parts : Cond) ∈ sg_tbl := tb_5 _ (List.mem_of_getElem? (i := 132) (by decide +kernel)) (by decide +kernel)
theorem wl_9_39 : (.methodLink RL 136 yX12_parts : Cond) ∈ sg_tbl := tb_9 _ (List.mem_of_getElem? (i := 39) (by decide +kernel)) (by decide +kernel)
theorem wl_5_148 : (.methodLink RL 137 yX11_sumOf : Cond) ∈ sg_tbl := tb_5 _ (List.mem_of_getElem? (i := 148) (by decide +kernel)) (by decide +kernel)
theorem wl_9_51 : (.methodLink RL 140 yX12_sumOf : Cond) ∈ sg_tbl := tb_9 _ (List.mem_of_getElem? (i := 51) (by decide +kernel)) (by decide +kernel)
theorem wl_5_183 : (.methodLink RL 141 yX11_winning : Cond) ∈ sg_tbl := tb_5 _ (List.mem_of_getElem? (i := 183) (by decide +kernel)) (by decide +kernel)
theorem wl_9_72 : (.methodLink RL 144 yX12_winning : Cond) ∈ sg_tbl := tb_9 _ (List.mem_of_getElem? (i := 72) (by decide +kernel)) (by decide +kernel)
theorem wl_5_200 : (.methodLink RL 145 yX11_fewest : Cond) ∈ sg_tbl := tb_5 _ (List.mem_of_getElem? (i := 200) (by decide +kernel)) (by decide +kernel)
theorem wl_9_80 : (.methodLink RL 148 yX12_fewest : Cond) ∈ sg_tbl := tb_9 _ (List.mem_of_getElem? (i := 80) (by decide +kernel)) (by decide +kernel)
theorem wl_5_213 : (.methodLink RL 149 yX11_book : Cond) ∈ sg_tbl := tb_5 _ (List.mem_of_getElem? (i := 213) (by decide +kernel)) (by decide +kernel)
theorem wl_9_84 : (.methodLink RL 153 yX12_book : Cond) ∈ sg_tbl := tb_9 _ (List.mem_of_getElem? (i := 84) (by decide +kernel)) (by decide +kernel)
section
variable {p : Program} {l : Launch} {e : Env} {R : Room} {s : State} {m : MethodId} {args : Array Value} {below : List Frame} {meth : Method} {c : Code} {H : Heap} {locs : List Loc} {cells slots : Nat} {Q : State → Prop} {cc : ByteArray} {nL pc : Nat} {ls : Array Slot} {rest : List Value} {own : String} {D : va_G} {A : Nat → Prop} {tys : List (ClassId × FieldType)} {ad ks : List Nat} {P : sgPm} {H0 : Heap} {index : Nat} {base : Nat} {st0 : List Value} {a : Nat}

set_option maxHeartbeats 8000000 in
set_option maxRecDepth 100000 in
theorem law_case_25 {p : Program} {l : Launch} {e : Env} {s : State} {m : MethodId} {below : List Frame} {meth : Method} {c : Code} {b L : Nat} {xs : Nat → Int32} {D : va_G} (C : lwC p l e s m below meth c b L xs) {n : Nat} {P : sgPm} {tys : List (ClassId × FieldType)} {ad ks : List Nat} {xx mm oq : Nat} {H : Heap} {locs : List Loc} (hW : lwV D n P tys ad ks xx mm oq s H) (hS : va_S (fun q : Nat => s.heap.size ≤ q) s.heap H locs) {i : Int32} (hi0 : 0 ≤ i.toInt) (hi6 : i.toInt + 6 ≤ L) (hn : n ≤ 511) {ls : Array Slot} (hl : lv_has ls 7 [(4, .int i), (3, .ref oq), (2, .ref mm), (1, .ref xx), (0, .ref b)]) {cells slots : Nat} (hc : cells + 4 ≤ 601024) (hs : slots + 8300 ≤ 7293034) {Q : State → Prop}
    (kk : ∀ (P1 : sgPm) (tys1 : List (ClassId × FieldType)) (ad1 ks1 : List Nat) (H1 : Heap) (locs1 : List Loc) (ls1 : Array Slot), lwV D (n + 1) P1 tys1 ad1 ks1 xx mm oq s H1 → va_S (fun q : Nat => s.heap.size ≤ q) s.heap H1 locs1 → lv_has ls1 7 [(4, .int i), (3, .ref oq), (2, .ref mm), (1, .ref xx), (0, .ref b)] → W p l e room_1 s m #[.ref b] below meth c H1 locs1 (cells + 4) (slots + 8300) Q (F0 m 1349 ls1 [])) :
    W p l e room_1 s m #[.ref b] below meth c H locs cells slots Q (F0 m 992 ls []) := by
  obtain ⟨X, hC, hX, hbl, hL⟩ := C
  obtain ⟨hK, hG, hxx, hmm, hoq, hpin, hN0, hinv, hgl⟩ := id hW
  have hp10 := hpin
  have hb : s.heap.size ≤ s.heap.size := Nat.le_refl _
  have hbA : ¬ (fun q : Nat => s.heap.size ≤ q) b := Nat.not_le.mpr hbl
  have lwr : cells ≤ room_1.cells ∧ slots ≤ room_1.slots := ⟨by show cells ≤ 601024; omega, by show slots ≤ 7293034; omega⟩
  have lwr1 : cells + 1 ≤ room_1.cells ∧ slots + 8256 ≤ room_1.slots := ⟨by show cells + 1 ≤ 601024; omega, by show slots + 8256 ≤ 7293034; omega⟩
  have lwr2 : cells + 1 ≤ room_1.cells ∧ slots + 4096 ≤ room_1.slots := ⟨by show cells + 1 ≤ 601024; omega, by show slots + 4096 ≤ 7293034; omega⟩
  have hgi := hgl.1.1
  have hgg := hgl.2.1
  have hpk := hm_pk hgl.2
  have hl0 := sgInv_l1 hinv
  have hby := sgInv_b1 hinv
  refine lv_aload_n X.1 X.2.1 dL_law_992 rfl (lv_at hl 3 rfl) ?_
  refine ca_X11_meant X hK hG hC hS hb xx hxx wl_5_128 hl.1 (rest := []) rfl (Nat.le_of_ble_eq_true rfl) ⟨Nat.le_of_ble_eq_true rfl, Nat.le_of_ble_eq_true rfl⟩ lwr dL_law_993 (fun f1 H locs hf1 hG hS => ?_)
  refine lv_pop X.1 X.2.1 dL_law_996 rfl ?_
  refine lv_aload_n X.1 X.2.1 dL_law_997 rfl (lv_at hl 2 rfl) ?_
  rcases Bool.eq_false_or_eq_true P.2.2.2.2.1 with hp4 | hp4
  · refine ca_X12_meant_1 X hK hG hC hS hb hp4 mm hmm wl_9_35 hl.1 (rest := []) rfl (Nat.le_of_ble_eq_true rfl) ⟨Nat.le_of_ble_eq_true rfl, Nat.le_of_ble_eq_true rfl⟩ lwr dL_law_998 (fun f2 H locs hf2 hG hS => ?_)
    refine lv_pop X.1 X.2.1 dL_law_1001 rfl ?_
    refine lv_goto (tgt := 1349) X.1 X.2.1 dL_law_1002 (by decide) ?_
    refine W.widen (k := cells + 4) (n := slots + 8300) (by omega) (by omega) ?_
    exact kk _ _ _ _ _ _ _ (lwV_next hW hK hG hpin (Nat.le_add_right _ _) (sgMo.rf _ _) hinv hgl) hS (lv_sub hl [0, 1, 2, 3, 4] rfl)
  · refine ca_X12_meant_0 X hK hG hC hS hb hp4 mm hmm wl_9_35 hl.1 (rest := []) rfl (Nat.le_of_ble_eq_true rfl) ⟨Nat.le_of_ble_eq_true rfl, Nat.le_of_ble_eq_true rfl⟩ lwr dL_law_998 (fun f3 H locs hf3 hG hS => ?_)
    refine lv_pop X.1 X.2.1 dL_law_1001 rfl ?_
    refine lv_goto (tgt := 1349) X.1 X.2.1 dL_law_1002 (by decide) ?_
    refine W.widen (k := cells + 4) (n := slots + 8300) (by omega) (by omega) ?_
    exact kk _ _ _ _ _ _ _ (lwV_next hW hK hG hpin (Nat.le_add_right _ _) (sgMo.rf _ _) hinv hgl) hS (lv_sub hl [0, 1, 2, 3, 4] rfl)

set_option maxHeartbeats 8000000 in
set_option maxRecDepth 100000 in
theorem law_case_26 {p : Program} {l : Launch} {e : Env} {s : State} {m : MethodId} {below : List Frame} {meth : Method} {c : Code} {b L : Nat} {xs : Nat → Int32} {D : va_G} (C : lwC p l e s m below meth c b L xs) {n : Nat} {P : sgPm} {tys : List (ClassId × FieldType)} {ad ks : List Nat} {xx mm oq : Nat} {H : Heap} {locs : List Loc} (hW : lwV D n P tys ad ks xx mm oq s H) (hS : va_S (fun q : Nat => s.heap.size ≤ q) s.heap H locs) {i : Int32} (hi0 : 0 ≤ i.toInt) (hi6 : i.toInt + 6 ≤ L) (hn : n ≤ 511) {ls : Array Slot} (hl : lv_has ls 7 [(4, .int i), (3, .ref oq), (2, .ref mm), (1, .ref xx), (0, .ref b)]) {cells slots : Nat} (hc : cells + 4 ≤ 601024) (hs : slots + 8300 ≤ 7293034) {Q : State → Prop}
    (kk : ∀ (P1 : sgPm) (tys1 : List (ClassId × FieldType)) (ad1 ks1 : List Nat) (H1 : Heap) (locs1 : List Loc) (ls1 : Array Slot), lwV D (n + 1) P1 tys1 ad1 ks1 xx mm oq s H1 → va_S (fun q : Nat => s.heap.size ≤ q) s.heap H1 locs1 → lv_has ls1 7 [(4, .int i), (3, .ref oq), (2, .ref mm), (1, .ref xx), (0, .ref b)] → W p l e room_1 s m #[.ref b] below meth c H1 locs1 (cells + 4) (slots + 8300) Q (F0 m 1349 ls1 [])) :
    W p l e room_1 s m #[.ref b] below meth c H locs cells slots Q (F0 m 1005 ls []) := by
  obtain ⟨X, hC, hX, hbl, hL⟩ := C
  obtain ⟨hK, hG, hxx, hmm, hoq, hpin, hN0, hinv, hgl⟩ := id hW
  have hp10 := hpin
  have hb : s.heap.size ≤ s.heap.size := Nat.le_refl _
  have hbA : ¬ (fun q : Nat => s.heap.size ≤ q) b := Nat.not_le.mpr hbl
  have lwr : cells ≤ room_1.cells ∧ slots ≤ room_1.slots := ⟨by show cells ≤ 601024; omega, by show slots ≤ 7293034; omega⟩
  have lwr1 : cells + 1 ≤ room_1.cells ∧ slots + 8256 ≤ room_1.slots := ⟨by show cells + 1 ≤ 601024; omega, by show slots + 8256 ≤ 7293034; omega⟩
  have lwr2 : cells + 1 ≤ room_1.cells ∧ slots + 4096 ≤ room_1.slots := ⟨by show cells + 1 ≤ 601024; omega, by show slots + 4096 ≤ 7293034; omega⟩
  have hgi := hgl.1.1
  have hgg := hgl.2.1
  have hpk := hm_pk hgl.2
  have hl0 := sgInv_l1 hinv
  have hby := sgInv_b1 hinv
  refine lv_aload_n X.1 X.2.1 dL_law_1005 rfl (lv_at hl 3 rfl) ?_
  refine lv_aload_n X.1 X.2.1 dL_law_1006 rfl (lv_at hl 4 rfl) ?_
  refine lv_iload X.1 X.2.1 dL_law_1007 (lv_at hl 0 rfl) ?_
  refine lv_iconst (v := 1) X.1 X.2.1 dL_law_1009 (by decide +kernel) ?_
  refine lv_iadd X.1 X.2.1 dL_law_1010 ?_
  refine lv_topi (fun f1 ef1 => ?_)
  refine va_sld (i := f1) X.1 X.2.1 hX hbl hbA hS (lw_ix ef1 hi0 hi6 hL (by decide +kernel)) dL_law_1011 ?_
  refine ca_X11_parts X hK hG hC hS hb xx hxx (xs f1.toNatClampNeg) wl_5_132 hl.1 (rest := []) rfl (Nat.le_of_ble_eq_true rfl) ⟨Nat.le_of_ble_eq_true rfl, Nat.le_of_ble_eq_true rfl⟩ lwr dL_law_1012 (fun f3 H locs hf3 hG hS => ?_)
  refine lv_pop X.1 X.2.1 dL_law_1015 rfl ?_
  refine lv_aload_n X.1 X.2.1 dL_law_1016 rfl (lv_at hl 2 rfl) ?_
  refine lv_aload_n X.1 X.2.1 dL_law_1017 rfl (lv_at hl 4 rfl) ?_
  refine lv_iload X.1 X.2.1 dL_law_1018 (lv_at hl 0 rfl) ?_
  refine lv_iconst (v := 1) X.1 X.2.1 dL_law_1020 (by decide +kernel) ?_
  refine lv_iadd X.1 X.2.1 dL_law_1021 ?_
  refine lv_topi (fun f4 ef4 => ?_)
  refine va_sld (i := f4) X.1 X.2.1 hX hbl hbA hS (lw_ix ef4 hi0 hi6 hL (by decide +kernel)) dL_law_1022 ?_
  rcases Bool.eq_false_or_eq_true P.2.2.2.2.1 with hp4 | hp4
  · refine ca_X12_parts_1 X hK hG hC hS hb hp4 mm hmm (xs f4.toNatClampNeg) wl_9_39 hl.1 (rest := []) rfl (Nat.le_of_ble_eq_true rfl) ⟨Nat.le_of_ble_eq_true rfl, Nat.le_of_ble_eq_true rfl⟩ lwr dL_law_1023 (fun f6 H locs hf6 hG hS => ?_)
    refine lv_pop X.1 X.2.1 dL_law_1026 rfl ?_
    refine lv_goto (tgt := 1349) X.1 X.2.1 dL_law_1027 (by decide) ?_
    refine W.widen (k := cells + 4) (n := slots + 8300) (by omega) (by omega) ?_
    exact kk _ _ _ _ _ _ _ (lwV_next hW hK hG hpin (Nat.le_add_right _ _) (sgMo.rf _ _) hinv hgl) hS (lv_sub hl [0, 1, 2, 3, 4] rfl)
  · refine ca_X12_parts_0 X hK hG hC hS hb hp4 mm hmm (xs f4.toNatClampNeg) wl_9_39 hl.1 (rest := []) rfl (Nat.le_of_ble_eq_true rfl) ⟨Nat.le_of_ble_eq_true rfl, Nat.le_of_ble_eq_true rfl⟩ lwr dL_law_1023 (fun f7 H locs hf7 hG hS => ?_)
    refine lv_pop X.1 X.2.1 dL_law_1026 rfl ?_
    refine lv_goto (tgt := 1349) X.1 X.2.1 dL_law_1027 (by decide) ?_
    refine W.widen (k := cells + 4) (n := slots + 8300) (by omega) (by omega) ?_
    exact kk _ _ _ _ _ _ _ (lwV_next hW hK hG hpin (Nat.le_add_right _ _) (sgMo.rf _ _) hinv hgl) hS (lv_sub hl [0, 1, 2, 3, 4] rfl)

set_option maxHeartbeats 8000000 in
set_option maxRecDepth 100000 in
theorem law_case_27 {p : Program} {l : Launch} {e : Env} {s : State} {m : MethodId} {below : List Frame} {meth : Method} {c : Code} {b L : Nat} {xs : Nat → Int32} {D : va_G} (C : lwC p l e s m below meth c b L xs) {n : Nat} {P : sgPm} {tys : List (ClassId × FieldType)} {ad ks : List Nat} {xx mm oq : Nat} {H : Heap} {locs : List Loc} (hW : lwV D n P tys ad ks xx mm oq s H) (hS : va_S (fun q : Nat => s.heap.size ≤ q) s.heap H locs) {i : Int32} (hi0 : 0 ≤ i.toInt) (hi6 : i.toInt + 6 ≤ L) (hn : n ≤ 511) {ls : Array Slot} (hl : lv_has ls 7 [(4, .int i), (3, .ref oq), (2, .ref mm), (1, .ref xx), (0, .ref b)]) {cells slots : Nat} (hc : cells + 4 ≤ 601024) (hs : slots + 8300 ≤ 7293034) {Q : State → Prop}
    (kk : ∀ (P1 : sgPm) (tys1 : List (ClassId × FieldType)) (ad1 ks1 : List Nat) (H1 : Heap) (locs1 : List Loc) (ls1 : Array Slot), lwV D (n + 1) P1 tys1 ad1 ks1 xx mm oq s H1 → va_S (fun q : Nat => s.heap.size ≤ q) s.heap H1 locs1 → lv_has ls1 7 [(4, .int i), (3, .ref oq), (2, .ref mm), (1, .ref xx), (0, .ref b)] → W p l e room_1 s m #[.ref b] below meth c H1 locs1 (cells + 4) (slots + 8300) Q (F0 m 1349 ls1 [])) :
    W p l e room_1 s m #[.ref b] below meth c H locs cells slots Q (F0 m 1030 ls []) := by
  obtain ⟨X, hC, hX, hbl, hL⟩ := C
  obtain ⟨hK, hG, hxx, hmm, hoq, hpin, hN0, hinv, hgl⟩ := id hW
  have hp10 := hpin
  have hb : s.heap.size ≤ s.heap.size := Nat.le_refl _
  have hbA : ¬ (fun q : Nat => s.heap.size ≤ q) b := Nat.not_le.mpr hbl
  have lwr : cells ≤ room_1.cells ∧ slots ≤ room_1.slots := ⟨by show cells ≤ 601024; omega, by show slots ≤ 7293034; omega⟩
  have lwr1 : cells + 1 ≤ room_1.cells ∧ slots + 8256 ≤ room_1.slots := ⟨by show cells + 1 ≤ 601024; omega, by show slots + 8256 ≤ 7293034; omega⟩
  have lwr2 : cells + 1 ≤ room_1.cells ∧ slots + 4096 ≤ room_1.slots := ⟨by show cells + 1 ≤ 601024; omega, by show slots + 4096 ≤ 7293034; omega⟩
  have hgi := hgl.1.1
  have hgg := hgl.2.1
  have hpk := hm_pk hgl.2
  have hl0 := sgInv_l1 hinv
  have hby := sgInv_b1 hinv
  refine lv_aload_n X.1 X.2.1 dL_law_1030 rfl (lv_at hl 3 rfl) ?_
  refine lv_aload_n X.1 X.2.1 dL_law_1031 rfl (lv_at hl 4 rfl) ?_
  refine lv_iload X.1 X.2.1 dL_law_1032 (lv_at hl 0 rfl) ?_
  refine lv_iconst (v := 1) X.1 X.2.1 dL_law_1034 (by decide +kernel) ?_
  refine lv_iadd X.1 X.2.1 dL_law_1035 ?_
  refine lv_topi (fun f1 ef1 => ?_)
  refine va_sld (i := f1) X.1 X.2.1 hX hbl hbA hS (lw_ix ef1 hi0 hi6 hL (by decide +kernel)) dL_law_1036 ?_
  rcases Bool.eq_false_or_eq_true P.2.1 with hp1 | hp1
  · refine ca_X11_sumOf_1 X hK hG hC hS hb hp1 xx hxx (xs f1.toNatClampNeg) wl_5_148 hl.1 (rest := []) rfl (Nat.le_of_ble_eq_true rfl) ⟨Nat.le_of_ble_eq_true rfl, Nat.le_of_ble_eq_true rfl⟩ lwr dL_law_1037 (fun f3 tf3 H locs htf3 hf3 hWf3 hS => ?_)
    have hG : sgG (KT (sgPlTop P)) D vwCl _ tys ad ks _ := hWf3.2.2.2
    rw [htf3] at hG
    refine lv_pop X.1 X.2.1 dL_law_1040 rfl ?_
    refine lv_aload_n X.1 X.2.1 dL_law_1041 rfl (lv_at hl 2 rfl) ?_
    refine lv_aload_n X.1 X.2.1 dL_law_1042 rfl (lv_at hl 4 rfl) ?_
    refine lv_iload X.1 X.2.1 dL_law_1043 (lv_at hl 0 rfl) ?_
    refine lv_iconst (v := 1) X.1 X.2.1 dL_law_1045 (by decide +kernel) ?_
    refine lv_iadd X.1 X.2.1 dL_law_1046 ?_
    refine lv_topi (fun f4 ef4 => ?_)
    refine va_sld (i := f4) X.1 X.2.1 hX hbl hbA hS (lw_ix ef4 hi0 hi6 hL (by decide +kernel)) dL_law_1047 ?_
    rcases Bool.eq_false_or_eq_true P.2.2.2.2.1 with hp4 | hp4
    · refine ca_X12_sumOf_1 X hK hG hC hS hb hp4 hp10 mm hmm (xs f4.toNatClampNeg) wl_9_51 hl.1 (rest := []) rfl (Nat.le_of_ble_eq_true rfl) ⟨Nat.le_of_ble_eq_true rfl, Nat.le_of_ble_eq_true rfl⟩ lwr dL_law_1048 (fun f6 H locs hf6 hG hS => ?_)
      refine lv_pop X.1 X.2.1 dL_law_1051 rfl ?_
      refine lv_goto (tgt := 1349) X.1 X.2.1 dL_law_1052 (by decide) ?_
      refine W.widen (k := cells + 4) (n := slots + 8300) (by omega) (by omega) ?_
      exact kk _ _ _ _ _ _ _ (lwV_next hW hK hG hpin (Nat.le_add_right _ _) (sgMo.rf _ _) (sgInv_of hinv rfl rfl rfl rfl rfl) (sgHx_of hgl rfl rfl rfl rfl rfl rfl)) hS (lv_sub hl [0, 1, 2, 3, 4] rfl)
    · refine ca_X12_sumOf_0 X hK hG hC hS hb hp4 mm hmm (xs f4.toNatClampNeg) wl_9_51 hl.1 (rest := []) rfl (Nat.le_of_ble_eq_true rfl) ⟨Nat.le_of_ble_eq_true rfl, Nat.le_of_ble_eq_true rfl⟩ lwr dL_law_1048 (fun f7 H locs hf7 hG hS => ?_)
      refine lv_pop X.1 X.2.1 dL_law_1051 rfl ?_
      refine lv_goto (tgt := 1349) X.1 X.2.1 dL_law_1052 (by decide) ?_
      refine W.widen (k := cells + 4) (n := slots + 8300) (by omega) (by omega) ?_
      exact kk _ _ _ _ _ _ _ (lwV_next hW hK hG hpin (Nat.le_add_right _ _) (sgMo.rf _ _) (sgInv_of hinv rfl rfl rfl rfl rfl) (sgHx_of hgl rfl rfl rfl rfl rfl rfl)) hS (lv_sub hl [0, 1, 2, 3, 4] rfl)
  · refine ca_X11_sumOf_0 X hK hG hC hS hb hp1 xx hxx (xs f1.toNatClampNeg) wl_5_148 hl.1 (rest := []) rfl (Nat.le_of_ble_eq_true rfl) ⟨Nat.le_of_ble_eq_true rfl, Nat.le_of_ble_eq_true rfl⟩ lwr1 dL_law_1037 (fun f8 tf8 H locs hvm htf8 hf8 hWf8 hS => ?_)
    obtain ⟨bf8, tys1, ad1, ks1, hmo, hBf8⟩ := hWf8
    have hK := sg_hKb hvm hBf8
    have hG := hBf8.2.2.2
    rw [htf8] at hG
    have ooq := hmo _ _ hoq
    have omm := hmo _ _ hmm
    have oxx := hmo _ _ hxx
    refine lv_pop X.1 X.2.1 dL_law_1040 rfl ?_
    refine lv_aload_n X.1 X.2.1 dL_law_1041 rfl (lv_at hl 2 rfl) ?_
    refine lv_aload_n X.1 X.2.1 dL_law_1042 rfl (lv_at hl 4 rfl) ?_
    refine lv_iload X.1 X.2.1 dL_law_1043 (lv_at hl 0 rfl) ?_
    refine lv_iconst (v := 1) X.1 X.2.1 dL_law_1045 (by decide +kernel) ?_
    refine lv_iadd X.1 X.2.1 dL_law_1046 ?_
    refine lv_topi (fun f9 ef9 => ?_)
    refine va_sld (i := f9) X.1 X.2.1 hX hbl hbA hS (lw_ix ef9 hi0 hi6 hL (by decide +kernel)) dL_law_1047 ?_
    rcases Bool.eq_false_or_eq_true P.2.2.2.2.1 with hp4 | hp4
    · refine ca_X12_sumOf_1 X hK hG hC hS hb hp4 hp10 mm omm (xs f9.toNatClampNeg) wl_9_51 hl.1 (rest := []) rfl (Nat.le_of_ble_eq_true rfl) ⟨Nat.le_of_ble_eq_true rfl, Nat.le_of_ble_eq_true rfl⟩ lwr1 dL_law_1048 (fun f11 H locs hf11 hG hS => ?_)
      refine lv_pop X.1 X.2.1 dL_law_1051 rfl ?_
      refine lv_goto (tgt := 1349) X.1 X.2.1 dL_law_1052 (by decide) ?_
      refine W.widen (k := cells + 4) (n := slots + 8300) (by omega) (by omega) ?_
      exact kk _ _ _ _ _ _ _ (lwV_next hW hK hG hpin (Nat.le_add_right _ _) hmo (sgInv_of hinv rfl rfl rfl rfl rfl) (sgHx_of hgl rfl rfl rfl rfl rfl rfl)) hS (lv_sub hl [0, 1, 2, 3, 4] rfl)
    · refine ca_X12_sumOf_0 X hK hG hC hS hb hp4 mm omm (xs f9.toNatClampNeg) wl_9_51 hl.1 (rest := []) rfl (Nat.le_of_ble_eq_true rfl) ⟨Nat.le_of_ble_eq_true rfl, Nat.le_of_ble_eq_true rfl⟩ lwr1 dL_law_1048 (fun f12 H locs hf12 hG hS => ?_)
      refine lv_pop X.1 X.2.1 dL_law_1051 rfl ?_
      refine lv_goto (tgt := 1349) X.1 X.2.1 dL_law_1052 (by decide) ?_
      refine W.widen (k := cells + 4) (n := slots + 8300) (by omega) (by omega) ?_
      exact kk _ _ _ _ _ _ _ (lwV_next hW hK hG hpin (Nat.le_add_right _ _) hmo (sgInv_of hinv rfl rfl rfl rfl rfl) (sgHx_of hgl rfl rfl rfl rfl rfl rfl)) hS (lv_sub hl [0, 1, 2, 3, 4] rfl)

set_option maxHeartbeats 8000000 in
set_option maxRecDepth 100000 in
theorem law_case_28 {p : Program} {l : Launch} {e : Env} {s : State} {m : MethodId} {below : List Frame} {meth : Method} {c : Code} {b L : Nat} {xs : Nat → Int32} {D : va_G} (C : lwC p l e s m below meth c b L xs) {n : Nat} {P : sgPm} {tys : List (ClassId × FieldType)} {ad ks : List Nat} {xx mm oq : Nat} {H : Heap} {locs : List Loc} (hW : lwV D n P tys ad ks xx mm oq s H) (hS : va_S (fun q : Nat => s.heap.size ≤ q) s.heap H locs) {i : Int32} (hi0 : 0 ≤ i.toInt) (hi6 : i.toInt + 6 ≤ L) (hn : n ≤ 511) {ls : Array Slot} (hl : lv_has ls 7 [(4, .int i), (3, .ref oq), (2, .ref mm), (1, .ref xx), (0, .ref b)]) {cells slots : Nat} (hc : cells + 4 ≤ 601024) (hs : slots + 8300 ≤ 7293034) {Q : State → Prop}
    (kk : ∀ (P1 : sgPm) (tys1 : List (ClassId × FieldType)) (ad1 ks1 : List Nat) (H1 : Heap) (locs1 : List Loc) (ls1 : Array Slot), lwV D (n + 1) P1 tys1 ad1 ks1 xx mm oq s H1 → va_S (fun q : Nat => s.heap.size ≤ q) s.heap H1 locs1 → lv_has ls1 7 [(4, .int i), (3, .ref oq), (2, .ref mm), (1, .ref xx), (0, .ref b)] → W p l e room_1 s m #[.ref b] below meth c H1 locs1 (cells + 4) (slots + 8300) Q (F0 m 1349 ls1 [])) :
    W p l e room_1 s m #[.ref b] below meth c H locs cells slots Q (F0 m 1055 ls []) := by
  obtain ⟨X, hC, hX, hbl, hL⟩ := C
  obtain ⟨hK, hG, hxx, hmm, hoq, hpin, hN0, hinv, hgl⟩ := id hW
  have hp10 := hpin
  have hb : s.heap.size ≤ s.heap.size := Nat.le_refl _
  have hbA : ¬ (fun q : Nat => s.heap.size ≤ q) b := Nat.not_le.mpr hbl
  have lwr : cells ≤ room_1.cells ∧ slots ≤ room_1.slots := ⟨by show cells ≤ 601024; omega, by show slots ≤ 7293034; omega⟩
  have lwr1 : cells + 1 ≤ room_1.cells ∧ slots + 8256 ≤ room_1.slots := ⟨by show cells + 1 ≤ 601024; omega, by show slots + 8256 ≤ 7293034; omega⟩
  have lwr2 : cells + 1 ≤ room_1.cells ∧ slots + 4096 ≤ room_1.slots := ⟨by show cells + 1 ≤ 601024; omega, by show slots + 4096 ≤ 7293034; omega⟩
  have hgi := hgl.1.1
  have hgg := hgl.2.1
  have hpk := hm_pk hgl.2
  have hl0 := sgInv_l1 hinv
  have hby := sgInv_b1 hinv
  refine lv_aload_n X.1 X.2.1 dL_law_1055 rfl (lv_at hl 3 rfl) ?_
  rcases Bool.eq_false_or_eq_true P.2.1 with hp1 | hp1
  · refine ca_X11_winning_1 X hK hG hC hS hb hp1 xx hxx wl_5_183 hl.1 (rest := []) rfl (Nat.le_of_ble_eq_true rfl) ⟨Nat.le_of_ble_eq_true rfl, Nat.le_of_ble_eq_true rfl⟩ lwr dL_law_1056 (fun f1 tf1 H locs htf1 hf1 hWf1 hS => ?_)
    have hG : sgG (KT (sgPlTop P)) D vwCl _ tys ad ks _ := hWf1.2.2.2
    rw [htf1] at hG
    refine lv_pop X.1 X.2.1 dL_law_1059 rfl ?_
    refine lv_aload_n X.1 X.2.1 dL_law_1060 rfl (lv_at hl 2 rfl) ?_
    rcases Bool.eq_false_or_eq_true P.2.2.2.2.1 with hp4 | hp4
    · refine ca_X12_winning_1 X hK hG hC hS hb hp4 hp10 mm hmm wl_9_72 hl.1 (rest := []) rfl (Nat.le_of_ble_eq_true rfl) ⟨Nat.le_of_ble_eq_true rfl, Nat.le_of_ble_eq_true rfl⟩ lwr dL_law_1061 (fun f2 H locs hf2 hG hS => ?_)
      refine lv_pop X.1 X.2.1 dL_law_1064 rfl ?_
      refine lv_goto (tgt := 1349) X.1 X.2.1 dL_law_1065 (by decide) ?_
      refine W.widen (k := cells + 4) (n := slots + 8300) (by omega) (by omega) ?_
      exact kk _ _ _ _ _ _ _ (lwV_next hW hK hG hpin (Nat.le_add_right _ _) (sgMo.rf _ _) (sgInv_of hinv rfl rfl rfl rfl rfl) (sgHx_of hgl rfl rfl rfl rfl rfl rfl)) hS (lv_sub hl [0, 1, 2, 3, 4] rfl)
    · refine ca_X12_winning_0 X hK hG hC hS hb hp4 mm hmm wl_9_72 hl.1 (rest := []) rfl (Nat.le_of_ble_eq_true rfl) ⟨Nat.le_of_ble_eq_true rfl, Nat.le_of_ble_eq_true rfl⟩ lwr dL_law_1061 (fun f3 H locs hf3 hG hS => ?_)
      refine lv_pop X.1 X.2.1 dL_law_1064 rfl ?_
      refine lv_goto (tgt := 1349) X.1 X.2.1 dL_law_1065 (by decide) ?_
      refine W.widen (k := cells + 4) (n := slots + 8300) (by omega) (by omega) ?_
      exact kk _ _ _ _ _ _ _ (lwV_next hW hK hG hpin (Nat.le_add_right _ _) (sgMo.rf _ _) (sgInv_of hinv rfl rfl rfl rfl rfl) (sgHx_of hgl rfl rfl rfl rfl rfl rfl)) hS (lv_sub hl [0, 1, 2, 3, 4] rfl)
  · refine ca_X11_winning_0 X hK hG hC hS hb hp1 xx hxx wl_5_183 hl.1 (rest := []) rfl (Nat.le_of_ble_eq_true rfl) ⟨Nat.le_of_ble_eq_true rfl, Nat.le_of_ble_eq_true rfl⟩ lwr1 dL_law_1056 (fun f4 tf4 H locs hvm htf4 hf4 hWf4 hS => ?_)
    obtain ⟨bf4, tys1, ad1, ks1, hmo, hBf4⟩ := hWf4
    have hK := sg_hKb hvm hBf4
    have hG := hBf4.2.2.2
    rw [htf4] at hG
    have ooq := hmo _ _ hoq
    have omm := hmo _ _ hmm
    have oxx := hmo _ _ hxx
    refine lv_pop X.1 X.2.1 dL_law_1059 rfl ?_
    refine lv_aload_n X.1 X.2.1 dL_law_1060 rfl (lv_at hl 2 rfl) ?_
    rcases Bool.eq_false_or_eq_true P.2.2.2.2.1 with hp4 | hp4
    · refine ca_X12_winning_1 X hK hG hC hS hb hp4 hp10 mm omm wl_9_72 hl.1 (rest := []) rfl (Nat.le_of_ble_eq_true rfl) ⟨Nat.le_of_ble_eq_true rfl, Nat.le_of_ble_eq_true rfl⟩ lwr1 dL_law_1061 (fun f5 H locs hf5 hG hS => ?_)
      refine lv_pop X.1 X.2.1 dL_law_1064 rfl ?_
      refine lv_goto (tgt := 1349) X.1 X.2.1 dL_law_1065 (by decide) ?_
      refine W.widen (k := cells + 4) (n := slots + 8300) (by omega) (by omega) ?_
      exact kk _ _ _ _ _ _ _ (lwV_next hW hK hG hpin (Nat.le_add_right _ _) hmo (sgInv_of hinv rfl rfl rfl rfl rfl) (sgHx_of hgl rfl rfl rfl rfl rfl rfl)) hS (lv_sub hl [0, 1, 2, 3, 4] rfl)
    · refine ca_X12_winning_0 X hK hG hC hS hb hp4 mm omm wl_9_72 hl.1 (rest := []) rfl (Nat.le_of_ble_eq_true rfl) ⟨Nat.le_of_ble_eq_true rfl, Nat.le_of_ble_eq_true rfl⟩ lwr1 dL_law_1061 (fun f6 H locs hf6 hG hS => ?_)
      refine lv_pop X.1 X.2.1 dL_law_1064 rfl ?_
      refine lv_goto (tgt := 1349) X.1 X.2.1 dL_law_1065 (by decide) ?_
      refine W.widen (k := cells + 4) (n := slots + 8300) (by omega) (by omega) ?_
      exact kk _ _ _ _ _ _ _ (lwV_next hW hK hG hpin (Nat.le_add_right _ _) hmo (sgInv_of hinv rfl rfl rfl rfl rfl) (sgHx_of hgl rfl rfl rfl rfl rfl rfl)) hS (lv_sub hl [0, 1, 2, 3, 4] rfl)

set_option maxHeartbeats 8000000 in
set_option maxRecDepth 100000 in
theorem law_case_29 {p : Program} {l : Launch} {e : Env} {s : State} {m : MethodId} {below : List Frame} {meth : Method} {c : Code} {b L : Nat} {xs : Nat → Int32} {D : va_G} (C : lwC p l e s m below meth c b L xs) {n : Nat} {P : sgPm} {tys : List (ClassId × FieldType)} {ad ks : List Nat} {xx mm oq : Nat} {H : Heap} {locs : List Loc} (hW : lwV D n P tys ad ks xx mm oq s H) (hS : va_S (fun q : Nat => s.heap.size ≤ q) s.heap H locs) {i : Int32} (hi0 : 0 ≤ i.toInt) (hi6 : i.toInt + 6 ≤ L) (hn : n ≤ 511) {ls : Array Slot} (hl : lv_has ls 7 [(4, .int i), (3, .ref oq), (2, .ref mm), (1, .ref xx), (0, .ref b)]) {cells slots : Nat} (hc : cells + 4 ≤ 601024) (hs : slots + 8300 ≤ 7293034) {Q : State → Prop}
    (kk : ∀ (P1 : sgPm) (tys1 : List (ClassId × FieldType)) (ad1 ks1 : List Nat) (H1 : Heap) (locs1 : List Loc) (ls1 : Array Slot), lwV D (n + 1) P1 tys1 ad1 ks1 xx mm oq s H1 → va_S (fun q : Nat => s.heap.size ≤ q) s.heap H1 locs1 → lv_has ls1 7 [(4, .int i), (3, .ref oq), (2, .ref mm), (1, .ref xx), (0, .ref b)] → W p l e room_1 s m #[.ref b] below meth c H1 locs1 (cells + 4) (slots + 8300) Q (F0 m 1349 ls1 [])) :
    W p l e room_1 s m #[.ref b] below meth c H locs cells slots Q (F0 m 1068 ls []) := by
  obtain ⟨X, hC, hX, hbl, hL⟩ := C
  obtain ⟨hK, hG, hxx, hmm, hoq, hpin, hN0, hinv, hgl⟩ := id hW
  have hp10 := hpin
  have hb : s.heap.size ≤ s.heap.size := Nat.le_refl _
  have hbA : ¬ (fun q : Nat => s.heap.size ≤ q) b := Nat.not_le.mpr hbl
  have lwr : cells ≤ room_1.cells ∧ slots ≤ room_1.slots := ⟨by show cells ≤ 601024; omega, by show slots ≤ 7293034; omega⟩
  have lwr1 : cells + 1 ≤ room_1.cells ∧ slots + 8256 ≤ room_1.slots := ⟨by show cells + 1 ≤ 601024; omega, by show slots + 8256 ≤ 7293034; omega⟩
  have lwr2 : cells + 1 ≤ room_1.cells ∧ slots + 4096 ≤ room_1.slots := ⟨by show cells + 1 ≤ 601024; omega, by show slots + 4096 ≤ 7293034; omega⟩
  have hgi := hgl.1.1
  have hgg := hgl.2.1
  have hpk := hm_pk hgl.2
  have hl0 := sgInv_l1 hinv
  have hby := sgInv_b1 hinv
  refine lv_aload_n X.1 X.2.1 dL_law_1068 rfl (lv_at hl 3 rfl) ?_
  rcases Bool.eq_false_or_eq_true P.2.2.1 with hp2 | hp2
  · refine ca_X11_fewest_1 X hK hG hC hS hb hp2 xx hxx wl_5_200 hl.1 (rest := []) rfl (Nat.le_of_ble_eq_true rfl) ⟨Nat.le_of_ble_eq_true rfl, Nat.le_of_ble_eq_true rfl⟩ lwr dL_law_1069 (fun f1 H locs hf1 hG hS => ?_)
    refine lv_pop X.1 X.2.1 dL_law_1072 rfl ?_
    refine lv_aload_n X.1 X.2.1 dL_law_1073 rfl (lv_at hl 2 rfl) ?_
    rcases Bool.eq_false_or_eq_true P.2.2.2.2.1 with hp4 | hp4
    · refine ca_X12_fewest_1 X hK hG hC hS hb hp4 hp10 mm hmm wl_9_80 hl.1 (rest := []) rfl (Nat.le_of_ble_eq_true rfl) ⟨Nat.le_of_ble_eq_true rfl, Nat.le_of_ble_eq_true rfl⟩ lwr dL_law_1074 (fun f2 H locs hf2 hG hS => ?_)
      refine lv_pop X.1 X.2.1 dL_law_1077 rfl ?_
      refine lv_goto (tgt := 1349) X.1 X.2.1 dL_law_1078 (by decide) ?_
      refine W.widen (k := cells + 4) (n := slots + 8300) (by omega) (by omega) ?_
      exact kk _ _ _ _ _ _ _ (lwV_next hW hK hG hpin (Nat.le_add_right _ _) (sgMo.rf _ _) hinv hgl) hS (lv_sub hl [0, 1, 2, 3, 4] rfl)
    · refine ca_X12_fewest_0 X hK hG hC hS hb hp4 mm hmm wl_9_80 hl.1 (rest := []) rfl (Nat.le_of_ble_eq_true rfl) ⟨Nat.le_of_ble_eq_true rfl, Nat.le_of_ble_eq_true rfl⟩ lwr dL_law_1074 (fun f3 H locs hf3 hG hS => ?_)
      refine lv_pop X.1 X.2.1 dL_law_1077 rfl ?_
      refine lv_goto (tgt := 1349) X.1 X.2.1 dL_law_1078 (by decide) ?_
      refine W.widen (k := cells + 4) (n := slots + 8300) (by omega) (by omega) ?_
      exact kk _ _ _ _ _ _ _ (lwV_next hW hK hG hpin (Nat.le_add_right _ _) (sgMo.rf _ _) hinv hgl) hS (lv_sub hl [0, 1, 2, 3, 4] rfl)
  · refine ca_X11_fewest_0 X hK hG hC hS hb hp2 xx hxx wl_5_200 hl.1 (rest := []) rfl (Nat.le_of_ble_eq_true rfl) ⟨Nat.le_of_ble_eq_true rfl, Nat.le_of_ble_eq_true rfl⟩ lwr2 dL_law_1069 (fun f4 tf4 H locs hvm htf4 hf4 hWf4 hS => ?_)
    obtain ⟨bf4, tys1, ad1, ks1, hmo, hBf4⟩ := hWf4
    have hK := sg_hKb hvm hBf4
    have hG := hBf4.2.2.2
    rw [htf4] at hG
    have ooq := hmo _ _ hoq
    have omm := hmo _ _ hmm
    have oxx := hmo _ _ hxx
    refine lv_pop X.1 X.2.1 dL_law_1072 rfl ?_
    refine lv_aload_n X.1 X.2.1 dL_law_1073 rfl (lv_at hl 2 rfl) ?_
    rcases Bool.eq_false_or_eq_true P.2.2.2.2.1 with hp4 | hp4
    · refine ca_X12_fewest_1 X hK hG hC hS hb hp4 hp10 mm omm wl_9_80 hl.1 (rest := []) rfl (Nat.le_of_ble_eq_true rfl) ⟨Nat.le_of_ble_eq_true rfl, Nat.le_of_ble_eq_true rfl⟩ lwr2 dL_law_1074 (fun f5 H locs hf5 hG hS => ?_)
      refine lv_pop X.1 X.2.1 dL_law_1077 rfl ?_
      refine lv_goto (tgt := 1349) X.1 X.2.1 dL_law_1078 (by decide) ?_
      refine W.widen (k := cells + 4) (n := slots + 8300) (by omega) (by omega) ?_
      exact kk _ _ _ _ _ _ _ (lwV_next hW hK hG hpin (Nat.le_add_right _ _) hmo (sgInv_of hinv rfl rfl rfl rfl rfl) (sgHx_of hgl rfl rfl rfl rfl rfl rfl)) hS (lv_sub hl [0, 1, 2, 3, 4] rfl)
    · refine ca_X12_fewest_0 X hK hG hC hS hb hp4 mm omm wl_9_80 hl.1 (rest := []) rfl (Nat.le_of_ble_eq_true rfl) ⟨Nat.le_of_ble_eq_true rfl, Nat.le_of_ble_eq_true rfl⟩ lwr2 dL_law_1074 (fun f6 H locs hf6 hG hS => ?_)
      refine lv_pop X.1 X.2.1 dL_law_1077 rfl ?_
      refine lv_goto (tgt := 1349) X.1 X.2.1 dL_law_1078 (by decide) ?_
      refine W.widen (k := cells + 4) (n := slots + 8300) (by omega) (by omega) ?_
      exact kk _ _ _ _ _ _ _ (lwV_next hW hK hG hpin (Nat.le_add_right _ _) hmo (sgInv_of hinv rfl rfl rfl rfl rfl) (sgHx_of hgl rfl rfl rfl rfl rfl rfl)) hS (lv_sub hl [0, 1, 2, 3, 4] rfl)

set_option maxHeartbeats 8000000 in
set_option maxRecDepth 100000 in
theorem law_case_30 {p : Program} {l : Launch} {e : Env} {s : State} {m : MethodId} {below : List Frame} {meth : Method} {c : Code} {b L : Nat} {xs : Nat → Int32} {D : va_G} (C : lwC p l e s m below meth c b L xs) {n : Nat} {P : sgPm} {tys : List (ClassId × FieldType)} {ad ks : List Nat} {xx mm oq : Nat} {H : Heap} {locs : List Loc} (hW : lwV D n P tys ad ks xx mm oq s H) (hS : va_S (fun q : Nat => s.heap.size ≤ q) s.heap H locs) {i : Int32} (hi0 : 0 ≤ i.toInt) (hi6 : i.toInt + 6 ≤ L) (hn : n ≤ 511) {ls : Array Slot} (hl : lv_has ls 7 [(4, .int i), (3, .ref oq), (2, .ref mm), (1, .ref xx), (0, .ref b)]) {cells slots : Nat} (hc : cells + 4 ≤ 601024) (hs : slots + 8300 ≤ 7293034) {Q : State → Prop}
    (kk : ∀ (P1 : sgPm) (tys1 : List (ClassId × FieldType)) (ad1 ks1 : List Nat) (H1 : Heap) (locs1 : List Loc) (ls1 : Array Slot), lwV D (n + 1) P1 tys1 ad1 ks1 xx mm oq s H1 → va_S (fun q : Nat => s.heap.size ≤ q) s.heap H1 locs1 → lv_has ls1 7 [(4, .int i), (3, .ref oq), (2, .ref mm), (1, .ref xx), (0, .ref b)] → W p l e room_1 s m #[.ref b] below meth c H1 locs1 (cells + 4) (slots + 8300) Q (F0 m 1349 ls1 [])) :
    W p l e room_1 s m #[.ref b] below meth c H locs cells slots Q (F0 m 1081 ls []) := by
  obtain ⟨X, hC, hX, hbl, hL⟩ := C
  obtain ⟨hK, hG, hxx, hmm, hoq, hpin, hN0, hinv, hgl⟩ := id hW
  have hp10 := hpin
  have hb : s.heap.size ≤ s.heap.size := Nat.le_refl _
  have hbA : ¬ (fun q : Nat => s.heap.size ≤ q) b := Nat.not_le.mpr hbl
  have lwr : cells ≤ room_1.cells ∧ slots ≤ room_1.slots := ⟨by show cells ≤ 601024; omega, by show slots ≤ 7293034; omega⟩
  have lwr1 : cells + 1 ≤ room_1.cells ∧ slots + 8256 ≤ room_1.slots := ⟨by show cells + 1 ≤ 601024; omega, by show slots + 8256 ≤ 7293034; omega⟩
  have lwr2 : cells + 1 ≤ room_1.cells ∧ slots + 4096 ≤ room_1.slots := ⟨by show cells + 1 ≤ 601024; omega, by show slots + 4096 ≤ 7293034; omega⟩
  have hgi := hgl.1.1
  have hgg := hgl.2.1
  have hpk := hm_pk hgl.2
  have hl0 := sgInv_l1 hinv
  have hby := sgInv_b1 hinv
  refine lv_aload_n X.1 X.2.1 dL_law_1081 rfl (lv_at hl 3 rfl) ?_
  refine lv_aload_n X.1 X.2.1 dL_law_1082 rfl (lv_at hl 4 rfl) ?_
  refine lv_iload X.1 X.2.1 dL_law_1083 (lv_at hl 0 rfl) ?_
  refine lv_iconst (v := 1) X.1 X.2.1 dL_law_1085 (by decide +kernel) ?_
  refine lv_iadd X.1 X.2.1 dL_law_1086 ?_
  refine lv_topi (fun f1 ef1 => ?_)
  refine va_sld (i := f1) X.1 X.2.1 hX hbl hbA hS (lw_ix ef1 hi0 hi6 hL (by decide +kernel)) dL_law_1087 ?_
  refine lv_aload_n X.1 X.2.1 dL_law_1088 rfl (lv_at hl 4 rfl) ?_
  refine lv_iload X.1 X.2.1 dL_law_1089 (lv_at hl 0 rfl) ?_
  refine lv_iconst (v := 2) X.1 X.2.1 dL_law_1091 (by decide +kernel) ?_
  refine lv_iadd X.1 X.2.1 dL_law_1092 ?_
  refine lv_topi (fun f3 ef3 => ?_)
  refine va_sld (i := f3) X.1 X.2.1 hX hbl hbA hS (lw_ix ef3 hi0 hi6 hL (by decide +kernel)) dL_law_1093 ?_
  refine lv_if_eq (tgt := 1101) X.1 X.2.1 dL_law_1094 (by decide) (fun c5 => ?_) (fun c5 => ?_)
  · refine lv_iconst (v := 0) X.1 X.2.1 dL_law_1101 (by decide +kernel) ?_
    refine ca_X11_book X hK hG hC hS hb xx hxx (xs f1.toNatClampNeg) 0 (iv_of (iv_c 0 (a := 0) (b := 0) (by decide +kernel)) (a' := 0) (b' := 1) (by decide +kernel)) wl_5_213 hl.1 (rest := []) rfl (Nat.le_of_ble_eq_true rfl) ⟨Nat.le_of_ble_eq_true rfl, Nat.le_of_ble_eq_true rfl⟩ lwr dL_law_1102 (fun f6 H locs hf6 hG hS => ?_)
    refine lv_pop X.1 X.2.1 dL_law_1105 rfl ?_
    refine lv_aload_n X.1 X.2.1 dL_law_1106 rfl (lv_at hl 2 rfl) ?_
    refine lv_aload_n X.1 X.2.1 dL_law_1107 rfl (lv_at hl 4 rfl) ?_
    refine lv_iload X.1 X.2.1 dL_law_1108 (lv_at hl 0 rfl) ?_
    refine lv_iconst (v := 1) X.1 X.2.1 dL_law_1110 (by decide +kernel) ?_
    refine lv_iadd X.1 X.2.1 dL_law_1111 ?_
    refine lv_topi (fun f7 ef7 => ?_)
    refine va_sld (i := f7) X.1 X.2.1 hX hbl hbA hS (lw_ix ef7 hi0 hi6 hL (by decide +kernel)) dL_law_1112 ?_
    refine lv_aload_n X.1 X.2.1 dL_law_1113 rfl (lv_at hl 4 rfl) ?_
    refine lv_iload X.1 X.2.1 dL_law_1114 (lv_at hl 0 rfl) ?_
    refine lv_iconst (v := 2) X.1 X.2.1 dL_law_1116 (by decide +kernel) ?_
    refine lv_iadd X.1 X.2.1 dL_law_1117 ?_
    refine lv_topi (fun f9 ef9 => ?_)
    refine va_sld (i := f9) X.1 X.2.1 hX hbl hbA hS (lw_ix ef9 hi0 hi6 hL (by decide +kernel)) dL_law_1118 ?_
    refine lv_if_eq (tgt := 1126) X.1 X.2.1 dL_law_1119 (by decide) (fun c11 => ?_) (fun c11 => ?_)
    · refine lv_iconst (v := 0) X.1 X.2.1 dL_law_1126 (by decide +kernel) ?_
      rcases Bool.eq_false_or_eq_true P.2.2.2.2.1 with hp4 | hp4
      · refine ca_X12_book_1 X hK hG hC hS hb hp4 mm hmm (xs f7.toNatClampNeg) 0 (iv_of (iv_c 0 (a := 0) (b := 0) (by decide +kernel)) (a' := 0) (b' := 1) (by decide +kernel)) wl_9_84 hl.1 (rest := []) rfl (Nat.le_of_ble_eq_true rfl) ⟨Nat.le_of_ble_eq_true rfl, Nat.le_of_ble_eq_true rfl⟩ lwr dL_law_1127 (fun f12 H locs hf12 hG hS => ?_)
        refine lv_pop X.1 X.2.1 dL_law_1130 rfl ?_
        refine lv_goto (tgt := 1349) X.1 X.2.1 dL_law_1131 (by decide) ?_
        refine W.widen (k := cells + 4) (n := slots + 8300) (by omega) (by omega) ?_
        exact kk _ _ _ _ _ _ _ (lwV_next hW hK hG hpin (Nat.le_add_right _ _) (sgMo.rf _ _) hinv hgl) hS (lv_sub hl [0, 1, 2, 3, 4] rfl)
      · refine ca_X12_book_0 X hK hG hC hS hb hp4 mm hmm (xs f7.toNatClampNeg) 0 (iv_of (iv_c 0 (a := 0) (b := 0) (by decide +kernel)) (a' := 0) (b' := 1) (by decide +kernel)) wl_9_84 hl.1 (rest := []) rfl (Nat.le_of_ble_eq_true rfl) ⟨Nat.le_of_ble_eq_true rfl, Nat.le_of_ble_eq_true rfl⟩ lwr dL_law_1127 (fun f13 H locs hf13 hG hS => ?_)
        refine lv_pop X.1 X.2.1 dL_law_1130 rfl ?_
        refine lv_goto (tgt := 1349) X.1 X.2.1 dL_law_1131 (by decide) ?_
        refine W.widen (k := cells + 4) (n := slots + 8300) (by omega) (by omega) ?_
        exact kk _ _ _ _ _ _ _ (lwV_next hW hK hG hpin (Nat.le_add_right _ _) (sgMo.rf _ _) hinv hgl) hS (lv_sub hl [0, 1, 2, 3, 4] rfl)
    · refine lv_iconst (v := 1) X.1 X.2.1 dL_law_1122 (by decide +kernel) ?_
      refine lv_goto (tgt := 1127) X.1 X.2.1 dL_law_1123 (by decide) ?_
      rcases Bool.eq_false_or_eq_true P.2.2.2.2.1 with hp4 | hp4
      · refine ca_X12_book_1 X hK hG hC hS hb hp4 mm hmm (xs f7.toNatClampNeg) 1 (iv_of (iv_c 1 (a := 1) (b := 1) (by decide +kernel)) (a' := 0) (b' := 1) (by decide +kernel)) wl_9_84 hl.1 (rest := []) rfl (Nat.le_of_ble_eq_true rfl) ⟨Nat.le_of_ble_eq_true rfl, Nat.le_of_ble_eq_true rfl⟩ lwr dL_law_1127 (fun f14 H locs hf14 hG hS => ?_)
        refine lv_pop X.1 X.2.1 dL_law_1130 rfl ?_
        refine lv_goto (tgt := 1349) X.1 X.2.1 dL_law_1131 (by decide) ?_
        refine W.widen (k := cells + 4) (n := slots + 8300) (by omega) (by omega) ?_
        exact kk _ _ _ _ _ _ _ (lwV_next hW hK hG hpin (Nat.le_add_right _ _) (sgMo.rf _ _) hinv hgl) hS (lv_sub hl [0, 1, 2, 3, 4] rfl)
      · refine ca_X12_book_0 X hK hG hC hS hb hp4 mm hmm (xs f7.toNatClampNeg) 1 (iv_of (iv_c 1 (a := 1) (b := 1) (by decide +kernel)) (a' := 0) (b' := 1) (by decide +kernel)) wl_9_84 hl.1 (rest := []) rfl (Nat.le_of_ble_eq_true rfl) ⟨Nat.le_of_ble_eq_true rfl, Nat.le_of_ble_eq_true rfl⟩ lwr dL_law_1127 (fun f15 H locs hf15 hG hS => ?_)
        refine lv_pop X.1 X.2.1 dL_law_1130 rfl ?_
        refine lv_goto (tgt := 1349) X.1 X.2.1 dL_law_1131 (by decide) ?_
        refine W.widen (k := cells + 4) (n := slots + 8300) (by omega) (by omega) ?_
        exact kk _ _ _ _ _ _ _ (lwV_next hW hK hG hpin (Nat.le_add_right _ _) (sgMo.rf _ _) hinv hgl) hS (lv_sub hl [0, 1, 2, 3, 4] rfl)
  · refine lv_iconst (v := 1) X.1 X.2.1 dL_law_1097 (by decide +kernel) ?_
    refine lv_goto (tgt := 1102) X.1 X.2.1 dL_law_1098 (by decide) ?_
    refine ca_X11_book X hK hG hC hS hb xx hxx (xs f1.toNatClampNeg) 1 (iv_of (iv_c 1 (a := 1) (b := 1) (by decide +kernel)) (a' := 0) (b' := 1) (by decide +kernel)) wl_5_213 hl.1 (rest := []) rfl (Nat.le_of_ble_eq_true rfl) ⟨Nat.le_of_ble_eq_true rfl, Nat.le_of_ble_eq_true rfl⟩ lwr dL_law_1102 (fun f16 H locs hf16 hG hS => ?_)
    refine lv_pop X.1 X.2.1 dL_law_1105 rfl ?_
    refine lv_aload_n X.1 X.2.1 dL_law_1106 rfl (lv_at hl 2 rfl) ?_
    refine lv_aload_n X.1 X.2.1 dL_law_1107 rfl (lv_at hl 4 rfl) ?_
    refine lv_iload X.1 X.2.1 dL_law_1108 (lv_at hl 0 rfl) ?_
    refine lv_iconst (v := 1) X.1 X.2.1 dL_law_1110 (by decide +kernel) ?_
    refine lv_iadd X.1 X.2.1 dL_law_1111 ?_
    refine lv_topi (fun f17 ef17 => ?_)
    refine va_sld (i := f17) X.1 X.2.1 hX hbl hbA hS (lw_ix ef17 hi0 hi6 hL (by decide +kernel)) dL_law_1112 ?_
    refine lv_aload_n X.1 X.2.1 dL_law_1113 rfl (lv_at hl 4 rfl) ?_
    refine lv_iload X.1 X.2.1 dL_law_1114 (lv_at hl 0 rfl) ?_
    refine lv_iconst (v := 2) X.1 X.2.1 dL_law_1116 (by decide +kernel) ?_
    refine lv_iadd X.1 X.2.1 dL_law_1117 ?_
    refine lv_topi (fun f19 ef19 => ?_)
    refine va_sld (i := f19) X.1 X.2.1 hX hbl hbA hS (lw_ix ef19 hi0 hi6 hL (by decide +kernel)) dL_law_1118 ?_
    refine lv_if_eq (tgt := 1126) X.1 X.2.1 dL_law_1119 (by decide) (fun c21 => ?_) (fun c21 => ?_)
    · refine lv_iconst (v := 0) X.1 X.2.1 dL_law_1126 (by decide +kernel) ?_
      rcases Bool.eq_false_or_eq_true P.2.2.2.2.1 with hp4 | hp4
      · refine ca_X12_book_1 X hK hG hC hS hb hp4 mm hmm (xs f17.toNatClampNeg) 0 (iv_of (iv_c 0 (a := 0) (b := 0) (by decide +kernel)) (a' := 0) (b' := 1) (by decide +kernel)) wl_9_84 hl.1 (rest := []) rfl (Nat.le_of_ble_eq_true rfl) ⟨Nat.le_of_ble_eq_true rfl, Nat.le_of_ble_eq_true rfl⟩ lwr dL_law_1127 (fun f22 H locs hf22 hG hS => ?_)
        refine lv_pop X.1 X.2.1 dL_law_1130 rfl ?_
        refine lv_goto (tgt := 1349) X.1 X.2.1 dL_law_1131 (by decide) ?_
        refine W.widen (k := cells + 4) (n := slots + 8300) (by omega) (by omega) ?_
        exact kk _ _ _ _ _ _ _ (lwV_next hW hK hG hpin (Nat.le_add_right _ _) (sgMo.rf _ _) hinv hgl) hS (lv_sub hl [0, 1, 2, 3, 4] rfl)
      · refine ca_X12_book_0 X hK hG hC hS hb hp4 mm hmm (xs f17.toNatClampNeg) 0 (iv_of (iv_c 0 (a := 0) (b := 0) (by decide +kernel)) (a' := 0) (b' := 1) (by decide +kernel)) wl_9_84 hl.1 (rest := []) rfl (Nat.le_of_ble_eq_true rfl) ⟨Nat.le_of_ble_eq_true rfl, Nat.le_of_ble_eq_true rfl⟩ lwr dL_law_1127 (fun f23 H locs hf23 hG hS => ?_)
        refine lv_pop X.1 X.2.1 dL_law_1130 rfl ?_
        refine lv_goto (tgt := 1349) X.1 X.2.1 dL_law_1131 (by decide) ?_
        refine W.widen (k := cells + 4) (n := slots + 8300) (by omega) (by omega) ?_
        exact kk _ _ _ _ _ _ _ (lwV_next hW hK hG hpin (Nat.le_add_right _ _) (sgMo.rf _ _) hinv hgl) hS (lv_sub hl [0, 1, 2, 3, 4] rfl)
    · refine lv_iconst (v := 1) X.1 X.2.1 dL_law_1122 (by decide +kernel) ?_
      refine lv_goto (tgt := 1127) X.1 X.2.1 dL_law_1123 (by decide) ?_
      rcases Bool.eq_false_or_eq_true P.2.2.2.2.1 with hp4 | hp4
      · refine ca_X12_book_1 X hK hG hC hS hb hp4 mm hmm (xs f17.toNatClampNeg) 1 (iv_of (iv_c 1 (a := 1) (b := 1) (by decide +kernel)) (a' := 0) (b' := 1) (by decide +kernel)) wl_9_84 hl.1 (rest := []) rfl (Nat.le_of_ble_eq_true rfl) ⟨Nat.le_of_ble_eq_true rfl, Nat.le_of_ble_eq_true rfl⟩ lwr dL_law_1127 (fun f24 H locs hf24 hG hS => ?_)
        refine lv_pop X.1 X.2.1 dL_law_1130 rfl ?_
        refine lv_goto (tgt := 1349) X.1 X.2.1 dL_law_1131 (by decide) ?_
        refine W.widen (k := cells + 4) (n := slots + 8300) (by omega) (by omega) ?_
        exact kk _ _ _ _ _ _ _ (lwV_next hW hK hG hpin (Nat.le_add_right _ _) (sgMo.rf _ _) hinv hgl) hS (lv_sub hl [0, 1, 2, 3, 4] rfl)
      · refine ca_X12_book_0 X hK hG hC hS hb hp4 mm hmm (xs f17.toNatClampNeg) 1 (iv_of (iv_c 1 (a := 1) (b := 1) (by decide +kernel)) (a' := 0) (b' := 1) (by decide +kernel)) wl_9_84 hl.1 (rest := []) rfl (Nat.le_of_ble_eq_true rfl) ⟨Nat.le_of_ble_eq_true rfl, Nat.le_of_ble_eq_true rfl⟩ lwr dL_law_1127 (fun f25 H locs hf25 hG hS => ?_)
        refine lv_pop X.1 X.2.1 dL_law_1130 rfl ?_
        refine lv_goto (tgt := 1349) X.1 X.2.1 dL_law_1131 (by decide) ?_
        refine W.widen (k := cells + 4) (n := slots + 8300) (by omega) (by omega) ?_
        exact kk _ _ _ _ _ _ _ (lwV_next hW hK hG hpin (Nat.le_add_right _ _) (sgMo.rf _ _) hinv hgl) hS (lv_sub hl [0, 1, 2, 3, 4] rfl)
end
