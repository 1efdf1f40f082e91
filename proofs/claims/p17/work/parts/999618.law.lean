theorem dL_law_1134 : decode cL_law 1134 = .ok (.aload_n 1, 1) := by decide +kernel
theorem dL_law_1135 : decode cL_law 1135 = .ok (.aload_n 0, 1) := by decide +kernel
theorem dL_law_1136 : decode cL_law 1136 = .ok (.iload 4, 2) := by decide +kernel
theorem dL_law_1138 : decode cL_law 1138 = .ok (.iconst 1, 1) := by decide +kernel
theorem dL_law_1139 : decode cL_law 1139 = .ok (.iadd, 1) := by decide +kernel
theorem dL_law_1140 : decode cL_law 1140 = .ok (.iaload, 1) := by decide +kernel
theorem dL_law_1141 : decode cL_law 1141 = .ok (.invokevirtual 154, 3) := by decide +kernel
theorem dL_law_1144 : decode cL_law 1144 = .ok (.pop, 1) := by decide +kernel
theorem dL_law_1145 : decode cL_law 1145 = .ok (.aload_n 2, 1) := by decide +kernel
theorem dL_law_1146 : decode cL_law 1146 = .ok (.aload_n 0, 1) := by decide +kernel
theorem dL_law_1147 : decode cL_law 1147 = .ok (.iload 4, 2) := by decide +kernel
theorem dL_law_1149 : decode cL_law 1149 = .ok (.iconst 1, 1) := by decide +kernel
theorem dL_law_1150 : decode cL_law 1150 = .ok (.iadd, 1) := by decide +kernel
theorem dL_law_1151 : decode cL_law 1151 = .ok (.iaload, 1) := by decide +kernel
theorem dL_law_1152 : decode cL_law 1152 = .ok (.invokevirtual 157, 3) := by decide +kernel
theorem dL_law_1155 : decode cL_law 1155 = .ok (.pop, 1) := by decide +kernel
theorem dL_law_1156 : decode cL_law 1156 = .ok (.goto 193, 3) := by decide +kernel
theorem dL_law_1159 : decode cL_law 1159 = .ok (.aload_n 1, 1) := by decide +kernel
theorem dL_law_1160 : decode cL_law 1160 = .ok (.invokevirtual 158, 3) := by decide +kernel
theorem dL_law_1163 : decode cL_law 1163 = .ok (.pop, 1) := by decide +kernel
theorem dL_law_1164 : decode cL_law 1164 = .ok (.aload_n 2, 1) := by decide +kernel
theorem dL_law_1165 : decode cL_law 1165 = .ok (.invokevirtual 161, 3) := by decide +kernel
theorem dL_law_1168 : decode cL_law 1168 = .ok (.pop, 1) := by decide +kernel
theorem dL_law_1169 : decode cL_law 1169 = .ok (.goto 180, 3) := by decide +kernel
theorem dL_law_1172 : decode cL_law 1172 = .ok (.aload_n 1, 1) := by decide +kernel
theorem dL_law_1173 : decode cL_law 1173 = .ok (.aload_n 0, 1) := by decide +kernel
theorem dL_law_1174 : decode cL_law 1174 = .ok (.iload 4, 2) := by decide +kernel
theorem dL_law_1176 : decode cL_law 1176 = .ok (.iconst 1, 1) := by decide +kernel
theorem dL_law_1177 : decode cL_law 1177 = .ok (.iadd, 1) := by decide +kernel
theorem dL_law_1178 : decode cL_law 1178 = .ok (.iaload, 1) := by decide +kernel
theorem dL_law_1179 : decode cL_law 1179 = .ok (.invokevirtual 162, 3) := by decide +kernel
theorem dL_law_1182 : decode cL_law 1182 = .ok (.pop, 1) := by decide +kernel
theorem dL_law_1183 : decode cL_law 1183 = .ok (.aload_n 2, 1) := by decide +kernel
theorem dL_law_1184 : decode cL_law 1184 = .ok (.aload_n 0, 1) := by decide +kernel
theorem dL_law_1185 : decode cL_law 1185 = .ok (.iload 4, 2) := by decide +kernel
theorem dL_law_1187 : decode cL_law 1187 = .ok (.iconst 1, 1) := by decide +kernel
theorem dL_law_1188 : decode cL_law 1188 = .ok (.iadd, 1) := by decide +kernel
theorem dL_law_1189 : decode cL_law 1189 = .ok (.iaload, 1) := by decide +kernel
theorem dL_law_1190 : decode cL_law 1190 = .ok (.invokevirtual 165, 3) := by decide +kernel
theorem dL_law_1193 : decode cL_law 1193 = .ok (.pop, 1) := by decide +kernel
theorem dL_law_1194 : decode cL_law 1194 = .ok (.goto 155, 3) := by decide +kernel
theorem dL_law_1197 : decode cL_law 1197 = .ok (.aload_n 1, 1) := by decide +kernel
theorem dL_law_1198 : decode cL_law 1198 = .ok (.invokevirtual 166, 3) := by decide +kernel
theorem dL_law_1201 : decode cL_law 1201 = .ok (.pop, 1) := by decide +kernel
theorem dL_law_1202 : decode cL_law 1202 = .ok (.aload_n 2, 1) := by decide +kernel
theorem dL_law_1203 : decode cL_law 1203 = .ok (.invokevirtual 169, 3) := by decide +kernel
theorem dL_law_1206 : decode cL_law 1206 = .ok (.pop, 1) := by decide +kernel
theorem dL_law_1207 : decode cL_law 1207 = .ok (.goto 142, 3) := by decide +kernel
theorem dL_law_1210 : decode cL_law 1210 = .ok (.aload_n 1, 1) := by decide +kernel
theorem dL_law_1211 : decode cL_law 1211 = .ok (.aload_n 0, 1) := by decide +kernel
theorem dL_law_1212 : decode cL_law 1212 = .ok (.iload 4, 2) := by decide +kernel
theorem dL_law_1214 : decode cL_law 1214 = .ok (.iconst 1, 1) := by decide +kernel
theorem dL_law_1215 : decode cL_law 1215 = .ok (.iadd, 1) := by decide +kernel
theorem dL_law_1216 : decode cL_law 1216 = .ok (.iaload, 1) := by decide +kernel
theorem dL_law_1217 : decode cL_law 1217 = .ok (.aload_n 0, 1) := by decide +kernel
theorem dL_law_1218 : decode cL_law 1218 = .ok (.iload 4, 2) := by decide +kernel
theorem dL_law_1220 : decode cL_law 1220 = .ok (.iconst 2, 1) := by decide +kernel
theorem dL_law_1221 : decode cL_law 1221 = .ok (.iadd, 1) := by decide +kernel
theorem dL_law_1222 : decode cL_law 1222 = .ok (.iaload, 1) := by decide +kernel
theorem dL_law_1223 : decode cL_law 1223 = .ok (.invokevirtual 170, 3) := by decide +kernel
theorem dL_law_1226 : decode cL_law 1226 = .ok (.pop, 1) := by decide +kernel
theorem dL_law_1227 : decode cL_law 1227 = .ok (.aload_n 2, 1) := by decide +kernel
theorem dL_law_1228 : decode cL_law 1228 = .ok (.aload_n 0, 1) := by decide +kernel
theorem dL_law_1229 : decode cL_law 1229 = .ok (.iload 4, 2) := by decide +kernel
theorem dL_law_1231 : decode cL_law 1231 = .ok (.iconst 1, 1) := by decide +kernel
theorem dL_law_1232 : decode cL_law 1232 = .ok (.iadd, 1) := by decide +kernel
theorem dL_law_1233 : decode cL_law 1233 = .ok (.iaload, 1) := by decide +kernel
theorem dL_law_1234 : decode cL_law 1234 = .ok (.aload_n 0, 1) := by decide +kernel
theorem dL_law_1235 : decode cL_law 1235 = .ok (.iload 4, 2) := by decide +kernel
theorem dL_law_1237 : decode cL_law 1237 = .ok (.iconst 2, 1) := by decide +kernel
theorem dL_law_1238 : decode cL_law 1238 = .ok (.iadd, 1) := by decide +kernel
theorem dL_law_1239 : decode cL_law 1239 = .ok (.iaload, 1) := by decide +kernel
theorem dL_law_1240 : decode cL_law 1240 = .ok (.invokevirtual 173, 3) := by decide +kernel
theorem dL_law_1243 : decode cL_law 1243 = .ok (.pop, 1) := by decide +kernel
theorem dL_law_1244 : decode cL_law 1244 = .ok (.goto 105, 3) := by decide +kernel
theorem dL_law_1247 : decode cL_law 1247 = .ok (.aload_n 1, 1) := by decide +kernel
theorem dL_law_1248 : decode cL_law 1248 = .ok (.aload_n 0, 1) := by decide +kernel
theorem dL_law_1249 : decode cL_law 1249 = .ok (.iload 4, 2) := by decide +kernel
theorem dL_law_1251 : decode cL_law 1251 = .ok (.iconst 1, 1) := by decide +kernel
theorem dL_law_1252 : decode cL_law 1252 = .ok (.iadd, 1) := by decide +kernel
theorem dL_law_1253 : decode cL_law 1253 = .ok (.iaload, 1) := by decide +kernel
theorem dL_law_1254 : decode cL_law 1254 = .ok (.invokevirtual 174, 3) := by decide +kernel
theorem dL_law_1257 : decode cL_law 1257 = .ok (.pop, 1) := by decide +kernel
theorem dL_law_1258 : decode cL_law 1258 = .ok (.aload_n 2, 1) := by decide +kernel
theorem dL_law_1259 : decode cL_law 1259 = .ok (.aload_n 0, 1) := by decide +kernel
theorem dL_law_1260 : decode cL_law 1260 = .ok (.iload 4, 2) := by decide +kernel
theorem dL_law_1262 : decode cL_law 1262 = .ok (.iconst 1, 1) := by decide +kernel
theorem dL_law_1263 : decode cL_law 1263 = .ok (.iadd, 1) := by decide +kernel
theorem dL_law_1264 : decode cL_law 1264 = .ok (.iaload, 1) := by decide +kernel
theorem dL_law_1265 : decode cL_law 1265 = .ok (.invokevirtual 177, 3) := by decide +kernel
theorem dL_law_1268 : decode cL_law 1268 = .ok (.pop, 1) := by decide +kernel
theorem dL_law_1269 : decode cL_law 1269 = .ok (.goto 80, 3) := by decide +kernel
theorem wl_5_230 : (.methodLink RL 154 yX11_fit : Cond) ∈ sg_tbl := tb_5 _ (List.mem_of_getElem? (i := 230) (by decide +kernel)) (by decide +kernel)
theorem wl_9_92 : (.methodLink RL 157 yX12_fit : Cond) ∈ sg_tbl := tb_9 _ (List.mem_of_getElem? (i := 92) (by decide +kernel)) (by decide +kernel)
theorem wl_6_2 : (.methodLink RL 158 yX11_tells : Cond) ∈ sg_tbl := tb_6 _ (List.mem_of_getElem? (i := 2) (by decide +kernel)) (by decide +kernel)
theorem wl_9_100 : (.methodLink RL 161 yX12_tells : Cond) ∈ sg_tbl := tb_9 _ (List.mem_of_getElem? (i := 100) (by decide +kernel)) (by decide +kernel)
theorem wl_6_13 : (.methodLink RL 162 yX11_alike : Cond) ∈ sg_tbl := tb_6 _ (List.mem_of_getElem? (i := 13) (by decide +kernel)) (by decide +kernel)
theorem wl_9_104 : (.methodLink RL 165 yX12_alike : Cond) ∈ sg_tbl := tb_9 _ (List.mem_of_getElem? (i := 104) (by decide +kernel)) (by decide +kernel)
theorem wl_6_30 : (.methodLink RL 166 yX11_openings : Cond) ∈ sg_tbl := tb_6 _ (List.mem_of_getElem? (i := 30) (by decide +kernel)) (by decide +kernel)
theorem wl_9_120 : (.methodLink RL 169 yX12_openings : Cond) ∈ sg_tbl := tb_9 _ (List.mem_of_getElem? (i := 120) (by decide +kernel)) (by decide +kernel)
theorem wl_6_42 : (.methodLink RL 170 yX11_odds : Cond) ∈ sg_tbl := tb_6 _ (List.mem_of_getElem? (i := 42) (by decide +kernel)) (by decide +kernel)
theorem wl_9_124 : (.methodLink RL 173 yX12_odds : Cond) ∈ sg_tbl := tb_9 _ (List.mem_of_getElem? (i := 124) (by decide +kernel)) (by decide +kernel)
theorem wl_6_58 : (.methodLink RL 174 yX11_where : Cond) ∈ sg_tbl := tb_6 _ (List.mem_of_getElem? (i := 58) (by decide +kernel)) (by decide +kernel)
theorem wl_9_138 : (.methodLink RL 177 yX12_where : Cond) ∈ sg_tbl := tb_9 _ (List.mem_of_getElem? (i := 138) (by decide +kernel)) (by decide +kernel)
section
variable {p : Program} {l : Launch} {e : Env} {R : Room} {s : State} {m : MethodId} {args : Array Value} {below : List Frame} {meth : Method} {c : Code} {H : Heap} {locs : List Loc} {cells slots : Nat} {Q : State → Prop} {cc : ByteArray} {nL pc : Nat} {ls : Array Slot} {rest : List Value} {own : String} {D : va_G} {A : Nat → Prop} {tys : List (ClassId × FieldType)} {ad ks : List Nat} {P : sgPm} {H0 : Heap} {index : Nat} {base : Nat} {st0 : List Value} {a : Nat}

set_option maxHeartbeats 8000000 in
set_option maxRecDepth 100000 in
theorem law_case_31 {p : Program} {l : Launch} {e : Env} {s : State} {m : MethodId} {below : List Frame} {meth : Method} {c : Code} {b L : Nat} {xs : Nat → Int32} {D : va_G} (C : lwC p l e s m below meth c b L xs) {n : Nat} {P : sgPm} {tys : List (ClassId × FieldType)} {ad ks : List Nat} {xx mm oq : Nat} {H : Heap} {locs : List Loc} (hW : lwV D n P tys ad ks xx mm oq s H) (hS : va_S (fun q : Nat => s.heap.size ≤ q) s.heap H locs) {i : Int32} (hi0 : 0 ≤ i.toInt) (hi6 : i.toInt + 6 ≤ L) (hn : n ≤ 511) {ls : Array Slot} (hl : lv_has ls 7 [(4, .int i), (3, .ref oq), (2, .ref mm), (1, .ref xx), (0, .ref b)]) {cells slots : Nat} (hc : cells + 4 ≤ 601024) (hs : slots + 8300 ≤ 7293034) {Q : State → Prop}
    (kk : ∀ (P1 : sgPm) (tys1 : List (ClassId × FieldType)) (ad1 ks1 : List Nat) (H1 : Heap) (locs1 : List Loc) (ls1 : Array Slot), lwV D (n + 1) P1 tys1 ad1 ks1 xx mm oq s H1 → va_S (fun q : Nat => s.heap.size ≤ q) s.heap H1 locs1 → lv_has ls1 7 [(4, .int i), (3, .ref oq), (2, .ref mm), (1, .ref xx), (0, .ref b)] → W p l e room_1 s m #[.ref b] below meth c H1 locs1 (cells + 4) (slots + 8300) Q (F0 m 1349 ls1 [])) :
    W p l e room_1 s m #[.ref b] below meth c H locs cells slots Q (F0 m 1134 ls []) := by
  obtain ⟨X, hC, hX, hbl, hL⟩ := C
  obtain ⟨hK, hG, hxx, hmm, hoq, hpin, hN0, hinv, hgl⟩ := id hW
  have hp10 := hpin
  have hb : s.heap.size ≤ s.heap.size := Nat.le_refl _
  have hbA : ¬ (fun q : Nat => s.heap.size ≤ q) b := Nat.not_le.mpr hbl
  have lwr : cells ≤ room_1.cells ∧ slots ≤ room_1.slots := ⟨by show cells ≤ 601024; omega, by show slots ≤ 7293034; omega⟩
  have lwr1 : cells + 1 ≤ room_1.cells ∧ slots + 8256 ≤ room_1.slots := ⟨by show cells + 1 ≤ 601024; omega, by show slots + 8256 ≤ 7293034; omega⟩
  have lwr2 : cells + 1 ≤ room_1.cells ∧ slots + 4096 ≤ room_1.slots := ⟨by show cells + 1 ≤ 601024; omega, by show slots + 4096 ≤ 7293034; omega⟩
  have hgi := hgl.1.1
  have hgg := hgl.2.1
  have hpk := hm_pk hgl.2
  have hl0 := sgInv_l1 hinv
  have hby := sgInv_b1 hinv
  refine lv_aload_n X.1 X.2.1 dL_law_1134 rfl (lv_at hl 3 rfl) ?_
  refine lv_aload_n X.1 X.2.1 dL_law_1135 rfl (lv_at hl 4 rfl) ?_
  refine lv_iload X.1 X.2.1 dL_law_1136 (lv_at hl 0 rfl) ?_
  refine lv_iconst (v := 1) X.1 X.2.1 dL_law_1138 (by decide +kernel) ?_
  refine lv_iadd X.1 X.2.1 dL_law_1139 ?_
  refine lv_topi (fun f1 ef1 => ?_)
  refine va_sld (i := f1) X.1 X.2.1 hX hbl hbA hS (lw_ix ef1 hi0 hi6 hL (by decide +kernel)) dL_law_1140 ?_
  refine ca_X11_fit X hK hG hC hS hb xx hxx (xs f1.toNatClampNeg) wl_5_230 hl.1 (rest := []) rfl (Nat.le_of_ble_eq_true rfl) ⟨Nat.le_of_ble_eq_true rfl, Nat.le_of_ble_eq_true rfl⟩ lwr dL_law_1141 (fun f3 H locs hf3 hG hS => ?_)
  refine lv_pop X.1 X.2.1 dL_law_1144 rfl ?_
  refine lv_aload_n X.1 X.2.1 dL_law_1145 rfl (lv_at hl 2 rfl) ?_
  refine lv_aload_n X.1 X.2.1 dL_law_1146 rfl (lv_at hl 4 rfl) ?_
  refine lv_iload X.1 X.2.1 dL_law_1147 (lv_at hl 0 rfl) ?_
  refine lv_iconst (v := 1) X.1 X.2.1 dL_law_1149 (by decide +kernel) ?_
  refine lv_iadd X.1 X.2.1 dL_law_1150 ?_
  refine lv_topi (fun f4 ef4 => ?_)
  refine va_sld (i := f4) X.1 X.2.1 hX hbl hbA hS (lw_ix ef4 hi0 hi6 hL (by decide +kernel)) dL_law_1151 ?_
  rcases Bool.eq_false_or_eq_true P.2.2.2.2.1 with hp4 | hp4
  · refine ca_X12_fit_1 X hK hG hC hS hb hp4 mm hmm (xs f4.toNatClampNeg) wl_9_92 hl.1 (rest := []) rfl (Nat.le_of_ble_eq_true rfl) ⟨Nat.le_of_ble_eq_true rfl, Nat.le_of_ble_eq_true rfl⟩ lwr dL_law_1152 (fun f6 H locs hf6 hG hS => ?_)
    refine lv_pop X.1 X.2.1 dL_law_1155 rfl ?_
    refine lv_goto (tgt := 1349) X.1 X.2.1 dL_law_1156 (by decide) ?_
    refine W.widen (k := cells + 4) (n := slots + 8300) (by omega) (by omega) ?_
    exact kk _ _ _ _ _ _ _ (lwV_next hW hK hG hpin (Nat.le_add_right _ _) (sgMo.rf _ _) hinv hgl) hS (lv_sub hl [0, 1, 2, 3, 4] rfl)
  · refine ca_X12_fit_0 X hK hG hC hS hb hp4 mm hmm (xs f4.toNatClampNeg) wl_9_92 hl.1 (rest := []) rfl (Nat.le_of_ble_eq_true rfl) ⟨Nat.le_of_ble_eq_true rfl, Nat.le_of_ble_eq_true rfl⟩ lwr dL_law_1152 (fun f7 H locs hf7 hG hS => ?_)
    refine lv_pop X.1 X.2.1 dL_law_1155 rfl ?_
    refine lv_goto (tgt := 1349) X.1 X.2.1 dL_law_1156 (by decide) ?_
    refine W.widen (k := cells + 4) (n := slots + 8300) (by omega) (by omega) ?_
    exact kk _ _ _ _ _ _ _ (lwV_next hW hK hG hpin (Nat.le_add_right _ _) (sgMo.rf _ _) hinv hgl) hS (lv_sub hl [0, 1, 2, 3, 4] rfl)

set_option maxHeartbeats 8000000 in
set_option maxRecDepth 100000 in
theorem law_case_32 {p : Program} {l : Launch} {e : Env} {s : State} {m : MethodId} {below : List Frame} {meth : Method} {c : Code} {b L : Nat} {xs : Nat → Int32} {D : va_G} (C : lwC p l e s m below meth c b L xs) {n : Nat} {P : sgPm} {tys : List (ClassId × FieldType)} {ad ks : List Nat} {xx mm oq : Nat} {H : Heap} {locs : List Loc} (hW : lwV D n P tys ad ks xx mm oq s H) (hS : va_S (fun q : Nat => s.heap.size ≤ q) s.heap H locs) {i : Int32} (hi0 : 0 ≤ i.toInt) (hi6 : i.toInt + 6 ≤ L) (hn : n ≤ 511) {ls : Array Slot} (hl : lv_has ls 7 [(4, .int i), (3, .ref oq), (2, .ref mm), (1, .ref xx), (0, .ref b)]) {cells slots : Nat} (hc : cells + 4 ≤ 601024) (hs : slots + 8300 ≤ 7293034) {Q : State → Prop}
    (kk : ∀ (P1 : sgPm) (tys1 : List (ClassId × FieldType)) (ad1 ks1 : List Nat) (H1 : Heap) (locs1 : List Loc) (ls1 : Array Slot), lwV D (n + 1) P1 tys1 ad1 ks1 xx mm oq s H1 → va_S (fun q : Nat => s.heap.size ≤ q) s.heap H1 locs1 → lv_has ls1 7 [(4, .int i), (3, .ref oq), (2, .ref mm), (1, .ref xx), (0, .ref b)] → W p l e room_1 s m #[.ref b] below meth c H1 locs1 (cells + 4) (slots + 8300) Q (F0 m 1349 ls1 [])) :
    W p l e room_1 s m #[.ref b] below meth c H locs cells slots Q (F0 m 1159 ls []) := by
  obtain ⟨X, hC, hX, hbl, hL⟩ := C
  obtain ⟨hK, hG, hxx, hmm, hoq, hpin, hN0, hinv, hgl⟩ := id hW
  have hp10 := hpin
  have hb : s.heap.size ≤ s.heap.size := Nat.le_refl _
  have hbA : ¬ (fun q : Nat => s.heap.size ≤ q) b := Nat.not_le.mpr hbl
  have lwr : cells ≤ room_1.cells ∧ slots ≤ room_1.slots := ⟨by show cells ≤ 601024; omega, by show slots ≤ 7293034; omega⟩
  have lwr1 : cells + 1 ≤ room_1.cells ∧ slots + 8256 ≤ room_1.slots := ⟨by show cells + 1 ≤ 601024; omega, by show slots + 8256 ≤ 7293034; omega⟩
  have lwr2 : cells + 1 ≤ room_1.cells ∧ slots + 4096 ≤ room_1.slots := ⟨by show cells + 1 ≤ 601024; omega, by show slots + 4096 ≤ 7293034; omega⟩
  have hgi := hgl.1.1
  have hgg := hgl.2.1
  have hpk := hm_pk hgl.2
  have hl0 := sgInv_l1 hinv
  have hby := sgInv_b1 hinv
  refine lv_aload_n X.1 X.2.1 dL_law_1159 rfl (lv_at hl 3 rfl) ?_
  refine ca_X11_tells X hK hG hC hS hb xx hxx wl_6_2 hl.1 (rest := []) rfl (Nat.le_of_ble_eq_true rfl) ⟨Nat.le_of_ble_eq_true rfl, Nat.le_of_ble_eq_true rfl⟩ lwr dL_law_1160 (fun f1 H locs hf1 hG hS => ?_)
  refine lv_pop X.1 X.2.1 dL_law_1163 rfl ?_
  refine lv_aload_n X.1 X.2.1 dL_law_1164 rfl (lv_at hl 2 rfl) ?_
  rcases Bool.eq_false_or_eq_true P.2.2.2.2.1 with hp4 | hp4
  · refine ca_X12_tells_1 X hK hG hC hS hb hp4 mm hmm wl_9_100 hl.1 (rest := []) rfl (Nat.le_of_ble_eq_true rfl) ⟨Nat.le_of_ble_eq_true rfl, Nat.le_of_ble_eq_true rfl⟩ lwr dL_law_1165 (fun f2 H locs hf2 hG hS => ?_)
    refine lv_pop X.1 X.2.1 dL_law_1168 rfl ?_
    refine lv_goto (tgt := 1349) X.1 X.2.1 dL_law_1169 (by decide) ?_
    refine W.widen (k := cells + 4) (n := slots + 8300) (by omega) (by omega) ?_
    exact kk _ _ _ _ _ _ _ (lwV_next hW hK hG hpin (Nat.le_add_right _ _) (sgMo.rf _ _) hinv hgl) hS (lv_sub hl [0, 1, 2, 3, 4] rfl)
  · refine ca_X12_tells_0 X hK hG hC hS hb hp4 mm hmm wl_9_100 hl.1 (rest := []) rfl (Nat.le_of_ble_eq_true rfl) ⟨Nat.le_of_ble_eq_true rfl, Nat.le_of_ble_eq_true rfl⟩ lwr dL_law_1165 (fun f3 H locs hf3 hG hS => ?_)
    refine lv_pop X.1 X.2.1 dL_law_1168 rfl ?_
    refine lv_goto (tgt := 1349) X.1 X.2.1 dL_law_1169 (by decide) ?_
    refine W.widen (k := cells + 4) (n := slots + 8300) (by omega) (by omega) ?_
    exact kk _ _ _ _ _ _ _ (lwV_next hW hK hG hpin (Nat.le_add_right _ _) (sgMo.rf _ _) hinv hgl) hS (lv_sub hl [0, 1, 2, 3, 4] rfl)

set_option maxHeartbeats 8000000 in
set_option maxRecDepth 100000 in
theorem law_case_33 {p : Program} {l : Launch} {e : Env} {s : State} {m : MethodId} {below : List Frame} {meth : Method} {c : Code} {b L : Nat} {xs : Nat → Int32} {D : va_G} (C : lwC p l e s m below meth c b L xs) {n : Nat} {P : sgPm} {tys : List (ClassId × FieldType)} {ad ks : List Nat} {xx mm oq : Nat} {H : Heap} {locs : List Loc} (hW : lwV D n P tys ad ks xx mm oq s H) (hS : va_S (fun q : Nat => s.heap.size ≤ q) s.heap H locs) {i : Int32} (hi0 : 0 ≤ i.toInt) (hi6 : i.toInt + 6 ≤ L) (hn : n ≤ 511) {ls : Array Slot} (hl : lv_has ls 7 [(4, .int i), (3, .ref oq), (2, .ref mm), (1, .ref xx), (0, .ref b)]) {cells slots : Nat} (hc : cells + 4 ≤ 601024) (hs : slots + 8300 ≤ 7293034) {Q : State → Prop}
    (kk : ∀ (P1 : sgPm) (tys1 : List (ClassId × FieldType)) (ad1 ks1 : List Nat) (H1 : Heap) (locs1 : List Loc) (ls1 : Array Slot), lwV D (n + 1) P1 tys1 ad1 ks1 xx mm oq s H1 → va_S (fun q : Nat => s.heap.size ≤ q) s.heap H1 locs1 → lv_has ls1 7 [(4, .int i), (3, .ref oq), (2, .ref mm), (1, .ref xx), (0, .ref b)] → W p l e room_1 s m #[.ref b] below meth c H1 locs1 (cells + 4) (slots + 8300) Q (F0 m 1349 ls1 [])) :
    W p l e room_1 s m #[.ref b] below meth c H locs cells slots Q (F0 m 1172 ls []) := by
  obtain ⟨X, hC, hX, hbl, hL⟩ := C
  obtain ⟨hK, hG, hxx, hmm, hoq, hpin, hN0, hinv, hgl⟩ := id hW
  have hp10 := hpin
  have hb : s.heap.size ≤ s.heap.size := Nat.le_refl _
  have hbA : ¬ (fun q : Nat => s.heap.size ≤ q) b := Nat.not_le.mpr hbl
  have lwr : cells ≤ room_1.cells ∧ slots ≤ room_1.slots := ⟨by show cells ≤ 601024; omega, by show slots ≤ 7293034; omega⟩
  have lwr1 : cells + 1 ≤ room_1.cells ∧ slots + 8256 ≤ room_1.slots := ⟨by show cells + 1 ≤ 601024; omega, by show slots + 8256 ≤ 7293034; omega⟩
  have lwr2 : cells + 1 ≤ room_1.cells ∧ slots + 4096 ≤ room_1.slots := ⟨by show cells + 1 ≤ 601024; omega, by show slots + 4096 ≤ 7293034; omega⟩
  have hgi := hgl.1.1
  have hgg := hgl.2.1
  have hpk := hm_pk hgl.2
  have hl0 := sgInv_l1 hinv
  have hby := sgInv_b1 hinv
  refine lv_aload_n X.1 X.2.1 dL_law_1172 rfl (lv_at hl 3 rfl) ?_
  refine lv_aload_n X.1 X.2.1 dL_law_1173 rfl (lv_at hl 4 rfl) ?_
  refine lv_iload X.1 X.2.1 dL_law_1174 (lv_at hl 0 rfl) ?_
  refine lv_iconst (v := 1) X.1 X.2.1 dL_law_1176 (by decide +kernel) ?_
  refine lv_iadd X.1 X.2.1 dL_law_1177 ?_
  refine lv_topi (fun f1 ef1 => ?_)
  refine va_sld (i := f1) X.1 X.2.1 hX hbl hbA hS (lw_ix ef1 hi0 hi6 hL (by decide +kernel)) dL_law_1178 ?_
  refine ca_X11_alike X hK hG hC hS hb xx hxx (xs f1.toNatClampNeg) wl_6_13 hl.1 (rest := []) rfl (Nat.le_of_ble_eq_true rfl) ⟨Nat.le_of_ble_eq_true rfl, Nat.le_of_ble_eq_true rfl⟩ lwr dL_law_1179 (fun f3 H locs hf3 hG hS => ?_)
  refine lv_pop X.1 X.2.1 dL_law_1182 rfl ?_
  refine lv_aload_n X.1 X.2.1 dL_law_1183 rfl (lv_at hl 2 rfl) ?_
  refine lv_aload_n X.1 X.2.1 dL_law_1184 rfl (lv_at hl 4 rfl) ?_
  refine lv_iload X.1 X.2.1 dL_law_1185 (lv_at hl 0 rfl) ?_
  refine lv_iconst (v := 1) X.1 X.2.1 dL_law_1187 (by decide +kernel) ?_
  refine lv_iadd X.1 X.2.1 dL_law_1188 ?_
  refine lv_topi (fun f4 ef4 => ?_)
  refine va_sld (i := f4) X.1 X.2.1 hX hbl hbA hS (lw_ix ef4 hi0 hi6 hL (by decide +kernel)) dL_law_1189 ?_
  rcases Bool.eq_false_or_eq_true P.2.2.2.2.1 with hp4 | hp4
  · refine ca_X12_alike_1 X hK hG hC hS hb hp4 mm hmm (xs f4.toNatClampNeg) wl_9_104 hl.1 (rest := []) rfl (Nat.le_of_ble_eq_true rfl) ⟨Nat.le_of_ble_eq_true rfl, Nat.le_of_ble_eq_true rfl⟩ lwr dL_law_1190 (fun f6 H locs hf6 hG hS => ?_)
    refine lv_pop X.1 X.2.1 dL_law_1193 rfl ?_
    refine lv_goto (tgt := 1349) X.1 X.2.1 dL_law_1194 (by decide) ?_
    refine W.widen (k := cells + 4) (n := slots + 8300) (by omega) (by omega) ?_
    exact kk _ _ _ _ _ _ _ (lwV_next hW hK hG hpin (Nat.le_add_right _ _) (sgMo.rf _ _) hinv hgl) hS (lv_sub hl [0, 1, 2, 3, 4] rfl)
  · refine ca_X12_alike_0 X hK hG hC hS hb hp4 mm hmm (xs f4.toNatClampNeg) wl_9_104 hl.1 (rest := []) rfl (Nat.le_of_ble_eq_true rfl) ⟨Nat.le_of_ble_eq_true rfl, Nat.le_of_ble_eq_true rfl⟩ lwr dL_law_1190 (fun f7 H locs hf7 hG hS => ?_)
    refine lv_pop X.1 X.2.1 dL_law_1193 rfl ?_
    refine lv_goto (tgt := 1349) X.1 X.2.1 dL_law_1194 (by decide) ?_
    refine W.widen (k := cells + 4) (n := slots + 8300) (by omega) (by omega) ?_
    exact kk _ _ _ _ _ _ _ (lwV_next hW hK hG hpin (Nat.le_add_right _ _) (sgMo.rf _ _) hinv hgl) hS (lv_sub hl [0, 1, 2, 3, 4] rfl)

set_option maxHeartbeats 8000000 in
set_option maxRecDepth 100000 in
theorem law_case_34 {p : Program} {l : Launch} {e : Env} {s : State} {m : MethodId} {below : List Frame} {meth : Method} {c : Code} {b L : Nat} {xs : Nat → Int32} {D : va_G} (C : lwC p l e s m below meth c b L xs) {n : Nat} {P : sgPm} {tys : List (ClassId × FieldType)} {ad ks : List Nat} {xx mm oq : Nat} {H : Heap} {locs : List Loc} (hW : lwV D n P tys ad ks xx mm oq s H) (hS : va_S (fun q : Nat => s.heap.size ≤ q) s.heap H locs) {i : Int32} (hi0 : 0 ≤ i.toInt) (hi6 : i.toInt + 6 ≤ L) (hn : n ≤ 511) {ls : Array Slot} (hl : lv_has ls 7 [(4, .int i), (3, .ref oq), (2, .ref mm), (1, .ref xx), (0, .ref b)]) {cells slots : Nat} (hc : cells + 4 ≤ 601024) (hs : slots + 8300 ≤ 7293034) {Q : State → Prop}
    (kk : ∀ (P1 : sgPm) (tys1 : List (ClassId × FieldType)) (ad1 ks1 : List Nat) (H1 : Heap) (locs1 : List Loc) (ls1 : Array Slot), lwV D (n + 1) P1 tys1 ad1 ks1 xx mm oq s H1 → va_S (fun q : Nat => s.heap.size ≤ q) s.heap H1 locs1 → lv_has ls1 7 [(4, .int i), (3, .ref oq), (2, .ref mm), (1, .ref xx), (0, .ref b)] → W p l e room_1 s m #[.ref b] below meth c H1 locs1 (cells + 4) (slots + 8300) Q (F0 m 1349 ls1 [])) :
    W p l e room_1 s m #[.ref b] below meth c H locs cells slots Q (F0 m 1197 ls []) := by
  obtain ⟨X, hC, hX, hbl, hL⟩ := C
  obtain ⟨hK, hG, hxx, hmm, hoq, hpin, hN0, hinv, hgl⟩ := id hW
  have hp10 := hpin
  have hb : s.heap.size ≤ s.heap.size := Nat.le_refl _
  have hbA : ¬ (fun q : Nat => s.heap.size ≤ q) b := Nat.not_le.mpr hbl
  have lwr : cells ≤ room_1.cells ∧ slots ≤ room_1.slots := ⟨by show cells ≤ 601024; omega, by show slots ≤ 7293034; omega⟩
  have lwr1 : cells + 1 ≤ room_1.cells ∧ slots + 8256 ≤ room_1.slots := ⟨by show cells + 1 ≤ 601024; omega, by show slots + 8256 ≤ 7293034; omega⟩
  have lwr2 : cells + 1 ≤ room_1.cells ∧ slots + 4096 ≤ room_1.slots := ⟨by show cells + 1 ≤ 601024; omega, by show slots + 4096 ≤ 7293034; omega⟩
  have hgi := hgl.1.1
  have hgg := hgl.2.1
  have hpk := hm_pk hgl.2
  have hl0 := sgInv_l1 hinv
  have hby := sgInv_b1 hinv
  refine lv_aload_n X.1 X.2.1 dL_law_1197 rfl (lv_at hl 3 rfl) ?_
  refine ca_X11_openings X hK hG hC hS hb xx hxx wl_6_30 hl.1 (rest := []) rfl (Nat.le_of_ble_eq_true rfl) ⟨Nat.le_of_ble_eq_true rfl, Nat.le_of_ble_eq_true rfl⟩ lwr dL_law_1198 (fun f1 H locs hf1 hG hS => ?_)
  refine lv_pop X.1 X.2.1 dL_law_1201 rfl ?_
  refine lv_aload_n X.1 X.2.1 dL_law_1202 rfl (lv_at hl 2 rfl) ?_
  rcases Bool.eq_false_or_eq_true P.2.2.2.2.1 with hp4 | hp4
  · refine ca_X12_openings_1 X hK hG hC hS hb hp4 mm hmm wl_9_120 hl.1 (rest := []) rfl (Nat.le_of_ble_eq_true rfl) ⟨Nat.le_of_ble_eq_true rfl, Nat.le_of_ble_eq_true rfl⟩ lwr dL_law_1203 (fun f2 H locs hf2 hG hS => ?_)
    refine lv_pop X.1 X.2.1 dL_law_1206 rfl ?_
    refine lv_goto (tgt := 1349) X.1 X.2.1 dL_law_1207 (by decide) ?_
    refine W.widen (k := cells + 4) (n := slots + 8300) (by omega) (by omega) ?_
    exact kk _ _ _ _ _ _ _ (lwV_next hW hK hG hpin (Nat.le_add_right _ _) (sgMo.rf _ _) hinv hgl) hS (lv_sub hl [0, 1, 2, 3, 4] rfl)
  · refine ca_X12_openings_0 X hK hG hC hS hb hp4 mm hmm wl_9_120 hl.1 (rest := []) rfl (Nat.le_of_ble_eq_true rfl) ⟨Nat.le_of_ble_eq_true rfl, Nat.le_of_ble_eq_true rfl⟩ lwr dL_law_1203 (fun f3 H locs hf3 hG hS => ?_)
    refine lv_pop X.1 X.2.1 dL_law_1206 rfl ?_
    refine lv_goto (tgt := 1349) X.1 X.2.1 dL_law_1207 (by decide) ?_
    refine W.widen (k := cells + 4) (n := slots + 8300) (by omega) (by omega) ?_
    exact kk _ _ _ _ _ _ _ (lwV_next hW hK hG hpin (Nat.le_add_right _ _) (sgMo.rf _ _) hinv hgl) hS (lv_sub hl [0, 1, 2, 3, 4] rfl)

set_option maxHeartbeats 8000000 in
set_option maxRecDepth 100000 in
theorem law_case_35 {p : Program} {l : Launch} {e : Env} {s : State} {m : MethodId} {below : List Frame} {meth : Method} {c : Code} {b L : Nat} {xs : Nat → Int32} {D : va_G} (C : lwC p l e s m below meth c b L xs) {n : Nat} {P : sgPm} {tys : List (ClassId × FieldType)} {ad ks : List Nat} {xx mm oq : Nat} {H : Heap} {locs : List Loc} (hW : lwV D n P tys ad ks xx mm oq s H) (hS : va_S (fun q : Nat => s.heap.size ≤ q) s.heap H locs) {i : Int32} (hi0 : 0 ≤ i.toInt) (hi6 : i.toInt + 6 ≤ L) (hn : n ≤ 511) {ls : Array Slot} (hl : lv_has ls 7 [(4, .int i), (3, .ref oq), (2, .ref mm), (1, .ref xx), (0, .ref b)]) {cells slots : Nat} (hc : cells + 4 ≤ 601024) (hs : slots + 8300 ≤ 7293034) {Q : State → Prop}
    (kk : ∀ (P1 : sgPm) (tys1 : List (ClassId × FieldType)) (ad1 ks1 : List Nat) (H1 : Heap) (locs1 : List Loc) (ls1 : Array Slot), lwV D (n + 1) P1 tys1 ad1 ks1 xx mm oq s H1 → va_S (fun q : Nat => s.heap.size ≤ q) s.heap H1 locs1 → lv_has ls1 7 [(4, .int i), (3, .ref oq), (2, .ref mm), (1, .ref xx), (0, .ref b)] → W p l e room_1 s m #[.ref b] below meth c H1 locs1 (cells + 4) (slots + 8300) Q (F0 m 1349 ls1 [])) :
    W p l e room_1 s m #[.ref b] below meth c H locs cells slots Q (F0 m 1210 ls []) := by
  obtain ⟨X, hC, hX, hbl, hL⟩ := C
  obtain ⟨hK, hG, hxx, hmm, hoq, hpin, hN0, hinv, hgl⟩ := id hW
  have hp10 := hpin
  have hb : s.heap.size ≤ s.heap.size := Nat.le_refl _
  have hbA : ¬ (fun q : Nat => s.heap.size ≤ q) b := Nat.not_le.mpr hbl
  have lwr : cells ≤ room_1.cells ∧ slots ≤ room_1.slots := ⟨by show cells ≤ 601024; omega, by show slots ≤ 7293034; omega⟩
  have lwr1 : cells + 1 ≤ room_1.cells ∧ slots + 8256 ≤ room_1.slots := ⟨by show cells + 1 ≤ 601024; omega, by show slots + 8256 ≤ 7293034; omega⟩
  have lwr2 : cells + 1 ≤ room_1.cells ∧ slots + 4096 ≤ room_1.slots := ⟨by show cells + 1 ≤ 601024; omega, by show slots + 4096 ≤ 7293034; omega⟩
  have hgi := hgl.1.1
  have hgg := hgl.2.1
  have hpk := hm_pk hgl.2
  have hl0 := sgInv_l1 hinv
  have hby := sgInv_b1 hinv
  refine lv_aload_n X.1 X.2.1 dL_law_1210 rfl (lv_at hl 3 rfl) ?_
  refine lv_aload_n X.1 X.2.1 dL_law_1211 rfl (lv_at hl 4 rfl) ?_
  refine lv_iload X.1 X.2.1 dL_law_1212 (lv_at hl 0 rfl) ?_
  refine lv_iconst (v := 1) X.1 X.2.1 dL_law_1214 (by decide +kernel) ?_
  refine lv_iadd X.1 X.2.1 dL_law_1215 ?_
  refine lv_topi (fun f1 ef1 => ?_)
  refine va_sld (i := f1) X.1 X.2.1 hX hbl hbA hS (lw_ix ef1 hi0 hi6 hL (by decide +kernel)) dL_law_1216 ?_
  refine lv_aload_n X.1 X.2.1 dL_law_1217 rfl (lv_at hl 4 rfl) ?_
  refine lv_iload X.1 X.2.1 dL_law_1218 (lv_at hl 0 rfl) ?_
  refine lv_iconst (v := 2) X.1 X.2.1 dL_law_1220 (by decide +kernel) ?_
  refine lv_iadd X.1 X.2.1 dL_law_1221 ?_
  refine lv_topi (fun f3 ef3 => ?_)
  refine va_sld (i := f3) X.1 X.2.1 hX hbl hbA hS (lw_ix ef3 hi0 hi6 hL (by decide +kernel)) dL_law_1222 ?_
  refine ca_X11_odds X hK hG hC hS hb xx hxx (xs f1.toNatClampNeg) (xs f3.toNatClampNeg) wl_6_42 hl.1 (rest := []) rfl (Nat.le_of_ble_eq_true rfl) ⟨Nat.le_of_ble_eq_true rfl, Nat.le_of_ble_eq_true rfl⟩ lwr dL_law_1223 (fun f5 H locs hf5 hG hS => ?_)
  refine lv_pop X.1 X.2.1 dL_law_1226 rfl ?_
  refine lv_aload_n X.1 X.2.1 dL_law_1227 rfl (lv_at hl 2 rfl) ?_
  refine lv_aload_n X.1 X.2.1 dL_law_1228 rfl (lv_at hl 4 rfl) ?_
  refine lv_iload X.1 X.2.1 dL_law_1229 (lv_at hl 0 rfl) ?_
  refine lv_iconst (v := 1) X.1 X.2.1 dL_law_1231 (by decide +kernel) ?_
  refine lv_iadd X.1 X.2.1 dL_law_1232 ?_
  refine lv_topi (fun f6 ef6 => ?_)
  refine va_sld (i := f6) X.1 X.2.1 hX hbl hbA hS (lw_ix ef6 hi0 hi6 hL (by decide +kernel)) dL_law_1233 ?_
  refine lv_aload_n X.1 X.2.1 dL_law_1234 rfl (lv_at hl 4 rfl) ?_
  refine lv_iload X.1 X.2.1 dL_law_1235 (lv_at hl 0 rfl) ?_
  refine lv_iconst (v := 2) X.1 X.2.1 dL_law_1237 (by decide +kernel) ?_
  refine lv_iadd X.1 X.2.1 dL_law_1238 ?_
  refine lv_topi (fun f8 ef8 => ?_)
  refine va_sld (i := f8) X.1 X.2.1 hX hbl hbA hS (lw_ix ef8 hi0 hi6 hL (by decide +kernel)) dL_law_1239 ?_
  rcases Bool.eq_false_or_eq_true P.2.2.2.2.1 with hp4 | hp4
  · refine ca_X12_odds_1 X hK hG hC hS hb hp4 mm hmm (xs f6.toNatClampNeg) (xs f8.toNatClampNeg) wl_9_124 hl.1 (rest := []) rfl (Nat.le_of_ble_eq_true rfl) ⟨Nat.le_of_ble_eq_true rfl, Nat.le_of_ble_eq_true rfl⟩ lwr dL_law_1240 (fun f10 H locs hf10 hG hS => ?_)
    refine lv_pop X.1 X.2.1 dL_law_1243 rfl ?_
    refine lv_goto (tgt := 1349) X.1 X.2.1 dL_law_1244 (by decide) ?_
    refine W.widen (k := cells + 4) (n := slots + 8300) (by omega) (by omega) ?_
    exact kk _ _ _ _ _ _ _ (lwV_next hW hK hG hpin (Nat.le_add_right _ _) (sgMo.rf _ _) hinv hgl) hS (lv_sub hl [0, 1, 2, 3, 4] rfl)
  · refine ca_X12_odds_0 X hK hG hC hS hb hp4 mm hmm (xs f6.toNatClampNeg) (xs f8.toNatClampNeg) wl_9_124 hl.1 (rest := []) rfl (Nat.le_of_ble_eq_true rfl) ⟨Nat.le_of_ble_eq_true rfl, Nat.le_of_ble_eq_true rfl⟩ lwr dL_law_1240 (fun f11 H locs hf11 hG hS => ?_)
    refine lv_pop X.1 X.2.1 dL_law_1243 rfl ?_
    refine lv_goto (tgt := 1349) X.1 X.2.1 dL_law_1244 (by decide) ?_
    refine W.widen (k := cells + 4) (n := slots + 8300) (by omega) (by omega) ?_
    exact kk _ _ _ _ _ _ _ (lwV_next hW hK hG hpin (Nat.le_add_right _ _) (sgMo.rf _ _) hinv hgl) hS (lv_sub hl [0, 1, 2, 3, 4] rfl)

set_option maxHeartbeats 8000000 in
set_option maxRecDepth 100000 in
theorem law_case_36 {p : Program} {l : Launch} {e : Env} {s : State} {m : MethodId} {below : List Frame} {meth : Method} {c : Code} {b L : Nat} {xs : Nat → Int32} {D : va_G} (C : lwC p l e s m below meth c b L xs) {n : Nat} {P : sgPm} {tys : List (ClassId × FieldType)} {ad ks : List Nat} {xx mm oq : Nat} {H : Heap} {locs : List Loc} (hW : lwV D n P tys ad ks xx mm oq s H) (hS : va_S (fun q : Nat => s.heap.size ≤ q) s.heap H locs) {i : Int32} (hi0 : 0 ≤ i.toInt) (hi6 : i.toInt + 6 ≤ L) (hn : n ≤ 511) {ls : Array Slot} (hl : lv_has ls 7 [(4, .int i), (3, .ref oq), (2, .ref mm), (1, .ref xx), (0, .ref b)]) {cells slots : Nat} (hc : cells + 4 ≤ 601024) (hs : slots + 8300 ≤ 7293034) {Q : State → Prop}
    (kk : ∀ (P1 : sgPm) (tys1 : List (ClassId × FieldType)) (ad1 ks1 : List Nat) (H1 : Heap) (locs1 : List Loc) (ls1 : Array Slot), lwV D (n + 1) P1 tys1 ad1 ks1 xx mm oq s H1 → va_S (fun q : Nat => s.heap.size ≤ q) s.heap H1 locs1 → lv_has ls1 7 [(4, .int i), (3, .ref oq), (2, .ref mm), (1, .ref xx), (0, .ref b)] → W p l e room_1 s m #[.ref b] below meth c H1 locs1 (cells + 4) (slots + 8300) Q (F0 m 1349 ls1 [])) :
    W p l e room_1 s m #[.ref b] below meth c H locs cells slots Q (F0 m 1247 ls []) := by
  obtain ⟨X, hC, hX, hbl, hL⟩ := C
  obtain ⟨hK, hG, hxx, hmm, hoq, hpin, hN0, hinv, hgl⟩ := id hW
  have hp10 := hpin
  have hb : s.heap.size ≤ s.heap.size := Nat.le_refl _
  have hbA : ¬ (fun q : Nat => s.heap.size ≤ q) b := Nat.not_le.mpr hbl
  have lwr : cells ≤ room_1.cells ∧ slots ≤ room_1.slots := ⟨by show cells ≤ 601024; omega, by show slots ≤ 7293034; omega⟩
  have lwr1 : cells + 1 ≤ room_1.cells ∧ slots + 8256 ≤ room_1.slots := ⟨by show cells + 1 ≤ 601024; omega, by show slots + 8256 ≤ 7293034; omega⟩
  have lwr2 : cells + 1 ≤ room_1.cells ∧ slots + 4096 ≤ room_1.slots := ⟨by show cells + 1 ≤ 601024; omega, by show slots + 4096 ≤ 7293034; omega⟩
  have hgi := hgl.1.1
  have hgg := hgl.2.1
  have hpk := hm_pk hgl.2
  have hl0 := sgInv_l1 hinv
  have hby := sgInv_b1 hinv
  refine lv_aload_n X.1 X.2.1 dL_law_1247 rfl (lv_at hl 3 rfl) ?_
  refine lv_aload_n X.1 X.2.1 dL_law_1248 rfl (lv_at hl 4 rfl) ?_
  refine lv_iload X.1 X.2.1 dL_law_1249 (lv_at hl 0 rfl) ?_
  refine lv_iconst (v := 1) X.1 X.2.1 dL_law_1251 (by decide +kernel) ?_
  refine lv_iadd X.1 X.2.1 dL_law_1252 ?_
  refine lv_topi (fun f1 ef1 => ?_)
  refine va_sld (i := f1) X.1 X.2.1 hX hbl hbA hS (lw_ix ef1 hi0 hi6 hL (by decide +kernel)) dL_law_1253 ?_
  refine ca_X11_where X hK hG hC hS hb xx hxx (xs f1.toNatClampNeg) wl_6_58 hl.1 (rest := []) rfl (Nat.le_of_ble_eq_true rfl) ⟨Nat.le_of_ble_eq_true rfl, Nat.le_of_ble_eq_true rfl⟩ lwr dL_law_1254 (fun f3 H locs hf3 hG hS => ?_)
  refine lv_pop X.1 X.2.1 dL_law_1257 rfl ?_
  refine lv_aload_n X.1 X.2.1 dL_law_1258 rfl (lv_at hl 2 rfl) ?_
  refine lv_aload_n X.1 X.2.1 dL_law_1259 rfl (lv_at hl 4 rfl) ?_
  refine lv_iload X.1 X.2.1 dL_law_1260 (lv_at hl 0 rfl) ?_
  refine lv_iconst (v := 1) X.1 X.2.1 dL_law_1262 (by decide +kernel) ?_
  refine lv_iadd X.1 X.2.1 dL_law_1263 ?_
  refine lv_topi (fun f4 ef4 => ?_)
  refine va_sld (i := f4) X.1 X.2.1 hX hbl hbA hS (lw_ix ef4 hi0 hi6 hL (by decide +kernel)) dL_law_1264 ?_
  rcases Bool.eq_false_or_eq_true P.2.2.2.2.1 with hp4 | hp4
  · refine ca_X12_where_1 X hK hG hC hS hb hp4 mm hmm (xs f4.toNatClampNeg) wl_9_138 hl.1 (rest := []) rfl (Nat.le_of_ble_eq_true rfl) ⟨Nat.le_of_ble_eq_true rfl, Nat.le_of_ble_eq_true rfl⟩ lwr dL_law_1265 (fun f6 H locs hf6 hG hS => ?_)
    refine lv_pop X.1 X.2.1 dL_law_1268 rfl ?_
    refine lv_goto (tgt := 1349) X.1 X.2.1 dL_law_1269 (by decide) ?_
    refine W.widen (k := cells + 4) (n := slots + 8300) (by omega) (by omega) ?_
    exact kk _ _ _ _ _ _ _ (lwV_next hW hK hG hpin (Nat.le_add_right _ _) (sgMo.rf _ _) hinv hgl) hS (lv_sub hl [0, 1, 2, 3, 4] rfl)
  · refine ca_X12_where_0 X hK hG hC hS hb hp4 mm hmm (xs f4.toNatClampNeg) wl_9_138 hl.1 (rest := []) rfl (Nat.le_of_ble_eq_true rfl) ⟨Nat.le_of_ble_eq_true rfl, Nat.le_of_ble_eq_true rfl⟩ lwr dL_law_1265 (fun f7 H locs hf7 hG hS => ?_)
    refine lv_pop X.1 X.2.1 dL_law_1268 rfl ?_
    refine lv_goto (tgt := 1349) X.1 X.2.1 dL_law_1269 (by decide) ?_
    refine W.widen (k := cells + 4) (n := slots + 8300) (by omega) (by omega) ?_
    exact kk _ _ _ _ _ _ _ (lwV_next hW hK hG hpin (Nat.le_add_right _ _) (sgMo.rf _ _) hinv hgl) hS (lv_sub hl [0, 1, 2, 3, 4] rfl)
end
