abbrev cX12_count : ByteArray := prog_14_method_128_code
def yX12_count : MethodName := ⟨RX12, "count", "(I)I"⟩
abbrev cX12_longest : ByteArray := prog_14_method_125_code
def yX12_longest : MethodName := ⟨RX12, "longest", "()I"⟩
theorem dX12_count_0 : decode cX12_count 0 = .ok (.aload_n 0, 1) := by decide +kernel
theorem dX12_count_1 : decode cX12_count 1 = .ok (.iconst 0, 1) := by decide +kernel
theorem dX12_count_2 : decode cX12_count 2 = .ok (.putfield 94, 3) := by decide +kernel
theorem dX12_count_5 : decode cX12_count 5 = .ok (.iload_n 1, 1) := by decide +kernel
theorem dX12_count_6 : decode cX12_count 6 = .ok (.tableswitch 179 0 15 #[78, 83, 93, 98, 103, 108, 113, 120, 127, 134, 141, 149, 154, 159, 167, 172], 78) := by decide +kernel
theorem dX12_count_84 : decode cX12_count 84 = .ok (.aload_n 0, 1) := by decide +kernel
theorem dX12_count_85 : decode cX12_count 85 = .ok (.getfield 302, 3) := by decide +kernel
theorem dX12_count_88 : decode cX12_count 88 = .ok (.ireturn, 1) := by decide +kernel
theorem dX12_count_89 : decode cX12_count 89 = .ok (.aload_n 0, 1) := by decide +kernel
theorem dX12_count_90 : decode cX12_count 90 = .ok (.getfield 52, 3) := by decide +kernel
theorem dX12_count_93 : decode cX12_count 93 = .ok (.iconst 0, 1) := by decide +kernel
theorem dX12_count_94 : decode cX12_count 94 = .ok (.iaload, 1) := by decide +kernel
theorem dX12_count_95 : decode cX12_count 95 = .ok (.invokestatic 333, 3) := by decide +kernel
theorem dX12_count_98 : decode cX12_count 98 = .ok (.ireturn, 1) := by decide +kernel
theorem dX12_count_99 : decode cX12_count 99 = .ok (.aload_n 0, 1) := by decide +kernel
theorem dX12_count_100 : decode cX12_count 100 = .ok (.getfield 294, 3) := by decide +kernel
theorem dX12_count_103 : decode cX12_count 103 = .ok (.ireturn, 1) := by decide +kernel
theorem dX12_count_104 : decode cX12_count 104 = .ok (.aload_n 0, 1) := by decide +kernel
theorem dX12_count_105 : decode cX12_count 105 = .ok (.getfield 297, 3) := by decide +kernel
theorem dX12_count_108 : decode cX12_count 108 = .ok (.ireturn, 1) := by decide +kernel
theorem dX12_count_109 : decode cX12_count 109 = .ok (.aload_n 0, 1) := by decide +kernel
theorem dX12_count_110 : decode cX12_count 110 = .ok (.getfield 107, 3) := by decide +kernel
theorem dX12_count_113 : decode cX12_count 113 = .ok (.ireturn, 1) := by decide +kernel
theorem dX12_count_114 : decode cX12_count 114 = .ok (.aload_n 0, 1) := by decide +kernel
theorem dX12_count_115 : decode cX12_count 115 = .ok (.getfield 58, 3) := by decide +kernel
theorem dX12_count_118 : decode cX12_count 118 = .ok (.ireturn, 1) := by decide +kernel
theorem dX12_count_119 : decode cX12_count 119 = .ok (.aload_n 0, 1) := by decide +kernel
theorem dX12_count_120 : decode cX12_count 120 = .ok (.getfield 52, 3) := by decide +kernel
theorem dX12_count_123 : decode cX12_count 123 = .ok (.iconst 4, 1) := by decide +kernel
theorem dX12_count_124 : decode cX12_count 124 = .ok (.iaload, 1) := by decide +kernel
theorem dX12_count_125 : decode cX12_count 125 = .ok (.ireturn, 1) := by decide +kernel
theorem dX12_count_126 : decode cX12_count 126 = .ok (.aload_n 0, 1) := by decide +kernel
theorem dX12_count_127 : decode cX12_count 127 = .ok (.getfield 52, 3) := by decide +kernel
theorem dX12_count_130 : decode cX12_count 130 = .ok (.iconst 2, 1) := by decide +kernel
theorem dX12_count_131 : decode cX12_count 131 = .ok (.iaload, 1) := by decide +kernel
theorem dX12_count_132 : decode cX12_count 132 = .ok (.ireturn, 1) := by decide +kernel
theorem dX12_count_133 : decode cX12_count 133 = .ok (.aload_n 0, 1) := by decide +kernel
theorem dX12_count_134 : decode cX12_count 134 = .ok (.getfield 52, 3) := by decide +kernel
theorem dX12_count_137 : decode cX12_count 137 = .ok (.iconst 3, 1) := by decide +kernel
theorem dX12_count_138 : decode cX12_count 138 = .ok (.iaload, 1) := by decide +kernel
theorem dX12_count_139 : decode cX12_count 139 = .ok (.ireturn, 1) := by decide +kernel
theorem dX12_count_140 : decode cX12_count 140 = .ok (.aload_n 0, 1) := by decide +kernel
theorem dX12_count_141 : decode cX12_count 141 = .ok (.getfield 52, 3) := by decide +kernel
theorem dX12_count_144 : decode cX12_count 144 = .ok (.iconst 5, 1) := by decide +kernel
theorem dX12_count_145 : decode cX12_count 145 = .ok (.iaload, 1) := by decide +kernel
theorem dX12_count_146 : decode cX12_count 146 = .ok (.ireturn, 1) := by decide +kernel
theorem dX12_count_147 : decode cX12_count 147 = .ok (.aload_n 0, 1) := by decide +kernel
theorem dX12_count_148 : decode cX12_count 148 = .ok (.getfield 52, 3) := by decide +kernel
theorem dX12_count_151 : decode cX12_count 151 = .ok (.bipush 6, 2) := by decide +kernel
theorem dX12_count_153 : decode cX12_count 153 = .ok (.iaload, 1) := by decide +kernel
theorem dX12_count_154 : decode cX12_count 154 = .ok (.ireturn, 1) := by decide +kernel
theorem dX12_count_155 : decode cX12_count 155 = .ok (.aload_n 0, 1) := by decide +kernel
theorem dX12_count_156 : decode cX12_count 156 = .ok (.getfield 360, 3) := by decide +kernel
theorem dX12_count_159 : decode cX12_count 159 = .ok (.ireturn, 1) := by decide +kernel
theorem dX12_count_160 : decode cX12_count 160 = .ok (.aload_n 0, 1) := by decide +kernel
theorem dX12_count_161 : decode cX12_count 161 = .ok (.getfield 308, 3) := by decide +kernel
theorem dX12_count_164 : decode cX12_count 164 = .ok (.ireturn, 1) := by decide +kernel
theorem dX12_count_165 : decode cX12_count 165 = .ok (.aload_n 0, 1) := by decide +kernel
theorem dX12_count_166 : decode cX12_count 166 = .ok (.getfield 52, 3) := by decide +kernel
theorem dX12_count_169 : decode cX12_count 169 = .ok (.bipush 8, 2) := by decide +kernel
theorem dX12_count_171 : decode cX12_count 171 = .ok (.iaload, 1) := by decide +kernel
theorem dX12_count_172 : decode cX12_count 172 = .ok (.ireturn, 1) := by decide +kernel
theorem dX12_count_173 : decode cX12_count 173 = .ok (.aload_n 0, 1) := by decide +kernel
theorem dX12_count_174 : decode cX12_count 174 = .ok (.getfield 311, 3) := by decide +kernel
theorem dX12_count_177 : decode cX12_count 177 = .ok (.ireturn, 1) := by decide +kernel
theorem dX12_count_178 : decode cX12_count 178 = .ok (.aload_n 0, 1) := by decide +kernel
theorem dX12_count_179 : decode cX12_count 179 = .ok (.getfield 52, 3) := by decide +kernel
theorem dX12_count_182 : decode cX12_count 182 = .ok (.iconst 0, 1) := by decide +kernel
theorem dX12_count_183 : decode cX12_count 183 = .ok (.iaload, 1) := by decide +kernel
theorem dX12_count_184 : decode cX12_count 184 = .ok (.ireturn, 1) := by decide +kernel
theorem dX12_count_185 : decode cX12_count 185 = .ok (.ldc_w 439, 3) := by decide +kernel
theorem dX12_count_188 : decode cX12_count 188 = .ok (.ireturn, 1) := by decide +kernel
theorem dX12_longest_0 : decode cX12_longest 0 = .ok (.aload_n 0, 1) := by decide +kernel
theorem dX12_longest_1 : decode cX12_longest 1 = .ok (.iconst 0, 1) := by decide +kernel
theorem dX12_longest_2 : decode cX12_longest 2 = .ok (.putfield 94, 3) := by decide +kernel
theorem dX12_longest_5 : decode cX12_longest 5 = .ok (.aload_n 0, 1) := by decide +kernel
theorem dX12_longest_6 : decode cX12_longest 6 = .ok (.getfield 302, 3) := by decide +kernel
theorem dX12_longest_9 : decode cX12_longest 9 = .ok (.ifCond .ne 7, 3) := by decide +kernel
theorem dX12_longest_16 : decode cX12_longest 16 = .ok (.aload_n 0, 1) := by decide +kernel
theorem dX12_longest_17 : decode cX12_longest 17 = .ok (.getfield 52, 3) := by decide +kernel
theorem dX12_longest_20 : decode cX12_longest 20 = .ok (.iconst 0, 1) := by decide +kernel
theorem dX12_longest_21 : decode cX12_longest 21 = .ok (.iaload, 1) := by decide +kernel
theorem dX12_longest_22 : decode cX12_longest 22 = .ok (.aload_n 0, 1) := by decide +kernel
theorem dX12_longest_23 : decode cX12_longest 23 = .ok (.getfield 37, 3) := by decide +kernel
theorem dX12_longest_26 : decode cX12_longest 26 = .ok (.invokestatic 323, 3) := by decide +kernel
theorem dX12_longest_29 : decode cX12_longest 29 = .ok (.ireturn, 1) := by decide +kernel
theorem wl_8_190 : (.constant RX12 439 (-1000000) : Cond) ∈ sg_tbl := tb_8 _ (List.mem_of_getElem? (i := 190) (by decide +kernel)) (by decide +kernel)
theorem wl_8_68 : (.methodLink RX12 333 yJ6_bitCount_0f7a4 : Cond) ∈ sg_tbl := tb_8 _ (List.mem_of_getElem? (i := 68) (by decide +kernel)) (by decide +kernel)
theorem wl_6_185 : (.fieldLink RX12 294 "LawnAheadModel" "lawMany" "I" : Cond) ∈ sg_tbl := tb_6 _ (List.mem_of_getElem? (i := 185) (by decide +kernel)) (by decide +kernel)
theorem wl_6_184 : (.fieldLink RX12 107 "LawnAheadModel" "length" "I" : Cond) ∈ sg_tbl := tb_6 _ (List.mem_of_getElem? (i := 184) (by decide +kernel)) (by decide +kernel)
theorem wl_6_212 : (.fieldLink RX12 58 "LawnAheadModel" "law" "I" : Cond) ∈ sg_tbl := tb_6 _ (List.mem_of_getElem? (i := 212) (by decide +kernel)) (by decide +kernel)
theorem wl_6_213 : (.fieldLink RX12 360 "LawnAheadModel" "drought" "I" : Cond) ∈ sg_tbl := tb_6 _ (List.mem_of_getElem? (i := 213) (by decide +kernel)) (by decide +kernel)
theorem wl_6_217 : (.fieldLink RX12 311 "LawnAheadModel" "acts" "I" : Cond) ∈ sg_tbl := tb_6 _ (List.mem_of_getElem? (i := 217) (by decide +kernel)) (by decide +kernel)
theorem wl_9_149 : (.code yX12_longest cX12_longest 1 (some .int) : Cond) ∈ sg_tbl := tb_9 _ (List.mem_of_getElem? (i := 149) (by decide +kernel)) (by decide +kernel)
theorem wl_9_147 : (.instanceMethod yX12_longest : Cond) ∈ sg_tbl := tb_9 _ (List.mem_of_getElem? (i := 147) (by decide +kernel)) (by decide +kernel)
theorem wl_9_148 : (.selects RX12 yX12_longest yX12_longest : Cond) ∈ sg_tbl := tb_9 _ (List.mem_of_getElem? (i := 148) (by decide +kernel)) (by decide +kernel)
theorem wl_9_161 : (.code yX12_count cX12_count 2 (some .int) : Cond) ∈ sg_tbl := tb_9 _ (List.mem_of_getElem? (i := 161) (by decide +kernel)) (by decide +kernel)
theorem wl_9_159 : (.instanceMethod yX12_count : Cond) ∈ sg_tbl := tb_9 _ (List.mem_of_getElem? (i := 159) (by decide +kernel)) (by decide +kernel)
theorem wl_9_160 : (.selects RX12 yX12_count yX12_count : Cond) ∈ sg_tbl := tb_9 _ (List.mem_of_getElem? (i := 160) (by decide +kernel)) (by decide +kernel)
section
variable {p : Program} {l : Launch} {e : Env} {R : Room} {s : State} {m : MethodId} {args : Array Value} {below : List Frame} {meth : Method} {c : Code} {H : Heap} {locs : List Loc} {cells slots : Nat} {Q : State → Prop} {cc : ByteArray} {nL pc : Nat} {ls : Array Slot} {rest : List Value} {own : String} {D : va_G} {A : Nat → Prop} {tys : List (ClassId × FieldType)} {ad ks : List Nat} {P : sgPm} {H0 : Heap} {index : Nat} {base : Nat} {st0 : List Value} {a : Nat}
theorem gf_X12_34  (X : CallFix p m c cc nL s args sg_tbl own) (hK : va_K D vwCl tys s) (hG : sgG (KT P) D vwCl A tys ad ks H) (ha : isK ad ks 12 a) (hl : Cond.fieldLink own index "LawnAheadModel" "law" "I" ∈ sg_tbl) (hdg : decode cc pc = .ok (.getfield index, 3)) (kk : ∀ x : Int32, iv (-1) 3 x → fld D H 12 a 34 (.int x) → W p l e R s m args below meth c H locs cells slots Q (F0 m (pc + 3) ls (.int x :: rest))) : W p l e R s m args below meth c H locs cells slots Q (F0 m pc ls (.ref a :: rest)) :=
  sg_get X hK hG ha (k := 12) (ci := 12) rfl (C := RX12) (T := TX12) (N := 53) rfl inL_X12 34 (by decide) rfl hl (fun _ h => h) hdg (fun v hv hf => by obtain ⟨x, rfl, hx⟩ := hv; exact kk x hx hf)
theorem gf_X12_35  (X : CallFix p m c cc nL s args sg_tbl own) (hK : va_K D vwCl tys s) (hG : sgG (KT P) D vwCl A tys ad ks H) (ha : isK ad ks 12 a) (hl : Cond.fieldLink own index "LawnAheadModel" "drought" "I" ∈ sg_tbl) (hdg : decode cc pc = .ok (.getfield index, 3)) (kk : ∀ x : Int32, iv P.2.2.2.2.2.1 P.2.2.2.2.2.1 x → fld D H 12 a 35 (.int x) → W p l e R s m args below meth c H locs cells slots Q (F0 m (pc + 3) ls (.int x :: rest))) : W p l e R s m args below meth c H locs cells slots Q (F0 m pc ls (.ref a :: rest)) :=
  sg_get X hK hG ha (k := 12) (ci := 12) rfl (C := RX12) (T := TX12) (N := 53) rfl inL_X12 35 (by decide) rfl hl (fun _ h => h) hdg (fun v hv hf => by obtain ⟨x, rfl, hx⟩ := hv; exact kk x hx hf)
theorem gf_X12_39  (X : CallFix p m c cc nL s args sg_tbl own) (hK : va_K D vwCl tys s) (hG : sgG (KT P) D vwCl A tys ad ks H) (ha : isK ad ks 12 a) (hl : Cond.fieldLink own index "LawnAheadModel" "acts" "I" ∈ sg_tbl) (hdg : decode cc pc = .ok (.getfield index, 3)) (kk : ∀ x : Int32, iv 0 40 x → fld D H 12 a 39 (.int x) → W p l e R s m args below meth c H locs cells slots Q (F0 m (pc + 3) ls (.int x :: rest))) : W p l e R s m args below meth c H locs cells slots Q (F0 m pc ls (.ref a :: rest)) :=
  sg_get X hK hG ha (k := 12) (ci := 12) rfl (C := RX12) (T := TX12) (N := 53) rfl inL_X12 39 (by decide) rfl hl (fun _ h => h) hdg (fun v hv hf => by obtain ⟨x, rfl, hx⟩ := hv; exact kk x hx hf)
theorem gf_X12_6  (X : CallFix p m c cc nL s args sg_tbl own) (hK : va_K D vwCl tys s) (hG : sgG (KT P) D vwCl A tys ad ks H) (ha : isK ad ks 12 a) (hl : Cond.fieldLink own index "LawnAheadModel" "length" "I" ∈ sg_tbl) (hdg : decode cc pc = .ok (.getfield index, 3)) (kk : ∀ x : Int32, iv 0 240 x → fld D H 12 a 6 (.int x) → W p l e R s m args below meth c H locs cells slots Q (F0 m (pc + 3) ls (.int x :: rest))) : W p l e R s m args below meth c H locs cells slots Q (F0 m pc ls (.ref a :: rest)) :=
  sg_get X hK hG ha (k := 12) (ci := 12) rfl (C := RX12) (T := TX12) (N := 53) rfl inL_X12 6 (by decide) rfl hl (fun _ h => h) hdg (fun v hv hf => by obtain ⟨x, rfl, hx⟩ := hv; exact kk x hx hf)
theorem gf_X12_7  (X : CallFix p m c cc nL s args sg_tbl own) (hK : va_K D vwCl tys s) (hG : sgG (KT P) D vwCl A tys ad ks H) (ha : isK ad ks 12 a) (hl : Cond.fieldLink own index "LawnAheadModel" "lawMany" "I" ∈ sg_tbl) (hdg : decode cc pc = .ok (.getfield index, 3)) (kk : ∀ x : Int32, iv 0 4 x → iv (P.2.2.2.2.2.2.2.2.1.val : Int) (P.2.2.2.2.2.2.2.2.1.val : Int) x → fld D H 12 a 7 (.int x) → W p l e R s m args below meth c H locs cells slots Q (F0 m (pc + 3) ls (.int x :: rest))) : W p l e R s m args below meth c H locs cells slots Q (F0 m pc ls (.ref a :: rest)) :=
  sg_get X hK hG ha (k := 12) (ci := 12) rfl (C := RX12) (T := TX12) (N := 53) rfl inL_X12 7 (by decide) rfl hl (fun _ h => h) hdg (fun v hv hf => by obtain ⟨x, rfl, hx⟩ := hv; exact kk x (sg_pin4 hx) hx hf)
set_option maxHeartbeats 8000000 in
set_option maxRecDepth 100000 in
theorem m_X12_longest_1 (l : Launch) {D : va_G} {base : Nat} {tys : List (ClassId × FieldType)} {ad ks : List Nat} {P : sgPm} (hp4 : P.2.2.2.2.1 = true) (a0 : Nat) (h0 : isK ad ks 12 a0) : sgMi l (KT P) D vwCl base tys ad ks yX12_longest cX12_longest 1 (some .int) ({ frames := 3, cells := 0, slots := 0, locals := 73 }) [.ref a0] (fun r : Int32 => True) := by
  refine sg_ofW (by decide +kernel) (Nat.le_of_ble_eq_true rfl) (fun p e s m below meth c X hr hlk hb hK hC hG ls hl => ?_)
  have hS : va_S (fun q : Nat => base ≤ q) s.heap s.heap [] := va_S.rf
  have hl : lv_has ls 1 [(0, .ref a0)] := hl
  refine lv_aload_n X.1 X.2.1 dX12_longest_0 rfl (lv_at hl 0 rfl) ?_
  refine lv_iconst (v := 0) X.1 X.2.1 dX12_longest_1 (by decide +kernel) ?_
  refine pf_X12_0 X hK hG hS h0 wl_6_178 ⟨_, rfl, (iv_of (iv_c 0 (a := 0) (b := 0) (by decide +kernel)) (a' := (-2147483648)) (b' := 2147483647) (by decide +kernel))⟩ dX12_longest_2 (fun H locs hG hS ku1 ru1 => ?_)
  refine lv_aload_n X.1 X.2.1 dX12_longest_5 rfl (lv_at hl 0 rfl) ?_
  refine gf_X12_23s X hK hG h0 hp4 wl_6_201 dX12_longest_6 (fun f2 hf2 kf2 => ?_)
  refine lv_if_ne (tgt := 16) X.1 X.2.1 dX12_longest_9 (by decide) (fun c3 => ?_) (fun c3 => ?_)
  · refine lv_aload_n X.1 X.2.1 dX12_longest_16 rfl (lv_at hl 0 rfl) ?_
    refine gf_X12_32 X hK hG h0 wl_6_210 dX12_longest_17 (fun q4 hq4 kq4 => ?_)
    refine lv_iconst (v := 0) X.1 X.2.1 dX12_longest_20 (by decide +kernel) ?_
    refine al_54 X hK hG hq4 (iv_vpin (iv_c 0 (a := 0) (b := 0) (by decide +kernel)) (by decide +kernel)) dX12_longest_21 (fun f5 hf5 => ?_)
    have of5 := hf5
    have hf5 : iv (-2147483648) 2147483647 f5 := sg_sp_now hf5 (iv_c 0 (a := 0) (b := 0) (by decide +kernel)) (by decide +kernel) rfl
    refine lv_aload_n X.1 X.2.1 dX12_longest_22 rfl (lv_at hl 0 rfl) ?_
    refine gf_X12_18 X hK hG h0 wl_6_196 dX12_longest_23 (fun q6 hq6 kq6 => ?_)
    refine ca_X12_longestIn_1 X hK hG hC (fun _ h => h) hS hb hp4 f5 q6 hq6 wl_7_199 hl.1 (rest := []) rfl (Nat.le_of_ble_eq_true rfl) ⟨Nat.le_of_ble_eq_true rfl, Nat.le_of_ble_eq_true rfl⟩ ⟨Nat.le_of_ble_eq_true rfl, Nat.le_of_ble_eq_true rfl⟩ dX12_longest_26 (fun f7 locs hf7 hS => ?_)
    exact sg_iret X hr hlk hb hK hC hG hS trivial dX12_longest_29
  · exact ((iv_no (a := 1) (b := 0) (iv_eqm c3 hf2 (iv_c 0 (a := 0) (b := 0) (by decide +kernel)) (by decide +kernel)) (by decide +kernel))).elim

theorem ca_X12_longest_1  (X : CallFix p m c cc nL s args sg_tbl own) (hK : va_K D vwCl tys s) (hG : sgG (KT P) D vwCl (fun q : Nat => base ≤ q) tys ad ks H) (hC : sgC base s) (hS : va_S (fun q : Nat => base ≤ q) s.heap H locs) (hb : base ≤ s.heap.size) (hp4 : P.2.2.2.2.1 = true) (a0 : Nat) (h0 : isK ad ks 12 a0) (hl : Cond.methodLink own index yX12_longest ∈ sg_tbl) (hsize : ls.size = nL) (hst : st0 = [].reverse ++ .ref a0 :: rest) (hW : (rest.map fun v => v.category).sum ≤ 8) (hR : 4 ≤ R.frames ∧ 93 ≤ R.locals) (hf : cells ≤ R.cells ∧ slots ≤ R.slots) (hdg : decode cc pc = .ok (.invokevirtual index, 3)) (kk : ∀ (r : Int32) (H1 : Heap) (locs1 : List Loc), (fun r : Int32 => True) r → sgG (KT P) D vwCl (fun q : Nat => base ≤ q) tys ad ks H1 → va_S (fun q : Nat => base ≤ q) s.heap H1 locs1 → W p l e R s m args below meth c H1 locs1 cells slots Q (F0 m (pc + 3) ls (.int r :: rest))) : W p l e R s m args below meth c H locs cells slots Q (F0 m pc ls st0) :=
  sg_callVi X hK hG hC hS hb (m_X12_longest_1 l hp4 a0 h0) h0 (k := 12) (ci := 12) rfl (C := RX12) (T := TX12) (N := 53) rfl wl_9_149 wl_1_13 wl_9_147 wl_9_148 (n := 0) (by decide +kernel) rfl rfl rfl hl hsize hst hW hR hf hdg kk

set_option maxHeartbeats 8000000 in
set_option maxRecDepth 100000 in
theorem m_X12_count_1 (l : Launch) {D : va_G} {base : Nat} {tys : List (ClassId × FieldType)} {ad ks : List Nat} {P : sgPm} (hp4 : P.2.2.2.2.1 = true) (a0 : Nat) (h0 : isK ad ks 12 a0) (x1 : Int32) : sgMi l (KT P) D vwCl base tys ad ks yX12_count cX12_count 2 (some .int) ({ frames := 1, cells := 0, slots := 0, locals := 20 }) [.ref a0, .int x1] (fun r : Int32 => True) := by
  refine sg_ofW (by decide +kernel) (Nat.le_of_ble_eq_true rfl) (fun p e s m below meth c X hr hlk hb hK hC hG ls hl => ?_)
  have hS : va_S (fun q : Nat => base ≤ q) s.heap s.heap [] := va_S.rf
  have hl : lv_has ls 2 [(0, .ref a0), (1, .int x1)] := hl
  refine lv_aload_n X.1 X.2.1 dX12_count_0 rfl (lv_at hl 0 rfl) ?_
  refine lv_iconst (v := 0) X.1 X.2.1 dX12_count_1 (by decide +kernel) ?_
  refine pf_X12_0 X hK hG hS h0 wl_6_178 ⟨_, rfl, (iv_of (iv_c 0 (a := 0) (b := 0) (by decide +kernel)) (a' := (-2147483648)) (b' := 2147483647) (by decide +kernel))⟩ dX12_count_2 (fun H locs hG hS ku1 ru1 => ?_)
  refine lv_iload_n X.1 X.2.1 dX12_count_5 rfl (lv_at hl 1 rfl) ?_
  by_cases c2 : x1 = 0
  · refine lv_tableIn (tgt := 84) (off := 78) X.1 X.2.1 dX12_count_6 (by rw [c2]; decide +kernel) (by rw [c2]; decide +kernel) (by rw [c2]; rfl) (by decide) ?_
    refine lv_aload_n X.1 X.2.1 dX12_count_84 rfl (lv_at hl 0 rfl) ?_
    refine gf_X12_23s X hK hG h0 hp4 wl_6_201 dX12_count_85 (fun f3 hf3 kf3 => ?_)
    exact sg_iret X hr hlk hb hK hC hG hS trivial dX12_count_88
  by_cases c4 : x1 = 1
  · refine lv_tableIn (tgt := 89) (off := 83) X.1 X.2.1 dX12_count_6 (by rw [c4]; decide +kernel) (by rw [c4]; decide +kernel) (by rw [c4]; rfl) (by decide) ?_
    refine lv_aload_n X.1 X.2.1 dX12_count_89 rfl (lv_at hl 0 rfl) ?_
    refine gf_X12_32 X hK hG h0 wl_6_210 dX12_count_90 (fun q5 hq5 kq5 => ?_)
    refine lv_iconst (v := 0) X.1 X.2.1 dX12_count_93 (by decide +kernel) ?_
    refine al_54 X hK hG hq5 (iv_vpin (iv_c 0 (a := 0) (b := 0) (by decide +kernel)) (by decide +kernel)) dX12_count_94 (fun f6 hf6 => ?_)
    have of6 := hf6
    have hf6 : iv (-2147483648) 2147483647 f6 := sg_sp_now hf6 (iv_c 0 (a := 0) (b := 0) (by decide +kernel)) (by decide +kernel) rfl
    refine ca_J6_bitCount_0f7a4 X hK hG hC (fun _ h => h) hS hb f6 wl_8_68 hl.1 (rest := []) rfl (Nat.le_of_ble_eq_true rfl) ⟨Nat.le_of_ble_eq_true rfl, Nat.le_of_ble_eq_true rfl⟩ ⟨Nat.le_of_ble_eq_true rfl, Nat.le_of_ble_eq_true rfl⟩ dX12_count_95 (fun f7 locs hf7 hS => ?_)
    exact sg_iret X hr hlk hb hK hC hG hS trivial dX12_count_98
  by_cases c8 : x1 = 2
  · refine lv_tableIn (tgt := 99) (off := 93) X.1 X.2.1 dX12_count_6 (by rw [c8]; decide +kernel) (by rw [c8]; decide +kernel) (by rw [c8]; rfl) (by decide) ?_
    refine lv_aload_n X.1 X.2.1 dX12_count_99 rfl (lv_at hl 0 rfl) ?_
    refine gf_X12_7 X hK hG h0 wl_6_185 dX12_count_100 (fun f9 hf9 pf9 kf9 => ?_)
    exact sg_iret X hr hlk hb hK hC hG hS trivial dX12_count_103
  by_cases c10 : x1 = 3
  · refine lv_tableIn (tgt := 104) (off := 98) X.1 X.2.1 dX12_count_6 (by rw [c10]; decide +kernel) (by rw [c10]; decide +kernel) (by rw [c10]; rfl) (by decide) ?_
    refine lv_aload_n X.1 X.2.1 dX12_count_104 rfl (lv_at hl 0 rfl) ?_
    refine gf_X12_29 X hK hG h0 wl_6_207 dX12_count_105 (fun f11 hf11 pf11 kf11 => ?_)
    exact sg_iret X hr hlk hb hK hC hG hS trivial dX12_count_108
  by_cases c12 : x1 = 4
  · refine lv_tableIn (tgt := 109) (off := 103) X.1 X.2.1 dX12_count_6 (by rw [c12]; decide +kernel) (by rw [c12]; decide +kernel) (by rw [c12]; rfl) (by decide) ?_
    refine lv_aload_n X.1 X.2.1 dX12_count_109 rfl (lv_at hl 0 rfl) ?_
    refine gf_X12_6 X hK hG h0 wl_6_184 dX12_count_110 (fun f13 hf13 kf13 => ?_)
    exact sg_iret X hr hlk hb hK hC hG hS trivial dX12_count_113
  by_cases c14 : x1 = 5
  · refine lv_tableIn (tgt := 114) (off := 108) X.1 X.2.1 dX12_count_6 (by rw [c14]; decide +kernel) (by rw [c14]; decide +kernel) (by rw [c14]; rfl) (by decide) ?_
    refine lv_aload_n X.1 X.2.1 dX12_count_114 rfl (lv_at hl 0 rfl) ?_
    refine gf_X12_34 X hK hG h0 wl_6_212 dX12_count_115 (fun f15 hf15 kf15 => ?_)
    exact sg_iret X hr hlk hb hK hC hG hS trivial dX12_count_118
  by_cases c16 : x1 = 6
  · refine lv_tableIn (tgt := 119) (off := 113) X.1 X.2.1 dX12_count_6 (by rw [c16]; decide +kernel) (by rw [c16]; decide +kernel) (by rw [c16]; rfl) (by decide) ?_
    refine lv_aload_n X.1 X.2.1 dX12_count_119 rfl (lv_at hl 0 rfl) ?_
    refine gf_X12_32 X hK hG h0 wl_6_210 dX12_count_120 (fun q17 hq17 kq17 => ?_)
    refine lv_iconst (v := 4) X.1 X.2.1 dX12_count_123 (by decide +kernel) ?_
    refine al_54 X hK hG hq17 (iv_vpin (iv_c 4 (a := 4) (b := 4) (by decide +kernel)) (by decide +kernel)) dX12_count_124 (fun f18 hf18 => ?_)
    have of18 := hf18
    have hf18 : iv (-2147483648) 2147483647 f18 := sg_sp_now hf18 (iv_c 4 (a := 4) (b := 4) (by decide +kernel)) (by decide +kernel) rfl
    exact sg_iret X hr hlk hb hK hC hG hS trivial dX12_count_125
  by_cases c19 : x1 = 7
  · refine lv_tableIn (tgt := 126) (off := 120) X.1 X.2.1 dX12_count_6 (by rw [c19]; decide +kernel) (by rw [c19]; decide +kernel) (by rw [c19]; rfl) (by decide) ?_
    refine lv_aload_n X.1 X.2.1 dX12_count_126 rfl (lv_at hl 0 rfl) ?_
    refine gf_X12_32 X hK hG h0 wl_6_210 dX12_count_127 (fun q20 hq20 kq20 => ?_)
    refine lv_iconst (v := 2) X.1 X.2.1 dX12_count_130 (by decide +kernel) ?_
    refine al_54 X hK hG hq20 (iv_vpin (iv_c 2 (a := 2) (b := 2) (by decide +kernel)) (by decide +kernel)) dX12_count_131 (fun f21 hf21 => ?_)
    have of21 := hf21
    have hf21 : iv 0 1 f21 := sg_sp_now hf21 (iv_c 2 (a := 2) (b := 2) (by decide +kernel)) (by decide +kernel) rfl
    exact sg_iret X hr hlk hb hK hC hG hS trivial dX12_count_132
  by_cases c22 : x1 = 8
  · refine lv_tableIn (tgt := 133) (off := 127) X.1 X.2.1 dX12_count_6 (by rw [c22]; decide +kernel) (by rw [c22]; decide +kernel) (by rw [c22]; rfl) (by decide) ?_
    refine lv_aload_n X.1 X.2.1 dX12_count_133 rfl (lv_at hl 0 rfl) ?_
    refine gf_X12_32 X hK hG h0 wl_6_210 dX12_count_134 (fun q23 hq23 kq23 => ?_)
    refine lv_iconst (v := 3) X.1 X.2.1 dX12_count_137 (by decide +kernel) ?_
    refine al_54 X hK hG hq23 (iv_vpin (iv_c 3 (a := 3) (b := 3) (by decide +kernel)) (by decide +kernel)) dX12_count_138 (fun f24 hf24 => ?_)
    have of24 := hf24
    have hf24 : iv (-2147483648) 2147483647 f24 := sg_sp_now hf24 (iv_c 3 (a := 3) (b := 3) (by decide +kernel)) (by decide +kernel) rfl
    exact sg_iret X hr hlk hb hK hC hG hS trivial dX12_count_139
  by_cases c25 : x1 = 9
  · refine lv_tableIn (tgt := 140) (off := 134) X.1 X.2.1 dX12_count_6 (by rw [c25]; decide +kernel) (by rw [c25]; decide +kernel) (by rw [c25]; rfl) (by decide) ?_
    refine lv_aload_n X.1 X.2.1 dX12_count_140 rfl (lv_at hl 0 rfl) ?_
    refine gf_X12_32 X hK hG h0 wl_6_210 dX12_count_141 (fun q26 hq26 kq26 => ?_)
    refine lv_iconst (v := 5) X.1 X.2.1 dX12_count_144 (by decide +kernel) ?_
    refine al_54 X hK hG hq26 (iv_vpin (iv_c 5 (a := 5) (b := 5) (by decide +kernel)) (by decide +kernel)) dX12_count_145 (fun f27 hf27 => ?_)
    have of27 := hf27
    have hf27 : iv (-2147483648) 2147483647 f27 := sg_sp_now hf27 (iv_c 5 (a := 5) (b := 5) (by decide +kernel)) (by decide +kernel) rfl
    exact sg_iret X hr hlk hb hK hC hG hS trivial dX12_count_146
  by_cases c28 : x1 = 10
  · refine lv_tableIn (tgt := 147) (off := 141) X.1 X.2.1 dX12_count_6 (by rw [c28]; decide +kernel) (by rw [c28]; decide +kernel) (by rw [c28]; rfl) (by decide) ?_
    refine lv_aload_n X.1 X.2.1 dX12_count_147 rfl (lv_at hl 0 rfl) ?_
    refine gf_X12_32 X hK hG h0 wl_6_210 dX12_count_148 (fun q29 hq29 kq29 => ?_)
    refine lv_bipush (v := 6) X.1 X.2.1 dX12_count_151 (by decide +kernel) ?_
    refine al_54 X hK hG hq29 (iv_vpin (iv_c 6 (a := 6) (b := 6) (by decide +kernel)) (by decide +kernel)) dX12_count_153 (fun f30 hf30 => ?_)
    have of30 := hf30
    have hf30 : iv (-2147483648) 2147483647 f30 := sg_sp_now hf30 (iv_c 6 (a := 6) (b := 6) (by decide +kernel)) (by decide +kernel) rfl
    exact sg_iret X hr hlk hb hK hC hG hS trivial dX12_count_154
  by_cases c31 : x1 = 11
  · refine lv_tableIn (tgt := 155) (off := 149) X.1 X.2.1 dX12_count_6 (by rw [c31]; decide +kernel) (by rw [c31]; decide +kernel) (by rw [c31]; rfl) (by decide) ?_
    refine lv_aload_n X.1 X.2.1 dX12_count_155 rfl (lv_at hl 0 rfl) ?_
    refine gf_X12_35 X hK hG h0 wl_6_213 dX12_count_156 (fun f32 hf32 kf32 => ?_)
    exact sg_iret X hr hlk hb hK hC hG hS trivial dX12_count_159
  by_cases c33 : x1 = 12
  · refine lv_tableIn (tgt := 160) (off := 154) X.1 X.2.1 dX12_count_6 (by rw [c33]; decide +kernel) (by rw [c33]; decide +kernel) (by rw [c33]; rfl) (by decide) ?_
    refine lv_aload_n X.1 X.2.1 dX12_count_160 rfl (lv_at hl 0 rfl) ?_
    refine gf_X12_50 X hK hG h0 wl_6_228 dX12_count_161 (fun f34 hf34 kf34 => ?_)
    exact sg_iret X hr hlk hb hK hC hG hS trivial dX12_count_164
  by_cases c35 : x1 = 13
  · refine lv_tableIn (tgt := 165) (off := 159) X.1 X.2.1 dX12_count_6 (by rw [c35]; decide +kernel) (by rw [c35]; decide +kernel) (by rw [c35]; rfl) (by decide) ?_
    refine lv_aload_n X.1 X.2.1 dX12_count_165 rfl (lv_at hl 0 rfl) ?_
    refine gf_X12_32 X hK hG h0 wl_6_210 dX12_count_166 (fun q36 hq36 kq36 => ?_)
    refine lv_bipush (v := 8) X.1 X.2.1 dX12_count_169 (by decide +kernel) ?_
    refine al_54 X hK hG hq36 (iv_vpin (iv_c 8 (a := 8) (b := 8) (by decide +kernel)) (by decide +kernel)) dX12_count_171 (fun f37 hf37 => ?_)
    have of37 := hf37
    have hf37 : iv 0 60 f37 := sg_sp_now hf37 (iv_c 8 (a := 8) (b := 8) (by decide +kernel)) (by decide +kernel) rfl
    exact sg_iret X hr hlk hb hK hC hG hS trivial dX12_count_172
  by_cases c38 : x1 = 14
  · refine lv_tableIn (tgt := 173) (off := 167) X.1 X.2.1 dX12_count_6 (by rw [c38]; decide +kernel) (by rw [c38]; decide +kernel) (by rw [c38]; rfl) (by decide) ?_
    refine lv_aload_n X.1 X.2.1 dX12_count_173 rfl (lv_at hl 0 rfl) ?_
    refine gf_X12_39 X hK hG h0 wl_6_217 dX12_count_174 (fun f39 hf39 kf39 => ?_)
    exact sg_iret X hr hlk hb hK hC hG hS trivial dX12_count_177
  by_cases c40 : x1 = 15
  · refine lv_tableIn (tgt := 178) (off := 172) X.1 X.2.1 dX12_count_6 (by rw [c40]; decide +kernel) (by rw [c40]; decide +kernel) (by rw [c40]; rfl) (by decide) ?_
    refine lv_aload_n X.1 X.2.1 dX12_count_178 rfl (lv_at hl 0 rfl) ?_
    refine gf_X12_32 X hK hG h0 wl_6_210 dX12_count_179 (fun q41 hq41 kq41 => ?_)
    refine lv_iconst (v := 0) X.1 X.2.1 dX12_count_182 (by decide +kernel) ?_
    refine al_54 X hK hG hq41 (iv_vpin (iv_c 0 (a := 0) (b := 0) (by decide +kernel)) (by decide +kernel)) dX12_count_183 (fun f42 hf42 => ?_)
    have of42 := hf42
    have hf42 : iv (-2147483648) 2147483647 f42 := sg_sp_now hf42 (iv_c 0 (a := 0) (b := 0) (by decide +kernel)) (by decide +kernel) rfl
    exact sg_iret X hr hlk hb hK hC hG hS trivial dX12_count_184
  refine lv_tableOut (tgt := 185) X.1 X.2.1 dX12_count_6 (by have tc2 := iv_nt 0 c2 (by decide +kernel); have tc4 := iv_nt 1 c4 (by decide +kernel); have tc8 := iv_nt 2 c8 (by decide +kernel); have tc10 := iv_nt 3 c10 (by decide +kernel); have tc12 := iv_nt 4 c12 (by decide +kernel); have tc14 := iv_nt 5 c14 (by decide +kernel); have tc16 := iv_nt 6 c16 (by decide +kernel); have tc19 := iv_nt 7 c19 (by decide +kernel); have tc22 := iv_nt 8 c22 (by decide +kernel); have tc25 := iv_nt 9 c25 (by decide +kernel); have tc28 := iv_nt 10 c28 (by decide +kernel); have tc31 := iv_nt 11 c31 (by decide +kernel); have tc33 := iv_nt 12 c33 (by decide +kernel); have tc35 := iv_nt 13 c35 (by decide +kernel); have tc38 := iv_nt 14 c38 (by decide +kernel); have tc40 := iv_nt 15 c40 (by decide +kernel); have b1 := ((iv_top x1)).1; have b2 := ((iv_top x1)).2; omega) (by decide) ?_
  refine lv_ldcw X.1 X.2.1 X.2.2.2.1 (X.2.2.2.2 _ wl_8_190) dX12_count_185 ?_
  exact sg_iret X hr hlk hb hK hC hG hS trivial dX12_count_188

theorem ca_X12_count_1  (X : CallFix p m c cc nL s args sg_tbl own) (hK : va_K D vwCl tys s) (hG : sgG (KT P) D vwCl (fun q : Nat => base ≤ q) tys ad ks H) (hC : sgC base s) (hS : va_S (fun q : Nat => base ≤ q) s.heap H locs) (hb : base ≤ s.heap.size) (hp4 : P.2.2.2.2.1 = true) (a0 : Nat) (h0 : isK ad ks 12 a0) (x1 : Int32) (hl : Cond.methodLink own index yX12_count ∈ sg_tbl) (hsize : ls.size = nL) (hst : st0 = [.int x1].reverse ++ .ref a0 :: rest) (hW : (rest.map fun v => v.category).sum ≤ 8) (hR : 2 ≤ R.frames ∧ 41 ≤ R.locals) (hf : cells ≤ R.cells ∧ slots ≤ R.slots) (hdg : decode cc pc = .ok (.invokevirtual index, 3)) (kk : ∀ (r : Int32) (H1 : Heap) (locs1 : List Loc), (fun r : Int32 => True) r → sgG (KT P) D vwCl (fun q : Nat => base ≤ q) tys ad ks H1 → va_S (fun q : Nat => base ≤ q) s.heap H1 locs1 → W p l e R s m args below meth c H1 locs1 cells slots Q (F0 m (pc + 3) ls (.int r :: rest))) : W p l e R s m args below meth c H locs cells slots Q (F0 m pc ls st0) :=
  sg_callVi X hK hG hC hS hb (m_X12_count_1 l hp4 a0 h0 x1) h0 (k := 12) (ci := 12) rfl (C := RX12) (T := TX12) (N := 53) rfl wl_9_161 wl_1_13 wl_9_159 wl_9_160 (n := 1) (by decide +kernel) rfl rfl rfl hl hsize hst hW hR hf hdg kk
end
