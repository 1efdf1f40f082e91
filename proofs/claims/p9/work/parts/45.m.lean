abbrev cX12_games : ByteArray := prog_14_method_73_code
def yX12_games : MethodName := ⟨RX12, "games", "(IJ)I"⟩
abbrev cX12_sit : ByteArray := prog_14_method_66_code
def yX12_sit : MethodName := ⟨RX12, "sit", "()I"⟩
abbrev cX12_sumOf : ByteArray := prog_14_method_108_code
def yX12_sumOf : MethodName := ⟨RX12, "sumOf", "(I)I"⟩
abbrev cX12_where : ByteArray := prog_14_method_123_code
def yX12_where : MethodName := ⟨RX12, "where", "(I)I"⟩
theorem dX12_games_0 : decode cX12_games 0 = .ok (.aload_n 0, 1) := by decide +kernel
theorem dX12_games_1 : decode cX12_games 1 = .ok (.iconst 0, 1) := by decide +kernel
theorem dX12_games_2 : decode cX12_games 2 = .ok (.putfield 94, 3) := by decide +kernel
theorem dX12_games_5 : decode cX12_games 5 = .ok (.aload_n 0, 1) := by decide +kernel
theorem dX12_games_6 : decode cX12_games 6 = .ok (.aload_n 0, 1) := by decide +kernel
theorem dX12_games_7 : decode cX12_games 7 = .ok (.getfield 52, 3) := by decide +kernel
theorem dX12_games_10 : decode cX12_games 10 = .ok (.invokevirtual 363, 3) := by decide +kernel
theorem dX12_games_13 : decode cX12_games 13 = .ok (.ifCond .eq 15, 3) := by decide +kernel
theorem dX12_games_28 : decode cX12_games 28 = .ok (.iconst (-1), 1) := by decide +kernel
theorem dX12_games_29 : decode cX12_games 29 = .ok (.ireturn, 1) := by decide +kernel
theorem dX12_sit_0 : decode cX12_sit 0 = .ok (.aload_n 0, 1) := by decide +kernel
theorem dX12_sit_1 : decode cX12_sit 1 = .ok (.iconst 0, 1) := by decide +kernel
theorem dX12_sit_2 : decode cX12_sit 2 = .ok (.putfield 94, 3) := by decide +kernel
theorem dX12_sit_5 : decode cX12_sit 5 = .ok (.aload_n 0, 1) := by decide +kernel
theorem dX12_sit_6 : decode cX12_sit 6 = .ok (.aload_n 0, 1) := by decide +kernel
theorem dX12_sit_7 : decode cX12_sit 7 = .ok (.getfield 52, 3) := by decide +kernel
theorem dX12_sit_10 : decode cX12_sit 10 = .ok (.invokevirtual 363, 3) := by decide +kernel
theorem dX12_sit_13 : decode cX12_sit 13 = .ok (.ifCond .ne 5, 3) := by decide +kernel
theorem dX12_sit_16 : decode cX12_sit 16 = .ok (.iconst (-1), 1) := by decide +kernel
theorem dX12_sit_17 : decode cX12_sit 17 = .ok (.ireturn, 1) := by decide +kernel
theorem dX12_sumOf_0 : decode cX12_sumOf 0 = .ok (.aload_n 0, 1) := by decide +kernel
theorem dX12_sumOf_1 : decode cX12_sumOf 1 = .ok (.iconst 0, 1) := by decide +kernel
theorem dX12_sumOf_2 : decode cX12_sumOf 2 = .ok (.putfield 94, 3) := by decide +kernel
theorem dX12_sumOf_5 : decode cX12_sumOf 5 = .ok (.aload_n 0, 1) := by decide +kernel
theorem dX12_sumOf_6 : decode cX12_sumOf 6 = .ok (.getfield 302, 3) := by decide +kernel
theorem dX12_sumOf_9 : decode cX12_sumOf 9 = .ok (.ifCond .eq 29, 3) := by decide +kernel
theorem dX12_sumOf_38 : decode cX12_sumOf 38 = .ok (.ldc_w 439, 3) := by decide +kernel
theorem dX12_sumOf_41 : decode cX12_sumOf 41 = .ok (.ireturn, 1) := by decide +kernel
theorem dX12_where_0 : decode cX12_where 0 = .ok (.aload_n 0, 1) := by decide +kernel
theorem dX12_where_1 : decode cX12_where 1 = .ok (.iconst 0, 1) := by decide +kernel
theorem dX12_where_2 : decode cX12_where 2 = .ok (.putfield 94, 3) := by decide +kernel
theorem dX12_where_5 : decode cX12_where 5 = .ok (.aload_n 0, 1) := by decide +kernel
theorem dX12_where_6 : decode cX12_where 6 = .ok (.getfield 302, 3) := by decide +kernel
theorem dX12_where_9 : decode cX12_where 9 = .ok (.ifCond .eq 13, 3) := by decide +kernel
theorem dX12_where_22 : decode cX12_where 22 = .ok (.iconst (-1), 1) := by decide +kernel
theorem dX12_where_23 : decode cX12_where 23 = .ok (.ireturn, 1) := by decide +kernel
theorem wl_9_141 : (.code yX12_where cX12_where 6 (some .int) : Cond) ∈ sg_tbl := tb_9 _ (List.mem_of_getElem? (i := 141) (by decide +kernel)) (by decide +kernel)
theorem wl_9_139 : (.instanceMethod yX12_where : Cond) ∈ sg_tbl := tb_9 _ (List.mem_of_getElem? (i := 139) (by decide +kernel)) (by decide +kernel)
theorem wl_9_140 : (.selects RX12 yX12_where yX12_where : Cond) ∈ sg_tbl := tb_9 _ (List.mem_of_getElem? (i := 140) (by decide +kernel)) (by decide +kernel)
theorem wl_9_54 : (.code yX12_sumOf cX12_sumOf 2 (some .int) : Cond) ∈ sg_tbl := tb_9 _ (List.mem_of_getElem? (i := 54) (by decide +kernel)) (by decide +kernel)
theorem wl_9_52 : (.instanceMethod yX12_sumOf : Cond) ∈ sg_tbl := tb_9 _ (List.mem_of_getElem? (i := 52) (by decide +kernel)) (by decide +kernel)
theorem wl_9_53 : (.selects RX12 yX12_sumOf yX12_sumOf : Cond) ∈ sg_tbl := tb_9 _ (List.mem_of_getElem? (i := 53) (by decide +kernel)) (by decide +kernel)
theorem wl_8_132 : (.code yX12_sit cX12_sit 1 (some .int) : Cond) ∈ sg_tbl := tb_8 _ (List.mem_of_getElem? (i := 132) (by decide +kernel)) (by decide +kernel)
theorem wl_8_130 : (.instanceMethod yX12_sit : Cond) ∈ sg_tbl := tb_8 _ (List.mem_of_getElem? (i := 130) (by decide +kernel)) (by decide +kernel)
theorem wl_8_131 : (.selects RX12 yX12_sit yX12_sit : Cond) ∈ sg_tbl := tb_8 _ (List.mem_of_getElem? (i := 131) (by decide +kernel)) (by decide +kernel)
theorem wl_8_150 : (.code yX12_games cX12_games 5 (some .int) : Cond) ∈ sg_tbl := tb_8 _ (List.mem_of_getElem? (i := 150) (by decide +kernel)) (by decide +kernel)
theorem wl_8_148 : (.instanceMethod yX12_games : Cond) ∈ sg_tbl := tb_8 _ (List.mem_of_getElem? (i := 148) (by decide +kernel)) (by decide +kernel)
theorem wl_8_149 : (.selects RX12 yX12_games yX12_games : Cond) ∈ sg_tbl := tb_8 _ (List.mem_of_getElem? (i := 149) (by decide +kernel)) (by decide +kernel)
section
variable {p : Program} {l : Launch} {e : Env} {R : Room} {s : State} {m : MethodId} {args : Array Value} {below : List Frame} {meth : Method} {c : Code} {H : Heap} {locs : List Loc} {cells slots : Nat} {Q : State → Prop} {cc : ByteArray} {nL pc : Nat} {ls : Array Slot} {rest : List Value} {own : String} {D : va_G} {A : Nat → Prop} {tys : List (ClassId × FieldType)} {ad ks : List Nat} {P : sgPm} {H0 : Heap} {index : Nat} {base : Nat} {st0 : List Value} {a : Nat}

set_option maxHeartbeats 8000000 in
set_option maxRecDepth 100000 in
theorem m_X12_where_0 (l : Launch) {D : va_G} {base : Nat} {tys : List (ClassId × FieldType)} {ad ks : List Nat} {P : sgPm} (hp4 : P.2.2.2.2.1 = false) (a0 : Nat) (h0 : isK ad ks 12 a0) (x1 : Int32) : sgMi l (KT P) D vwCl base tys ad ks yX12_where cX12_where 6 (some .int) ({ frames := 0, cells := 0, slots := 0, locals := 0 }) [.ref a0, .int x1] (fun r : Int32 => True) := by
  refine sg_ofW (by decide +kernel) (Nat.le_of_ble_eq_true rfl) (fun p e s m below meth c X hr hlk hb hK hC hG ls hl => ?_)
  have hS : va_S (fun q : Nat => base ≤ q) s.heap s.heap [] := va_S.rf
  have hl : lv_has ls 6 [(0, .ref a0), (1, .int x1)] := hl
  refine lv_aload_n X.1 X.2.1 dX12_where_0 rfl (lv_at hl 0 rfl) ?_
  refine lv_iconst (v := 0) X.1 X.2.1 dX12_where_1 (by decide +kernel) ?_
  refine pf_X12_0 X hK hG hS h0 wl_6_178 ⟨_, rfl, (iv_of (iv_c 0 (a := 0) (b := 0) (by decide +kernel)) (a' := (-2147483648)) (b' := 2147483647) (by decide +kernel))⟩ dX12_where_2 (fun H locs hG hS ku1 ru1 => ?_)
  refine lv_aload_n X.1 X.2.1 dX12_where_5 rfl (lv_at hl 0 rfl) ?_
  refine gf_X12_23n X hK hG h0 hp4 wl_6_201 dX12_where_6 (fun f2 hf2 kf2 => ?_)
  refine lv_if_eq (tgt := 22) X.1 X.2.1 dX12_where_9 (by decide) (fun c3 => ?_) (fun c3 => ?_)
  · refine lv_iconst (v := (-1)) X.1 X.2.1 dX12_where_22 (by decide +kernel) ?_
    exact sg_iret X hr hlk hb hK hC hG hS trivial dX12_where_23
  · exact ((c3 (iv_one hf2 (iv_c 0 (a := 0) (b := 0) (by decide +kernel)) (by decide +kernel)))).elim

theorem ca_X12_where_0  (X : CallFix p m c cc nL s args sg_tbl own) (hK : va_K D vwCl tys s) (hG : sgG (KT P) D vwCl (fun q : Nat => base ≤ q) tys ad ks H) (hC : sgC base s) (hS : va_S (fun q : Nat => base ≤ q) s.heap H locs) (hb : base ≤ s.heap.size) (hp4 : P.2.2.2.2.1 = false) (a0 : Nat) (h0 : isK ad ks 12 a0) (x1 : Int32) (hl : Cond.methodLink own index yX12_where ∈ sg_tbl) (hsize : ls.size = nL) (hst : st0 = [.int x1].reverse ++ .ref a0 :: rest) (hW : (rest.map fun v => v.category).sum ≤ 8) (hR : 1 ≤ R.frames ∧ 25 ≤ R.locals) (hf : cells ≤ R.cells ∧ slots ≤ R.slots) (hdg : decode cc pc = .ok (.invokevirtual index, 3)) (kk : ∀ (r : Int32) (H1 : Heap) (locs1 : List Loc), (fun r : Int32 => True) r → sgG (KT P) D vwCl (fun q : Nat => base ≤ q) tys ad ks H1 → va_S (fun q : Nat => base ≤ q) s.heap H1 locs1 → W p l e R s m args below meth c H1 locs1 cells slots Q (F0 m (pc + 3) ls (.int r :: rest))) : W p l e R s m args below meth c H locs cells slots Q (F0 m pc ls st0) :=
  sg_callVi X hK hG hC hS hb (m_X12_where_0 l hp4 a0 h0 x1) h0 (k := 12) (ci := 12) rfl (C := RX12) (T := TX12) (N := 53) rfl wl_9_141 wl_1_13 wl_9_139 wl_9_140 (n := 1) (by decide +kernel) rfl rfl rfl hl hsize hst hW hR hf hdg kk

set_option maxHeartbeats 8000000 in
set_option maxRecDepth 100000 in
theorem m_X12_sumOf_0 (l : Launch) {D : va_G} {base : Nat} {tys : List (ClassId × FieldType)} {ad ks : List Nat} {P : sgPm} (hp4 : P.2.2.2.2.1 = false) (a0 : Nat) (h0 : isK ad ks 12 a0) (x1 : Int32) : sgMi l (KT P) D vwCl base tys ad ks yX12_sumOf cX12_sumOf 2 (some .int) ({ frames := 0, cells := 0, slots := 0, locals := 0 }) [.ref a0, .int x1] (fun r : Int32 => True) := by
  refine sg_ofW (by decide +kernel) (Nat.le_of_ble_eq_true rfl) (fun p e s m below meth c X hr hlk hb hK hC hG ls hl => ?_)
  have hS : va_S (fun q : Nat => base ≤ q) s.heap s.heap [] := va_S.rf
  have hl : lv_has ls 2 [(0, .ref a0), (1, .int x1)] := hl
  refine lv_aload_n X.1 X.2.1 dX12_sumOf_0 rfl (lv_at hl 0 rfl) ?_
  refine lv_iconst (v := 0) X.1 X.2.1 dX12_sumOf_1 (by decide +kernel) ?_
  refine pf_X12_0 X hK hG hS h0 wl_6_178 ⟨_, rfl, (iv_of (iv_c 0 (a := 0) (b := 0) (by decide +kernel)) (a' := (-2147483648)) (b' := 2147483647) (by decide +kernel))⟩ dX12_sumOf_2 (fun H locs hG hS ku1 ru1 => ?_)
  refine lv_aload_n X.1 X.2.1 dX12_sumOf_5 rfl (lv_at hl 0 rfl) ?_
  refine gf_X12_23n X hK hG h0 hp4 wl_6_201 dX12_sumOf_6 (fun f2 hf2 kf2 => ?_)
  refine lv_if_eq (tgt := 38) X.1 X.2.1 dX12_sumOf_9 (by decide) (fun c3 => ?_) (fun c3 => ?_)
  · refine lv_ldcw X.1 X.2.1 X.2.2.2.1 (X.2.2.2.2 _ wl_8_190) dX12_sumOf_38 ?_
    exact sg_iret X hr hlk hb hK hC hG hS trivial dX12_sumOf_41
  · exact ((c3 (iv_one hf2 (iv_c 0 (a := 0) (b := 0) (by decide +kernel)) (by decide +kernel)))).elim

theorem ca_X12_sumOf_0  (X : CallFix p m c cc nL s args sg_tbl own) (hK : va_K D vwCl tys s) (hG : sgG (KT P) D vwCl (fun q : Nat => base ≤ q) tys ad ks H) (hC : sgC base s) (hS : va_S (fun q : Nat => base ≤ q) s.heap H locs) (hb : base ≤ s.heap.size) (hp4 : P.2.2.2.2.1 = false) (a0 : Nat) (h0 : isK ad ks 12 a0) (x1 : Int32) (hl : Cond.methodLink own index yX12_sumOf ∈ sg_tbl) (hsize : ls.size = nL) (hst : st0 = [.int x1].reverse ++ .ref a0 :: rest) (hW : (rest.map fun v => v.category).sum ≤ 8) (hR : 1 ≤ R.frames ∧ 21 ≤ R.locals) (hf : cells ≤ R.cells ∧ slots ≤ R.slots) (hdg : decode cc pc = .ok (.invokevirtual index, 3)) (kk : ∀ (r : Int32) (H1 : Heap) (locs1 : List Loc), (fun r : Int32 => True) r → sgG (KT P) D vwCl (fun q : Nat => base ≤ q) tys ad ks H1 → va_S (fun q : Nat => base ≤ q) s.heap H1 locs1 → W p l e R s m args below meth c H1 locs1 cells slots Q (F0 m (pc + 3) ls (.int r :: rest))) : W p l e R s m args below meth c H locs cells slots Q (F0 m pc ls st0) :=
  sg_callVi X hK hG hC hS hb (m_X12_sumOf_0 l hp4 a0 h0 x1) h0 (k := 12) (ci := 12) rfl (C := RX12) (T := TX12) (N := 53) rfl wl_9_54 wl_1_13 wl_9_52 wl_9_53 (n := 1) (by decide +kernel) rfl rfl rfl hl hsize hst hW hR hf hdg kk

set_option maxHeartbeats 8000000 in
set_option maxRecDepth 100000 in
theorem m_X12_sit_0 (l : Launch) {D : va_G} {base : Nat} {tys : List (ClassId × FieldType)} {ad ks : List Nat} {P : sgPm} (hp4 : P.2.2.2.2.1 = false) (a0 : Nat) (h0 : isK ad ks 12 a0) : sgMi l (KT P) D vwCl base tys ad ks yX12_sit cX12_sit 1 (some .int) ({ frames := 1, cells := 0, slots := 0, locals := 21 }) [.ref a0] (fun r : Int32 => True) := by
  refine sg_ofW (by decide +kernel) (Nat.le_of_ble_eq_true rfl) (fun p e s m below meth c X hr hlk hb hK hC hG ls hl => ?_)
  have hS : va_S (fun q : Nat => base ≤ q) s.heap s.heap [] := va_S.rf
  have hl : lv_has ls 1 [(0, .ref a0)] := hl
  refine lv_aload_n X.1 X.2.1 dX12_sit_0 rfl (lv_at hl 0 rfl) ?_
  refine lv_iconst (v := 0) X.1 X.2.1 dX12_sit_1 (by decide +kernel) ?_
  refine pf_X12_0 X hK hG hS h0 wl_6_178 ⟨_, rfl, (iv_of (iv_c 0 (a := 0) (b := 0) (by decide +kernel)) (a' := (-2147483648)) (b' := 2147483647) (by decide +kernel))⟩ dX12_sit_2 (fun H locs hG hS ku1 ru1 => ?_)
  refine lv_aload_n X.1 X.2.1 dX12_sit_5 rfl (lv_at hl 0 rfl) ?_
  refine lv_aload_n X.1 X.2.1 dX12_sit_6 rfl (lv_at hl 0 rfl) ?_
  refine gf_X12_32 X hK hG h0 wl_6_210 dX12_sit_7 (fun q2 hq2 kq2 => ?_)
  refine ca_X12_isOpen_0 X hK hG hC (fun _ h => h) hS hb hp4 a0 h0 q2 hq2 wl_8_94 hl.1 (rest := []) rfl (Nat.le_of_ble_eq_true rfl) ⟨Nat.le_of_ble_eq_true rfl, Nat.le_of_ble_eq_true rfl⟩ ⟨Nat.le_of_ble_eq_true rfl, Nat.le_of_ble_eq_true rfl⟩ dX12_sit_10 (fun f3 locs hf3 hS => ?_)
  refine lv_if_ne (tgt := 18) X.1 X.2.1 dX12_sit_13 (by decide) (fun c4 => ?_) (fun c4 => ?_)
  · exact ((c4 (iv_one hf3 (iv_c 0 (a := 0) (b := 0) (by decide +kernel)) (by decide +kernel)))).elim
  · refine lv_iconst (v := (-1)) X.1 X.2.1 dX12_sit_16 (by decide +kernel) ?_
    exact sg_iret X hr hlk hb hK hC hG hS trivial dX12_sit_17

theorem ca_X12_sit_0  (X : CallFix p m c cc nL s args sg_tbl own) (hK : va_K D vwCl tys s) (hG : sgG (KT P) D vwCl (fun q : Nat => base ≤ q) tys ad ks H) (hC : sgC base s) (hS : va_S (fun q : Nat => base ≤ q) s.heap H locs) (hb : base ≤ s.heap.size) (hp4 : P.2.2.2.2.1 = false) (a0 : Nat) (h0 : isK ad ks 12 a0) (hl : Cond.methodLink own index yX12_sit ∈ sg_tbl) (hsize : ls.size = nL) (hst : st0 = [].reverse ++ .ref a0 :: rest) (hW : (rest.map fun v => v.category).sum ≤ 8) (hR : 2 ≤ R.frames ∧ 41 ≤ R.locals) (hf : cells ≤ R.cells ∧ slots ≤ R.slots) (hdg : decode cc pc = .ok (.invokevirtual index, 3)) (kk : ∀ (r : Int32) (H1 : Heap) (locs1 : List Loc), (fun r : Int32 => True) r → sgG (KT P) D vwCl (fun q : Nat => base ≤ q) tys ad ks H1 → va_S (fun q : Nat => base ≤ q) s.heap H1 locs1 → W p l e R s m args below meth c H1 locs1 cells slots Q (F0 m (pc + 3) ls (.int r :: rest))) : W p l e R s m args below meth c H locs cells slots Q (F0 m pc ls st0) :=
  sg_callVi X hK hG hC hS hb (m_X12_sit_0 l hp4 a0 h0) h0 (k := 12) (ci := 12) rfl (C := RX12) (T := TX12) (N := 53) rfl wl_8_132 wl_1_13 wl_8_130 wl_8_131 (n := 0) (by decide +kernel) rfl rfl rfl hl hsize hst hW hR hf hdg kk

set_option maxHeartbeats 8000000 in
set_option maxRecDepth 100000 in
theorem m_X12_games_0 (l : Launch) {D : va_G} {base : Nat} {tys : List (ClassId × FieldType)} {ad ks : List Nat} {P : sgPm} (hp4 : P.2.2.2.2.1 = false) (a0 : Nat) (h0 : isK ad ks 12 a0) (x1 : Int32) (x2 : Int64) : sgMi l (KT P) D vwCl base tys ad ks yX12_games cX12_games 5 (some .int) ({ frames := 1, cells := 0, slots := 0, locals := 21 }) [.ref a0, .int x1, .long x2] (fun r : Int32 => True) := by
  refine sg_ofW (by decide +kernel) (Nat.le_of_ble_eq_true rfl) (fun p e s m below meth c X hr hlk hb hK hC hG ls hl => ?_)
  have hS : va_S (fun q : Nat => base ≤ q) s.heap s.heap [] := va_S.rf
  have hl : lv_has ls 5 [(0, .ref a0), (1, .int x1), (2, .long x2)] := hl
  refine lv_aload_n X.1 X.2.1 dX12_games_0 rfl (lv_at hl 0 rfl) ?_
  refine lv_iconst (v := 0) X.1 X.2.1 dX12_games_1 (by decide +kernel) ?_
  refine pf_X12_0 X hK hG hS h0 wl_6_178 ⟨_, rfl, (iv_of (iv_c 0 (a := 0) (b := 0) (by decide +kernel)) (a' := (-2147483648)) (b' := 2147483647) (by decide +kernel))⟩ dX12_games_2 (fun H locs hG hS ku1 ru1 => ?_)
  refine lv_aload_n X.1 X.2.1 dX12_games_5 rfl (lv_at hl 0 rfl) ?_
  refine lv_aload_n X.1 X.2.1 dX12_games_6 rfl (lv_at hl 0 rfl) ?_
  refine gf_X12_32 X hK hG h0 wl_6_210 dX12_games_7 (fun q2 hq2 kq2 => ?_)
  refine ca_X12_isOpen_0 X hK hG hC (fun _ h => h) hS hb hp4 a0 h0 q2 hq2 wl_8_94 hl.1 (rest := []) rfl (Nat.le_of_ble_eq_true rfl) ⟨Nat.le_of_ble_eq_true rfl, Nat.le_of_ble_eq_true rfl⟩ ⟨Nat.le_of_ble_eq_true rfl, Nat.le_of_ble_eq_true rfl⟩ dX12_games_10 (fun f3 locs hf3 hS => ?_)
  refine lv_if_eq (tgt := 28) X.1 X.2.1 dX12_games_13 (by decide) (fun c4 => ?_) (fun c4 => ?_)
  · refine lv_iconst (v := (-1)) X.1 X.2.1 dX12_games_28 (by decide +kernel) ?_
    exact sg_iret X hr hlk hb hK hC hG hS trivial dX12_games_29
  · exact ((c4 (iv_one hf3 (iv_c 0 (a := 0) (b := 0) (by decide +kernel)) (by decide +kernel)))).elim

theorem ca_X12_games_0  (X : CallFix p m c cc nL s args sg_tbl own) (hK : va_K D vwCl tys s) (hG : sgG (KT P) D vwCl (fun q : Nat => base ≤ q) tys ad ks H) (hC : sgC base s) (hS : va_S (fun q : Nat => base ≤ q) s.heap H locs) (hb : base ≤ s.heap.size) (hp4 : P.2.2.2.2.1 = false) (a0 : Nat) (h0 : isK ad ks 12 a0) (x1 : Int32) (x2 : Int64) (hl : Cond.methodLink own index yX12_games ∈ sg_tbl) (hsize : ls.size = nL) (hst : st0 = [.int x1, .long x2].reverse ++ .ref a0 :: rest) (hW : (rest.map fun v => v.category).sum ≤ 8) (hR : 2 ≤ R.frames ∧ 45 ≤ R.locals) (hf : cells ≤ R.cells ∧ slots ≤ R.slots) (hdg : decode cc pc = .ok (.invokevirtual index, 3)) (kk : ∀ (r : Int32) (H1 : Heap) (locs1 : List Loc), (fun r : Int32 => True) r → sgG (KT P) D vwCl (fun q : Nat => base ≤ q) tys ad ks H1 → va_S (fun q : Nat => base ≤ q) s.heap H1 locs1 → W p l e R s m args below meth c H1 locs1 cells slots Q (F0 m (pc + 3) ls (.int r :: rest))) : W p l e R s m args below meth c H locs cells slots Q (F0 m pc ls st0) :=
  sg_callVi X hK hG hC hS hb (m_X12_games_0 l hp4 a0 h0 x1 x2) h0 (k := 12) (ci := 12) rfl (C := RX12) (T := TX12) (N := 53) rfl wl_8_150 wl_1_13 wl_8_148 wl_8_149 (n := 2) (by decide +kernel) rfl rfl rfl hl hsize hst hW hR hf hdg kk
end
