abbrev cX12_advice : ByteArray := prog_14_method_93_code
def yX12_advice : MethodName := ⟨RX12, "advice", "(I)I"⟩
abbrev cX12_answers : ByteArray := prog_14_method_91_code
def yX12_answers : MethodName := ⟨RX12, "answers", "(I)I"⟩
abbrev cX12_cuts : ByteArray := prog_14_method_90_code
def yX12_cuts : MethodName := ⟨RX12, "cuts", "(I)I"⟩
abbrev cX12_fewest : ByteArray := prog_14_method_110_code
def yX12_fewest : MethodName := ⟨RX12, "fewest", "()I"⟩
abbrev cX12_odds : ByteArray := prog_14_method_122_code
def yX12_odds : MethodName := ⟨RX12, "odds", "(II)I"⟩
abbrev cX12_openings : ByteArray := prog_14_method_120_code
def yX12_openings : MethodName := ⟨RX12, "openings", "()I"⟩
abbrev cX12_room : ByteArray := prog_14_method_124_code
def yX12_room : MethodName := ⟨RX12, "room", "()I"⟩
abbrev cX12_threats : ByteArray := prog_14_method_86_code
def yX12_threats : MethodName := ⟨RX12, "threats", "()I"⟩
abbrev cX12_winning : ByteArray := prog_14_method_109_code
def yX12_winning : MethodName := ⟨RX12, "winning", "()I"⟩
theorem dX12_advice_0 : decode cX12_advice 0 = .ok (.aload_n 0, 1) := by decide +kernel
theorem dX12_advice_1 : decode cX12_advice 1 = .ok (.iconst 0, 1) := by decide +kernel
theorem dX12_advice_2 : decode cX12_advice 2 = .ok (.putfield 94, 3) := by decide +kernel
theorem dX12_advice_5 : decode cX12_advice 5 = .ok (.aload_n 0, 1) := by decide +kernel
theorem dX12_advice_6 : decode cX12_advice 6 = .ok (.getfield 302, 3) := by decide +kernel
theorem dX12_advice_9 : decode cX12_advice 9 = .ok (.ifCond .eq 13, 3) := by decide +kernel
theorem dX12_advice_22 : decode cX12_advice 22 = .ok (.iconst (-1), 1) := by decide +kernel
theorem dX12_advice_23 : decode cX12_advice 23 = .ok (.ireturn, 1) := by decide +kernel
theorem dX12_answers_0 : decode cX12_answers 0 = .ok (.aload_n 0, 1) := by decide +kernel
theorem dX12_answers_1 : decode cX12_answers 1 = .ok (.iconst 0, 1) := by decide +kernel
theorem dX12_answers_2 : decode cX12_answers 2 = .ok (.putfield 94, 3) := by decide +kernel
theorem dX12_answers_5 : decode cX12_answers 5 = .ok (.aload_n 0, 1) := by decide +kernel
theorem dX12_answers_6 : decode cX12_answers 6 = .ok (.getfield 302, 3) := by decide +kernel
theorem dX12_answers_9 : decode cX12_answers 9 = .ok (.ifCond .eq 8, 3) := by decide +kernel
theorem dX12_answers_17 : decode cX12_answers 17 = .ok (.iconst (-1), 1) := by decide +kernel
theorem dX12_answers_18 : decode cX12_answers 18 = .ok (.goto 9, 3) := by decide +kernel
theorem dX12_answers_27 : decode cX12_answers 27 = .ok (.ireturn, 1) := by decide +kernel
theorem dX12_cuts_0 : decode cX12_cuts 0 = .ok (.aload_n 0, 1) := by decide +kernel
theorem dX12_cuts_1 : decode cX12_cuts 1 = .ok (.iconst 0, 1) := by decide +kernel
theorem dX12_cuts_2 : decode cX12_cuts 2 = .ok (.putfield 94, 3) := by decide +kernel
theorem dX12_cuts_5 : decode cX12_cuts 5 = .ok (.aload_n 0, 1) := by decide +kernel
theorem dX12_cuts_6 : decode cX12_cuts 6 = .ok (.getfield 302, 3) := by decide +kernel
theorem dX12_cuts_9 : decode cX12_cuts 9 = .ok (.ifCond .eq 8, 3) := by decide +kernel
theorem dX12_cuts_17 : decode cX12_cuts 17 = .ok (.iconst (-1), 1) := by decide +kernel
theorem dX12_cuts_18 : decode cX12_cuts 18 = .ok (.goto 9, 3) := by decide +kernel
theorem dX12_cuts_27 : decode cX12_cuts 27 = .ok (.ireturn, 1) := by decide +kernel
theorem dX12_fewest_0 : decode cX12_fewest 0 = .ok (.aload_n 0, 1) := by decide +kernel
theorem dX12_fewest_1 : decode cX12_fewest 1 = .ok (.iconst 0, 1) := by decide +kernel
theorem dX12_fewest_2 : decode cX12_fewest 2 = .ok (.putfield 94, 3) := by decide +kernel
theorem dX12_fewest_5 : decode cX12_fewest 5 = .ok (.aload_n 0, 1) := by decide +kernel
theorem dX12_fewest_6 : decode cX12_fewest 6 = .ok (.getfield 302, 3) := by decide +kernel
theorem dX12_fewest_9 : decode cX12_fewest 9 = .ok (.ifCond .ne 5, 3) := by decide +kernel
theorem dX12_fewest_12 : decode cX12_fewest 12 = .ok (.iconst (-1), 1) := by decide +kernel
theorem dX12_fewest_13 : decode cX12_fewest 13 = .ok (.ireturn, 1) := by decide +kernel
theorem dX12_image_12 : decode cX12_image 12 = .ok (.iconst (-1), 1) := by decide +kernel
theorem dX12_image_13 : decode cX12_image 13 = .ok (.ireturn, 1) := by decide +kernel
theorem dX12_longest_12 : decode cX12_longest 12 = .ok (.iconst (-1), 1) := by decide +kernel
theorem dX12_longest_13 : decode cX12_longest 13 = .ok (.goto 16, 3) := by decide +kernel
theorem dX12_meant_12 : decode cX12_meant 12 = .ok (.iconst (-1), 1) := by decide +kernel
theorem dX12_meant_13 : decode cX12_meant 13 = .ok (.goto 10, 3) := by decide +kernel
theorem dX12_odds_0 : decode cX12_odds 0 = .ok (.aload_n 0, 1) := by decide +kernel
theorem dX12_odds_1 : decode cX12_odds 1 = .ok (.iconst 0, 1) := by decide +kernel
theorem dX12_odds_2 : decode cX12_odds 2 = .ok (.putfield 94, 3) := by decide +kernel
theorem dX12_odds_5 : decode cX12_odds 5 = .ok (.aload_n 0, 1) := by decide +kernel
theorem dX12_odds_6 : decode cX12_odds 6 = .ok (.getfield 302, 3) := by decide +kernel
theorem dX12_odds_9 : decode cX12_odds 9 = .ok (.ifCond .eq 27, 3) := by decide +kernel
theorem dX12_odds_36 : decode cX12_odds 36 = .ok (.iconst (-1), 1) := by decide +kernel
theorem dX12_odds_37 : decode cX12_odds 37 = .ok (.ireturn, 1) := by decide +kernel
theorem dX12_openings_0 : decode cX12_openings 0 = .ok (.aload_n 0, 1) := by decide +kernel
theorem dX12_openings_1 : decode cX12_openings 1 = .ok (.iconst 0, 1) := by decide +kernel
theorem dX12_openings_2 : decode cX12_openings 2 = .ok (.putfield 94, 3) := by decide +kernel
theorem dX12_openings_5 : decode cX12_openings 5 = .ok (.aload_n 0, 1) := by decide +kernel
theorem dX12_openings_6 : decode cX12_openings 6 = .ok (.getfield 302, 3) := by decide +kernel
theorem dX12_openings_9 : decode cX12_openings 9 = .ok (.ifCond .ne 5, 3) := by decide +kernel
theorem dX12_openings_12 : decode cX12_openings 12 = .ok (.iconst (-1), 1) := by decide +kernel
theorem dX12_openings_13 : decode cX12_openings 13 = .ok (.ireturn, 1) := by decide +kernel
theorem dX12_room_0 : decode cX12_room 0 = .ok (.aload_n 0, 1) := by decide +kernel
theorem dX12_room_1 : decode cX12_room 1 = .ok (.iconst 0, 1) := by decide +kernel
theorem dX12_room_2 : decode cX12_room 2 = .ok (.putfield 94, 3) := by decide +kernel
theorem dX12_room_5 : decode cX12_room 5 = .ok (.aload_n 0, 1) := by decide +kernel
theorem dX12_room_6 : decode cX12_room 6 = .ok (.getfield 302, 3) := by decide +kernel
theorem dX12_room_9 : decode cX12_room 9 = .ok (.ifCond .ne 7, 3) := by decide +kernel
theorem dX12_room_12 : decode cX12_room 12 = .ok (.iconst (-1), 1) := by decide +kernel
theorem dX12_room_13 : decode cX12_room 13 = .ok (.goto 28, 3) := by decide +kernel
theorem dX12_room_41 : decode cX12_room 41 = .ok (.ireturn, 1) := by decide +kernel
theorem dX12_threats_0 : decode cX12_threats 0 = .ok (.aload_n 0, 1) := by decide +kernel
theorem dX12_threats_1 : decode cX12_threats 1 = .ok (.iconst 0, 1) := by decide +kernel
theorem dX12_threats_2 : decode cX12_threats 2 = .ok (.putfield 94, 3) := by decide +kernel
theorem dX12_threats_5 : decode cX12_threats 5 = .ok (.aload_n 0, 1) := by decide +kernel
theorem dX12_threats_6 : decode cX12_threats 6 = .ok (.getfield 302, 3) := by decide +kernel
theorem dX12_threats_9 : decode cX12_threats 9 = .ok (.ifCond .ne 7, 3) := by decide +kernel
theorem dX12_threats_12 : decode cX12_threats 12 = .ok (.iconst (-1), 1) := by decide +kernel
theorem dX12_threats_13 : decode cX12_threats 13 = .ok (.goto 25, 3) := by decide +kernel
theorem dX12_threats_38 : decode cX12_threats 38 = .ok (.ireturn, 1) := by decide +kernel
theorem dX12_winning_0 : decode cX12_winning 0 = .ok (.aload_n 0, 1) := by decide +kernel
theorem dX12_winning_1 : decode cX12_winning 1 = .ok (.iconst 0, 1) := by decide +kernel
theorem dX12_winning_2 : decode cX12_winning 2 = .ok (.putfield 94, 3) := by decide +kernel
theorem dX12_winning_5 : decode cX12_winning 5 = .ok (.aload_n 0, 1) := by decide +kernel
theorem dX12_winning_6 : decode cX12_winning 6 = .ok (.getfield 302, 3) := by decide +kernel
theorem dX12_winning_9 : decode cX12_winning 9 = .ok (.ifCond .ne 5, 3) := by decide +kernel
theorem dX12_winning_12 : decode cX12_winning 12 = .ok (.iconst (-1), 1) := by decide +kernel
theorem dX12_winning_13 : decode cX12_winning 13 = .ok (.ireturn, 1) := by decide +kernel
theorem wl_9_75 : (.code yX12_winning cX12_winning 10 (some .int) : Cond) ∈ sg_tbl := tb_9 _ (List.mem_of_getElem? (i := 75) (by decide +kernel)) (by decide +kernel)
theorem wl_9_73 : (.instanceMethod yX12_winning : Cond) ∈ sg_tbl := tb_9 _ (List.mem_of_getElem? (i := 73) (by decide +kernel)) (by decide +kernel)
theorem wl_9_74 : (.selects RX12 yX12_winning yX12_winning : Cond) ∈ sg_tbl := tb_9 _ (List.mem_of_getElem? (i := 74) (by decide +kernel)) (by decide +kernel)
theorem wl_9_83 : (.code yX12_fewest cX12_fewest 3 (some .int) : Cond) ∈ sg_tbl := tb_9 _ (List.mem_of_getElem? (i := 83) (by decide +kernel)) (by decide +kernel)
theorem wl_9_81 : (.instanceMethod yX12_fewest : Cond) ∈ sg_tbl := tb_9 _ (List.mem_of_getElem? (i := 81) (by decide +kernel)) (by decide +kernel)
theorem wl_9_82 : (.selects RX12 yX12_fewest yX12_fewest : Cond) ∈ sg_tbl := tb_9 _ (List.mem_of_getElem? (i := 82) (by decide +kernel)) (by decide +kernel)
theorem wl_8_238 : (.code yX12_threats cX12_threats 1 (some .int) : Cond) ∈ sg_tbl := tb_8 _ (List.mem_of_getElem? (i := 238) (by decide +kernel)) (by decide +kernel)
theorem wl_8_236 : (.instanceMethod yX12_threats : Cond) ∈ sg_tbl := tb_8 _ (List.mem_of_getElem? (i := 236) (by decide +kernel)) (by decide +kernel)
theorem wl_8_237 : (.selects RX12 yX12_threats yX12_threats : Cond) ∈ sg_tbl := tb_8 _ (List.mem_of_getElem? (i := 237) (by decide +kernel)) (by decide +kernel)
theorem wl_9_145 : (.code yX12_room cX12_room 1 (some .int) : Cond) ∈ sg_tbl := tb_9 _ (List.mem_of_getElem? (i := 145) (by decide +kernel)) (by decide +kernel)
theorem wl_9_143 : (.instanceMethod yX12_room : Cond) ∈ sg_tbl := tb_9 _ (List.mem_of_getElem? (i := 143) (by decide +kernel)) (by decide +kernel)
theorem wl_9_144 : (.selects RX12 yX12_room yX12_room : Cond) ∈ sg_tbl := tb_9 _ (List.mem_of_getElem? (i := 144) (by decide +kernel)) (by decide +kernel)
theorem wl_9_123 : (.code yX12_openings cX12_openings 7 (some .int) : Cond) ∈ sg_tbl := tb_9 _ (List.mem_of_getElem? (i := 123) (by decide +kernel)) (by decide +kernel)
theorem wl_9_121 : (.instanceMethod yX12_openings : Cond) ∈ sg_tbl := tb_9 _ (List.mem_of_getElem? (i := 121) (by decide +kernel)) (by decide +kernel)
theorem wl_9_122 : (.selects RX12 yX12_openings yX12_openings : Cond) ∈ sg_tbl := tb_9 _ (List.mem_of_getElem? (i := 122) (by decide +kernel)) (by decide +kernel)
theorem wl_9_2 : (.code yX12_cuts cX12_cuts 2 (some .int) : Cond) ∈ sg_tbl := tb_9 _ (List.mem_of_getElem? (i := 2) (by decide +kernel)) (by decide +kernel)
theorem wl_9_0 : (.instanceMethod yX12_cuts : Cond) ∈ sg_tbl := tb_9 _ (List.mem_of_getElem? (i := 0) (by decide +kernel)) (by decide +kernel)
theorem wl_9_1 : (.selects RX12 yX12_cuts yX12_cuts : Cond) ∈ sg_tbl := tb_9 _ (List.mem_of_getElem? (i := 1) (by decide +kernel)) (by decide +kernel)
theorem wl_9_10 : (.code yX12_answers cX12_answers 2 (some .int) : Cond) ∈ sg_tbl := tb_9 _ (List.mem_of_getElem? (i := 10) (by decide +kernel)) (by decide +kernel)
theorem wl_9_8 : (.instanceMethod yX12_answers : Cond) ∈ sg_tbl := tb_9 _ (List.mem_of_getElem? (i := 8) (by decide +kernel)) (by decide +kernel)
theorem wl_9_9 : (.selects RX12 yX12_answers yX12_answers : Cond) ∈ sg_tbl := tb_9 _ (List.mem_of_getElem? (i := 9) (by decide +kernel)) (by decide +kernel)
theorem wl_9_14 : (.code yX12_advice cX12_advice 2 (some .int) : Cond) ∈ sg_tbl := tb_9 _ (List.mem_of_getElem? (i := 14) (by decide +kernel)) (by decide +kernel)
theorem wl_9_12 : (.instanceMethod yX12_advice : Cond) ∈ sg_tbl := tb_9 _ (List.mem_of_getElem? (i := 12) (by decide +kernel)) (by decide +kernel)
theorem wl_9_13 : (.selects RX12 yX12_advice yX12_advice : Cond) ∈ sg_tbl := tb_9 _ (List.mem_of_getElem? (i := 13) (by decide +kernel)) (by decide +kernel)
theorem wl_9_127 : (.code yX12_odds cX12_odds 3 (some .int) : Cond) ∈ sg_tbl := tb_9 _ (List.mem_of_getElem? (i := 127) (by decide +kernel)) (by decide +kernel)
theorem wl_9_125 : (.instanceMethod yX12_odds : Cond) ∈ sg_tbl := tb_9 _ (List.mem_of_getElem? (i := 125) (by decide +kernel)) (by decide +kernel)
theorem wl_9_126 : (.selects RX12 yX12_odds yX12_odds : Cond) ∈ sg_tbl := tb_9 _ (List.mem_of_getElem? (i := 126) (by decide +kernel)) (by decide +kernel)
section
variable {p : Program} {l : Launch} {e : Env} {R : Room} {s : State} {m : MethodId} {args : Array Value} {below : List Frame} {meth : Method} {c : Code} {H : Heap} {locs : List Loc} {cells slots : Nat} {Q : State → Prop} {cc : ByteArray} {nL pc : Nat} {ls : Array Slot} {rest : List Value} {own : String} {D : va_G} {A : Nat → Prop} {tys : List (ClassId × FieldType)} {ad ks : List Nat} {P : sgPm} {H0 : Heap} {index : Nat} {base : Nat} {st0 : List Value} {a : Nat}

set_option maxHeartbeats 8000000 in
set_option maxRecDepth 100000 in
theorem m_X12_meant_0 (l : Launch) {D : va_G} {base : Nat} {tys : List (ClassId × FieldType)} {ad ks : List Nat} {P : sgPm} (hp4 : P.2.2.2.2.1 = false) (a0 : Nat) (h0 : isK ad ks 12 a0) : sgMi l (KT P) D vwCl base tys ad ks yX12_meant cX12_meant 1 (some .int) ({ frames := 0, cells := 0, slots := 0, locals := 0 }) [.ref a0] (fun r : Int32 => True) := by
  refine sg_ofW (by decide +kernel) (Nat.le_of_ble_eq_true rfl) (fun p e s m below meth c X hr hlk hb hK hC hG ls hl => ?_)
  have hS : va_S (fun q : Nat => base ≤ q) s.heap s.heap [] := va_S.rf
  have hl : lv_has ls 1 [(0, .ref a0)] := hl
  refine lv_aload_n X.1 X.2.1 dX12_meant_0 rfl (lv_at hl 0 rfl) ?_
  refine lv_iconst (v := 0) X.1 X.2.1 dX12_meant_1 (by decide +kernel) ?_
  refine pf_X12_0 X hK hG hS h0 wl_6_178 ⟨_, rfl, (iv_top _)⟩ dX12_meant_2 (fun H locs hG hS ku1 ru1 => ?_)
  refine lv_aload_n X.1 X.2.1 dX12_meant_5 rfl (lv_at hl 0 rfl) ?_
  refine gf_X12_23n X hK hG h0 hp4 wl_6_201 dX12_meant_6 (fun f2 hf2 kf2 => ?_)
  refine lv_if_ne (tgt := 16) X.1 X.2.1 dX12_meant_9 (by decide) (fun c3 => ?_) (fun c3 => ?_)
  · exact ((c3 (iv_one hf2 (iv_c 0 (a := 0) (b := 0) (by decide +kernel)) (by decide +kernel)))).elim
  · refine lv_iconst (v := (-1)) X.1 X.2.1 dX12_meant_12 (by decide +kernel) ?_
    refine lv_goto (tgt := 23) X.1 X.2.1 dX12_meant_13 (by decide) ?_
    exact sg_iret X hr hlk hb hK hC hG hS trivial dX12_meant_23

theorem ca_X12_meant_0   (X : CallFix p m c cc nL s args sg_tbl own) (hK : va_K D vwCl tys s) (hG : sgG (KT P) D vwCl (fun q : Nat => base ≤ q) tys ad ks H) (hC : sgC base s) (hS : va_S (fun q : Nat => base ≤ q) s.heap H locs) (hb : base ≤ s.heap.size) (hp4 : P.2.2.2.2.1 = false) (a0 : Nat) (h0 : isK ad ks 12 a0) (hl : Cond.methodLink own index yX12_meant ∈ sg_tbl) (hsize : ls.size = nL) (hst : st0 = [].reverse ++ .ref a0 :: rest) (hW : (rest.map fun v => v.category).sum ≤ 8) (hR : 1 ≤ R.frames ∧ 20 ≤ R.locals) (hf : cells ≤ R.cells ∧ slots ≤ R.slots) (hdg : decode cc pc = .ok (.invokevirtual index, 3)) (kk : ∀ (r : Int32) (H1 : Heap) (locs1 : List Loc), (fun r : Int32 => True) r → sgG (KT P) D vwCl (fun q : Nat => base ≤ q) tys ad ks H1 → va_S (fun q : Nat => base ≤ q) s.heap H1 locs1 → W p l e R s m args below meth c H1 locs1 cells slots Q (F0 m (pc + 3) ls (.int r :: rest))) : W p l e R s m args below meth c H locs cells slots Q (F0 m pc ls st0) :=
  sg_callVi X hK hG hC hS hb (m_X12_meant_0 l hp4 a0 h0) h0 (k := 12) (ci := 12) rfl (C := RX12) (T := TX12) (N := 53) rfl wl_9_38 wl_1_13 wl_9_36 wl_9_37 (n := 0) (by decide +kernel) rfl rfl rfl hl hsize hst hW hR hf hdg kk

set_option maxHeartbeats 8000000 in
set_option maxRecDepth 100000 in
theorem m_X12_image_0 (l : Launch) {D : va_G} {base : Nat} {tys : List (ClassId × FieldType)} {ad ks : List Nat} {P : sgPm} (hp4 : P.2.2.2.2.1 = false) (a0 : Nat) (h0 : isK ad ks 12 a0) : sgMi l (KT P) D vwCl base tys ad ks yX12_image cX12_image 1 (some .int) ({ frames := 0, cells := 0, slots := 0, locals := 0 }) [.ref a0] (fun r : Int32 => True) := by
  refine sg_ofW (by decide +kernel) (Nat.le_of_ble_eq_true rfl) (fun p e s m below meth c X hr hlk hb hK hC hG ls hl => ?_)
  have hS : va_S (fun q : Nat => base ≤ q) s.heap s.heap [] := va_S.rf
  have hl : lv_has ls 1 [(0, .ref a0)] := hl
  refine lv_aload_n X.1 X.2.1 dX12_image_0 rfl (lv_at hl 0 rfl) ?_
  refine lv_iconst (v := 0) X.1 X.2.1 dX12_image_1 (by decide +kernel) ?_
  refine pf_X12_0 X hK hG hS h0 wl_6_178 ⟨_, rfl, (iv_top _)⟩ dX12_image_2 (fun H locs hG hS ku1 ru1 => ?_)
  refine lv_aload_n X.1 X.2.1 dX12_image_5 rfl (lv_at hl 0 rfl) ?_
  refine gf_X12_23n X hK hG h0 hp4 wl_6_201 dX12_image_6 (fun f2 hf2 kf2 => ?_)
  refine lv_if_ne (tgt := 14) X.1 X.2.1 dX12_image_9 (by decide) (fun c3 => ?_) (fun c3 => ?_)
  · exact ((c3 (iv_one hf2 (iv_c 0 (a := 0) (b := 0) (by decide +kernel)) (by decide +kernel)))).elim
  · refine lv_iconst (v := (-1)) X.1 X.2.1 dX12_image_12 (by decide +kernel) ?_
    exact sg_iret X hr hlk hb hK hC hG hS trivial dX12_image_13

theorem ca_X12_image_0   (X : CallFix p m c cc nL s args sg_tbl own) (hK : va_K D vwCl tys s) (hG : sgG (KT P) D vwCl (fun q : Nat => base ≤ q) tys ad ks H) (hC : sgC base s) (hS : va_S (fun q : Nat => base ≤ q) s.heap H locs) (hb : base ≤ s.heap.size) (hp4 : P.2.2.2.2.1 = false) (a0 : Nat) (h0 : isK ad ks 12 a0) (hl : Cond.methodLink own index yX12_image ∈ sg_tbl) (hsize : ls.size = nL) (hst : st0 = [].reverse ++ .ref a0 :: rest) (hW : (rest.map fun v => v.category).sum ≤ 8) (hR : 1 ≤ R.frames ∧ 20 ≤ R.locals) (hf : cells ≤ R.cells ∧ slots ≤ R.slots) (hdg : decode cc pc = .ok (.invokevirtual index, 3)) (kk : ∀ (r : Int32) (H1 : Heap) (locs1 : List Loc), (fun r : Int32 => True) r → sgG (KT P) D vwCl (fun q : Nat => base ≤ q) tys ad ks H1 → va_S (fun q : Nat => base ≤ q) s.heap H1 locs1 → W p l e R s m args below meth c H1 locs1 cells slots Q (F0 m (pc + 3) ls (.int r :: rest))) : W p l e R s m args below meth c H locs cells slots Q (F0 m pc ls st0) :=
  sg_callVi X hK hG hC hS hb (m_X12_image_0 l hp4 a0 h0) h0 (k := 12) (ci := 12) rfl (C := RX12) (T := TX12) (N := 53) rfl wl_9_153 wl_1_13 wl_9_151 wl_9_152 (n := 0) (by decide +kernel) rfl rfl rfl hl hsize hst hW hR hf hdg kk

set_option maxHeartbeats 8000000 in
set_option maxRecDepth 100000 in
theorem m_X12_alike_0 (l : Launch) {D : va_G} {base : Nat} {tys : List (ClassId × FieldType)} {ad ks : List Nat} {P : sgPm} (hp4 : P.2.2.2.2.1 = false) (a0 : Nat) (h0 : isK ad ks 12 a0) (x1 : Int32) : sgMi l (KT P) D vwCl base tys ad ks yX12_alike cX12_alike 6 (some .int) ({ frames := 0, cells := 0, slots := 0, locals := 0 }) [.ref a0, .int x1] (fun r : Int32 => True) := by
  refine sg_ofW (by decide +kernel) (Nat.le_of_ble_eq_true rfl) (fun p e s m below meth c X hr hlk hb hK hC hG ls hl => ?_)
  have hS : va_S (fun q : Nat => base ≤ q) s.heap s.heap [] := va_S.rf
  have hl : lv_has ls 6 [(0, .ref a0), (1, .int x1)] := hl
  refine lv_aload_n X.1 X.2.1 dX12_alike_0 rfl (lv_at hl 0 rfl) ?_
  refine lv_iconst (v := 0) X.1 X.2.1 dX12_alike_1 (by decide +kernel) ?_
  refine pf_X12_0 X hK hG hS h0 wl_6_178 ⟨_, rfl, (iv_top _)⟩ dX12_alike_2 (fun H locs hG hS ku1 ru1 => ?_)
  refine lv_aload_n X.1 X.2.1 dX12_alike_5 rfl (lv_at hl 0 rfl) ?_
  refine gf_X12_23n X hK hG h0 hp4 wl_6_201 dX12_alike_6 (fun f2 hf2 kf2 => ?_)
  refine lv_if_eq (tgt := 22) X.1 X.2.1 dX12_alike_9 (by decide) (fun c3 => ?_) (fun c3 => ?_)
  · refine lv_iconst (v := (-1)) X.1 X.2.1 dX12_alike_22 (by decide +kernel) ?_
    exact sg_iret X hr hlk hb hK hC hG hS trivial dX12_alike_23
  · exact ((c3 (iv_one hf2 (iv_c 0 (a := 0) (b := 0) (by decide +kernel)) (by decide +kernel)))).elim

theorem ca_X12_alike_0   (X : CallFix p m c cc nL s args sg_tbl own) (hK : va_K D vwCl tys s) (hG : sgG (KT P) D vwCl (fun q : Nat => base ≤ q) tys ad ks H) (hC : sgC base s) (hS : va_S (fun q : Nat => base ≤ q) s.heap H locs) (hb : base ≤ s.heap.size) (hp4 : P.2.2.2.2.1 = false) (a0 : Nat) (h0 : isK ad ks 12 a0) (x1 : Int32) (hl : Cond.methodLink own index yX12_alike ∈ sg_tbl) (hsize : ls.size = nL) (hst : st0 = [.int x1].reverse ++ .ref a0 :: rest) (hW : (rest.map fun v => v.category).sum ≤ 8) (hR : 1 ≤ R.frames ∧ 25 ≤ R.locals) (hf : cells ≤ R.cells ∧ slots ≤ R.slots) (hdg : decode cc pc = .ok (.invokevirtual index, 3)) (kk : ∀ (r : Int32) (H1 : Heap) (locs1 : List Loc), (fun r : Int32 => True) r → sgG (KT P) D vwCl (fun q : Nat => base ≤ q) tys ad ks H1 → va_S (fun q : Nat => base ≤ q) s.heap H1 locs1 → W p l e R s m args below meth c H1 locs1 cells slots Q (F0 m (pc + 3) ls (.int r :: rest))) : W p l e R s m args below meth c H locs cells slots Q (F0 m pc ls st0) :=
  sg_callVi X hK hG hC hS hb (m_X12_alike_0 l hp4 a0 h0 x1) h0 (k := 12) (ci := 12) rfl (C := RX12) (T := TX12) (N := 53) rfl wl_9_107 wl_1_13 wl_9_105 wl_9_106 (n := 1) (by decide +kernel) rfl rfl rfl hl hsize hst hW hR hf hdg kk

set_option maxHeartbeats 8000000 in
set_option maxRecDepth 100000 in
theorem m_X12_longest_0 (l : Launch) {D : va_G} {base : Nat} {tys : List (ClassId × FieldType)} {ad ks : List Nat} {P : sgPm} (hp4 : P.2.2.2.2.1 = false) (a0 : Nat) (h0 : isK ad ks 12 a0) : sgMi l (KT P) D vwCl base tys ad ks yX12_longest cX12_longest 1 (some .int) ({ frames := 0, cells := 0, slots := 0, locals := 0 }) [.ref a0] (fun r : Int32 => True) := by
  refine sg_ofW (by decide +kernel) (Nat.le_of_ble_eq_true rfl) (fun p e s m below meth c X hr hlk hb hK hC hG ls hl => ?_)
  have hS : va_S (fun q : Nat => base ≤ q) s.heap s.heap [] := va_S.rf
  have hl : lv_has ls 1 [(0, .ref a0)] := hl
  refine lv_aload_n X.1 X.2.1 dX12_longest_0 rfl (lv_at hl 0 rfl) ?_
  refine lv_iconst (v := 0) X.1 X.2.1 dX12_longest_1 (by decide +kernel) ?_
  refine pf_X12_0 X hK hG hS h0 wl_6_178 ⟨_, rfl, (iv_top _)⟩ dX12_longest_2 (fun H locs hG hS ku1 ru1 => ?_)
  refine lv_aload_n X.1 X.2.1 dX12_longest_5 rfl (lv_at hl 0 rfl) ?_
  refine gf_X12_23n X hK hG h0 hp4 wl_6_201 dX12_longest_6 (fun f2 hf2 kf2 => ?_)
  refine lv_if_ne (tgt := 16) X.1 X.2.1 dX12_longest_9 (by decide) (fun c3 => ?_) (fun c3 => ?_)
  · exact ((c3 (iv_one hf2 (iv_c 0 (a := 0) (b := 0) (by decide +kernel)) (by decide +kernel)))).elim
  · refine lv_iconst (v := (-1)) X.1 X.2.1 dX12_longest_12 (by decide +kernel) ?_
    refine lv_goto (tgt := 29) X.1 X.2.1 dX12_longest_13 (by decide) ?_
    exact sg_iret X hr hlk hb hK hC hG hS trivial dX12_longest_29

theorem ca_X12_longest_0   (X : CallFix p m c cc nL s args sg_tbl own) (hK : va_K D vwCl tys s) (hG : sgG (KT P) D vwCl (fun q : Nat => base ≤ q) tys ad ks H) (hC : sgC base s) (hS : va_S (fun q : Nat => base ≤ q) s.heap H locs) (hb : base ≤ s.heap.size) (hp4 : P.2.2.2.2.1 = false) (a0 : Nat) (h0 : isK ad ks 12 a0) (hl : Cond.methodLink own index yX12_longest ∈ sg_tbl) (hsize : ls.size = nL) (hst : st0 = [].reverse ++ .ref a0 :: rest) (hW : (rest.map fun v => v.category).sum ≤ 8) (hR : 1 ≤ R.frames ∧ 20 ≤ R.locals) (hf : cells ≤ R.cells ∧ slots ≤ R.slots) (hdg : decode cc pc = .ok (.invokevirtual index, 3)) (kk : ∀ (r : Int32) (H1 : Heap) (locs1 : List Loc), (fun r : Int32 => True) r → sgG (KT P) D vwCl (fun q : Nat => base ≤ q) tys ad ks H1 → va_S (fun q : Nat => base ≤ q) s.heap H1 locs1 → W p l e R s m args below meth c H1 locs1 cells slots Q (F0 m (pc + 3) ls (.int r :: rest))) : W p l e R s m args below meth c H locs cells slots Q (F0 m pc ls st0) :=
  sg_callVi X hK hG hC hS hb (m_X12_longest_0 l hp4 a0 h0) h0 (k := 12) (ci := 12) rfl (C := RX12) (T := TX12) (N := 53) rfl wl_9_149 wl_1_13 wl_9_147 wl_9_148 (n := 0) (by decide +kernel) rfl rfl rfl hl hsize hst hW hR hf hdg kk

set_option maxHeartbeats 8000000 in
set_option maxRecDepth 100000 in
theorem m_X12_count_0 (l : Launch) {D : va_G} {base : Nat} {tys : List (ClassId × FieldType)} {ad ks : List Nat} {P : sgPm} (hp4 : P.2.2.2.2.1 = false) (a0 : Nat) (h0 : isK ad ks 12 a0) (x1 : Int32) : sgMi l (KT P) D vwCl base tys ad ks yX12_count cX12_count 2 (some .int) ({ frames := 1, cells := 0, slots := 0, locals := 20 }) [.ref a0, .int x1] (fun r : Int32 => True) := by
  refine sg_ofW (by decide +kernel) (Nat.le_of_ble_eq_true rfl) (fun p e s m below meth c X hr hlk hb hK hC hG ls hl => ?_)
  have hS : va_S (fun q : Nat => base ≤ q) s.heap s.heap [] := va_S.rf
  have hl : lv_has ls 2 [(0, .ref a0), (1, .int x1)] := hl
  refine lv_aload_n X.1 X.2.1 dX12_count_0 rfl (lv_at hl 0 rfl) ?_
  refine lv_iconst (v := 0) X.1 X.2.1 dX12_count_1 (by decide +kernel) ?_
  refine pf_X12_0 X hK hG hS h0 wl_6_178 ⟨_, rfl, (iv_top _)⟩ dX12_count_2 (fun H locs hG hS ku1 ru1 => ?_)
  refine lv_iload_n X.1 X.2.1 dX12_count_5 rfl (lv_at hl 1 rfl) ?_
  by_cases c2 : x1 = 0
  · refine lv_tableIn (tgt := 84) (off := 78) X.1 X.2.1 dX12_count_6 (by rw [c2]; decide +kernel) (by rw [c2]; decide +kernel) (by rw [c2]; rfl) (by decide) ?_
    refine lv_aload_n X.1 X.2.1 dX12_count_84 rfl (lv_at hl 0 rfl) ?_
    refine gf_X12_23n X hK hG h0 hp4 wl_6_201 dX12_count_85 (fun f3 hf3 kf3 => ?_)
    exact sg_iret X hr hlk hb hK hC hG hS trivial dX12_count_88
  by_cases c4 : x1 = 1
  · refine lv_tableIn (tgt := 89) (off := 83) X.1 X.2.1 dX12_count_6 (by rw [c4]; decide +kernel) (by rw [c4]; decide +kernel) (by rw [c4]; rfl) (by decide) ?_
    refine lv_aload_n X.1 X.2.1 dX12_count_89 rfl (lv_at hl 0 rfl) ?_
    refine gf_X12_32 X hK hG h0 wl_6_210 dX12_count_90 (fun q5 hq5 kq5 => ?_)
    refine lv_iconst (v := 0) X.1 X.2.1 dX12_count_93 (by decide +kernel) ?_
    refine al_54 X hK hG hq5 (iv_vpin (iv_c 0 (a := 0) (b := 0) (by decide +kernel)) (by decide +kernel)) dX12_count_94 (fun f6 hf6 => ?_)
    have hf6 := sg_nw_now hf6
    have of6 := hf6
    have hf6 : iv (-2147483648) 2147483647 f6 := sg_sp_now hf6 (iv_c 0 (a := 0) (b := 0) (by decide +kernel)) (by decide +kernel) rfl
    refine ca_J6_bitCount_0f7a4 X hK hG hC (fun _ h => h) hS hb f6 wl_8_68 hl.1 (rest := []) rfl (Nat.le_of_ble_eq_true rfl) ⟨Nat.le_of_ble_eq_true rfl, Nat.le_of_ble_eq_true rfl⟩ ⟨Nat.le_of_ble_eq_true rfl, Nat.le_of_ble_eq_true rfl⟩ dX12_count_95 (fun f7 locs hf7 hS => ?_)
    exact sg_iret X hr hlk hb hK hC hG hS trivial dX12_count_98
  by_cases c8 : x1 = 2
  · refine lv_tableIn (tgt := 99) (off := 93) X.1 X.2.1 dX12_count_6 (by rw [c8]; decide +kernel) (by rw [c8]; decide +kernel) (by rw [c8]; rfl) (by decide) ?_
    refine lv_aload_n X.1 X.2.1 dX12_count_99 rfl (lv_at hl 0 rfl) ?_
    refine gf_X12_7 X hK hG h0 wl_6_185 dX12_count_100 (fun f9 hf9 pf9 kf9 => ?_)
    exact sg_iret X hr hlk hb hK hC hG hS trivial dX12_count_103
  by_cases c10 : x1 = 3
  · refine lv_tableIn (tgt := 104) (off := 98) X.1 X.2.1 dX12_count_6 (by rw [c10]; decide +kernel) (by rw [c10]; decide +kernel) (by rw [c10]; rfl) (by decide) ?_
    refine lv_aload_n X.1 X.2.1 dX12_count_104 rfl (lv_at hl 0 rfl) ?_
    refine gf_X12_29 X hK hG h0 wl_6_207 dX12_count_105 (fun f11 hf11 pf11 kf11 => ?_)
    exact sg_iret X hr hlk hb hK hC hG hS trivial dX12_count_108
  by_cases c12 : x1 = 4
  · refine lv_tableIn (tgt := 109) (off := 103) X.1 X.2.1 dX12_count_6 (by rw [c12]; decide +kernel) (by rw [c12]; decide +kernel) (by rw [c12]; rfl) (by decide) ?_
    refine lv_aload_n X.1 X.2.1 dX12_count_109 rfl (lv_at hl 0 rfl) ?_
    refine gf_X12_6 X hK hG h0 wl_6_184 dX12_count_110 (fun f13 hf13 pf13 kf13 => ?_)
    exact sg_iret X hr hlk hb hK hC hG hS trivial dX12_count_113
  by_cases c14 : x1 = 5
  · refine lv_tableIn (tgt := 114) (off := 108) X.1 X.2.1 dX12_count_6 (by rw [c14]; decide +kernel) (by rw [c14]; decide +kernel) (by rw [c14]; rfl) (by decide) ?_
    refine lv_aload_n X.1 X.2.1 dX12_count_114 rfl (lv_at hl 0 rfl) ?_
    refine gf_X12_34 X hK hG h0 wl_6_212 dX12_count_115 (fun f15 hf15 kf15 => ?_)
    exact sg_iret X hr hlk hb hK hC hG hS trivial dX12_count_118
  by_cases c16 : x1 = 6
  · refine lv_tableIn (tgt := 119) (off := 113) X.1 X.2.1 dX12_count_6 (by rw [c16]; decide +kernel) (by rw [c16]; decide +kernel) (by rw [c16]; rfl) (by decide) ?_
    refine lv_aload_n X.1 X.2.1 dX12_count_119 rfl (lv_at hl 0 rfl) ?_
    refine gf_X12_32 X hK hG h0 wl_6_210 dX12_count_120 (fun q17 hq17 kq17 => ?_)
    refine lv_iconst (v := 4) X.1 X.2.1 dX12_count_123 (by decide +kernel) ?_
    refine al_54 X hK hG hq17 (iv_vpin (iv_c 4 (a := 4) (b := 4) (by decide +kernel)) (by decide +kernel)) dX12_count_124 (fun f18 hf18 => ?_)
    have hf18 := sg_nw_now hf18
    have of18 := hf18
    have hf18 : iv 0 1000000000 f18 := sg_day hf18 (iv_c 4 (a := 4) (b := 4) (by decide +kernel))
    exact sg_iret X hr hlk hb hK hC hG hS trivial dX12_count_125
  by_cases c19 : x1 = 7
  · refine lv_tableIn (tgt := 126) (off := 120) X.1 X.2.1 dX12_count_6 (by rw [c19]; decide +kernel) (by rw [c19]; decide +kernel) (by rw [c19]; rfl) (by decide) ?_
    refine lv_aload_n X.1 X.2.1 dX12_count_126 rfl (lv_at hl 0 rfl) ?_
    refine gf_X12_32 X hK hG h0 wl_6_210 dX12_count_127 (fun q20 hq20 kq20 => ?_)
    refine lv_iconst (v := 2) X.1 X.2.1 dX12_count_130 (by decide +kernel) ?_
    refine al_54 X hK hG hq20 (iv_vpin (iv_c 2 (a := 2) (b := 2) (by decide +kernel)) (by decide +kernel)) dX12_count_131 (fun f21 hf21 => ?_)
    have hf21 := sg_nw_now hf21
    have of21 := hf21
    have hf21 : iv 0 1 f21 := sg_sp_now hf21 (iv_c 2 (a := 2) (b := 2) (by decide +kernel)) (by decide +kernel) rfl
    exact sg_iret X hr hlk hb hK hC hG hS trivial dX12_count_132
  by_cases c22 : x1 = 8
  · refine lv_tableIn (tgt := 133) (off := 127) X.1 X.2.1 dX12_count_6 (by rw [c22]; decide +kernel) (by rw [c22]; decide +kernel) (by rw [c22]; rfl) (by decide) ?_
    refine lv_aload_n X.1 X.2.1 dX12_count_133 rfl (lv_at hl 0 rfl) ?_
    refine gf_X12_32 X hK hG h0 wl_6_210 dX12_count_134 (fun q23 hq23 kq23 => ?_)
    refine lv_iconst (v := 3) X.1 X.2.1 dX12_count_137 (by decide +kernel) ?_
    refine al_54 X hK hG hq23 (iv_vpin (iv_c 3 (a := 3) (b := 3) (by decide +kernel)) (by decide +kernel)) dX12_count_138 (fun f24 hf24 => ?_)
    have hf24 := sg_nw_now hf24
    have of24 := hf24
    have hf24 : iv (-2147483648) 2147483647 f24 := sg_sp_now hf24 (iv_c 3 (a := 3) (b := 3) (by decide +kernel)) (by decide +kernel) rfl
    exact sg_iret X hr hlk hb hK hC hG hS trivial dX12_count_139
  by_cases c25 : x1 = 9
  · refine lv_tableIn (tgt := 140) (off := 134) X.1 X.2.1 dX12_count_6 (by rw [c25]; decide +kernel) (by rw [c25]; decide +kernel) (by rw [c25]; rfl) (by decide) ?_
    refine lv_aload_n X.1 X.2.1 dX12_count_140 rfl (lv_at hl 0 rfl) ?_
    refine gf_X12_32 X hK hG h0 wl_6_210 dX12_count_141 (fun q26 hq26 kq26 => ?_)
    refine lv_iconst (v := 5) X.1 X.2.1 dX12_count_144 (by decide +kernel) ?_
    refine al_54 X hK hG hq26 (iv_vpin (iv_c 5 (a := 5) (b := 5) (by decide +kernel)) (by decide +kernel)) dX12_count_145 (fun f27 hf27 => ?_)
    have hf27 := sg_nw_now hf27
    have of27 := hf27
    have hf27 : iv (-2147483648) 2147483647 f27 := sg_sp_now hf27 (iv_c 5 (a := 5) (b := 5) (by decide +kernel)) (by decide +kernel) rfl
    exact sg_iret X hr hlk hb hK hC hG hS trivial dX12_count_146
  by_cases c28 : x1 = 10
  · refine lv_tableIn (tgt := 147) (off := 141) X.1 X.2.1 dX12_count_6 (by rw [c28]; decide +kernel) (by rw [c28]; decide +kernel) (by rw [c28]; rfl) (by decide) ?_
    refine lv_aload_n X.1 X.2.1 dX12_count_147 rfl (lv_at hl 0 rfl) ?_
    refine gf_X12_32 X hK hG h0 wl_6_210 dX12_count_148 (fun q29 hq29 kq29 => ?_)
    refine lv_bipush (v := 6) X.1 X.2.1 dX12_count_151 (by decide +kernel) ?_
    refine al_54 X hK hG hq29 (iv_vpin (iv_c 6 (a := 6) (b := 6) (by decide +kernel)) (by decide +kernel)) dX12_count_153 (fun f30 hf30 => ?_)
    have hf30 := sg_nw_now hf30
    have of30 := hf30
    have hf30 : iv (-2147483648) 2147483647 f30 := sg_sp_now hf30 (iv_c 6 (a := 6) (b := 6) (by decide +kernel)) (by decide +kernel) rfl
    exact sg_iret X hr hlk hb hK hC hG hS trivial dX12_count_154
  by_cases c31 : x1 = 11
  · refine lv_tableIn (tgt := 155) (off := 149) X.1 X.2.1 dX12_count_6 (by rw [c31]; decide +kernel) (by rw [c31]; decide +kernel) (by rw [c31]; rfl) (by decide) ?_
    refine lv_aload_n X.1 X.2.1 dX12_count_155 rfl (lv_at hl 0 rfl) ?_
    refine gf_X12_35 X hK hG h0 wl_6_213 dX12_count_156 (fun f32 hf32 kf32 => ?_)
    exact sg_iret X hr hlk hb hK hC hG hS trivial dX12_count_159
  by_cases c33 : x1 = 12
  · refine lv_tableIn (tgt := 160) (off := 154) X.1 X.2.1 dX12_count_6 (by rw [c33]; decide +kernel) (by rw [c33]; decide +kernel) (by rw [c33]; rfl) (by decide) ?_
    refine lv_aload_n X.1 X.2.1 dX12_count_160 rfl (lv_at hl 0 rfl) ?_
    refine gf_X12_50 X hK hG h0 wl_6_228 dX12_count_161 (fun f34 hf34 kf34 => ?_)
    exact sg_iret X hr hlk hb hK hC hG hS trivial dX12_count_164
  by_cases c35 : x1 = 13
  · refine lv_tableIn (tgt := 165) (off := 159) X.1 X.2.1 dX12_count_6 (by rw [c35]; decide +kernel) (by rw [c35]; decide +kernel) (by rw [c35]; rfl) (by decide) ?_
    refine lv_aload_n X.1 X.2.1 dX12_count_165 rfl (lv_at hl 0 rfl) ?_
    refine gf_X12_32 X hK hG h0 wl_6_210 dX12_count_166 (fun q36 hq36 kq36 => ?_)
    refine lv_bipush (v := 8) X.1 X.2.1 dX12_count_169 (by decide +kernel) ?_
    refine al_54 X hK hG hq36 (iv_vpin (iv_c 8 (a := 8) (b := 8) (by decide +kernel)) (by decide +kernel)) dX12_count_171 (fun f37 hf37 => ?_)
    have hf37 := sg_nw_now hf37
    have of37 := hf37
    have hf37 : iv 0 60 f37 := sg_sp_now hf37 (iv_c 8 (a := 8) (b := 8) (by decide +kernel)) (by decide +kernel) rfl
    exact sg_iret X hr hlk hb hK hC hG hS trivial dX12_count_172
  by_cases c38 : x1 = 14
  · refine lv_tableIn (tgt := 173) (off := 167) X.1 X.2.1 dX12_count_6 (by rw [c38]; decide +kernel) (by rw [c38]; decide +kernel) (by rw [c38]; rfl) (by decide) ?_
    refine lv_aload_n X.1 X.2.1 dX12_count_173 rfl (lv_at hl 0 rfl) ?_
    refine gf_X12_39 X hK hG h0 wl_6_217 dX12_count_174 (fun f39 hf39 kf39 => ?_)
    exact sg_iret X hr hlk hb hK hC hG hS trivial dX12_count_177
  by_cases c40 : x1 = 15
  · refine lv_tableIn (tgt := 178) (off := 172) X.1 X.2.1 dX12_count_6 (by rw [c40]; decide +kernel) (by rw [c40]; decide +kernel) (by rw [c40]; rfl) (by decide) ?_
    refine lv_aload_n X.1 X.2.1 dX12_count_178 rfl (lv_at hl 0 rfl) ?_
    refine gf_X12_32 X hK hG h0 wl_6_210 dX12_count_179 (fun q41 hq41 kq41 => ?_)
    refine lv_iconst (v := 0) X.1 X.2.1 dX12_count_182 (by decide +kernel) ?_
    refine al_54 X hK hG hq41 (iv_vpin (iv_c 0 (a := 0) (b := 0) (by decide +kernel)) (by decide +kernel)) dX12_count_183 (fun f42 hf42 => ?_)
    have hf42 := sg_nw_now hf42
    have of42 := hf42
    have hf42 : iv (-2147483648) 2147483647 f42 := sg_sp_now hf42 (iv_c 0 (a := 0) (b := 0) (by decide +kernel)) (by decide +kernel) rfl
    exact sg_iret X hr hlk hb hK hC hG hS trivial dX12_count_184
  refine lv_tableOut (tgt := 185) X.1 X.2.1 dX12_count_6 (by have tc2 := iv_nt 0 c2 (by decide +kernel); have tc4 := iv_nt 1 c4 (by decide +kernel); have tc8 := iv_nt 2 c8 (by decide +kernel); have tc10 := iv_nt 3 c10 (by decide +kernel); have tc12 := iv_nt 4 c12 (by decide +kernel); have tc14 := iv_nt 5 c14 (by decide +kernel); have tc16 := iv_nt 6 c16 (by decide +kernel); have tc19 := iv_nt 7 c19 (by decide +kernel); have tc22 := iv_nt 8 c22 (by decide +kernel); have tc25 := iv_nt 9 c25 (by decide +kernel); have tc28 := iv_nt 10 c28 (by decide +kernel); have tc31 := iv_nt 11 c31 (by decide +kernel); have tc33 := iv_nt 12 c33 (by decide +kernel); have tc35 := iv_nt 13 c35 (by decide +kernel); have tc38 := iv_nt 14 c38 (by decide +kernel); have tc40 := iv_nt 15 c40 (by decide +kernel); have b1 := ((iv_top x1)).1; have b2 := ((iv_top x1)).2; omega) (by decide) ?_
  refine lv_ldcw X.1 X.2.1 X.2.2.2.1 (X.2.2.2.2 _ wl_8_190) dX12_count_185 ?_
  exact sg_iret X hr hlk hb hK hC hG hS trivial dX12_count_188

theorem ca_X12_count_0   (X : CallFix p m c cc nL s args sg_tbl own) (hK : va_K D vwCl tys s) (hG : sgG (KT P) D vwCl (fun q : Nat => base ≤ q) tys ad ks H) (hC : sgC base s) (hS : va_S (fun q : Nat => base ≤ q) s.heap H locs) (hb : base ≤ s.heap.size) (hp4 : P.2.2.2.2.1 = false) (a0 : Nat) (h0 : isK ad ks 12 a0) (x1 : Int32) (hl : Cond.methodLink own index yX12_count ∈ sg_tbl) (hsize : ls.size = nL) (hst : st0 = [.int x1].reverse ++ .ref a0 :: rest) (hW : (rest.map fun v => v.category).sum ≤ 8) (hR : 2 ≤ R.frames ∧ 41 ≤ R.locals) (hf : cells ≤ R.cells ∧ slots ≤ R.slots) (hdg : decode cc pc = .ok (.invokevirtual index, 3)) (kk : ∀ (r : Int32) (H1 : Heap) (locs1 : List Loc), (fun r : Int32 => True) r → sgG (KT P) D vwCl (fun q : Nat => base ≤ q) tys ad ks H1 → va_S (fun q : Nat => base ≤ q) s.heap H1 locs1 → W p l e R s m args below meth c H1 locs1 cells slots Q (F0 m (pc + 3) ls (.int r :: rest))) : W p l e R s m args below meth c H locs cells slots Q (F0 m pc ls st0) :=
  sg_callVi X hK hG hC hS hb (m_X12_count_0 l hp4 a0 h0 x1) h0 (k := 12) (ci := 12) rfl (C := RX12) (T := TX12) (N := 53) rfl wl_9_161 wl_1_13 wl_9_159 wl_9_160 (n := 1) (by decide +kernel) rfl rfl rfl hl hsize hst hW hR hf hdg kk

set_option maxHeartbeats 8000000 in
set_option maxRecDepth 100000 in
theorem m_X12_winning_0 (l : Launch) {D : va_G} {base : Nat} {tys : List (ClassId × FieldType)} {ad ks : List Nat} {P : sgPm} (hp4 : P.2.2.2.2.1 = false) (a0 : Nat) (h0 : isK ad ks 12 a0) : sgMi l (KT P) D vwCl base tys ad ks yX12_winning cX12_winning 10 (some .int) ({ frames := 0, cells := 0, slots := 0, locals := 0 }) [.ref a0] (fun r : Int32 => True) := by
  refine sg_ofW (by decide +kernel) (Nat.le_of_ble_eq_true rfl) (fun p e s m below meth c X hr hlk hb hK hC hG ls hl => ?_)
  have hS : va_S (fun q : Nat => base ≤ q) s.heap s.heap [] := va_S.rf
  have hl : lv_has ls 10 [(0, .ref a0)] := hl
  refine lv_aload_n X.1 X.2.1 dX12_winning_0 rfl (lv_at hl 0 rfl) ?_
  refine lv_iconst (v := 0) X.1 X.2.1 dX12_winning_1 (by decide +kernel) ?_
  refine pf_X12_0 X hK hG hS h0 wl_6_178 ⟨_, rfl, (iv_top _)⟩ dX12_winning_2 (fun H locs hG hS ku1 ru1 => ?_)
  refine lv_aload_n X.1 X.2.1 dX12_winning_5 rfl (lv_at hl 0 rfl) ?_
  refine gf_X12_23n X hK hG h0 hp4 wl_6_201 dX12_winning_6 (fun f2 hf2 kf2 => ?_)
  refine lv_if_ne (tgt := 14) X.1 X.2.1 dX12_winning_9 (by decide) (fun c3 => ?_) (fun c3 => ?_)
  · exact ((c3 (iv_one hf2 (iv_c 0 (a := 0) (b := 0) (by decide +kernel)) (by decide +kernel)))).elim
  · refine lv_iconst (v := (-1)) X.1 X.2.1 dX12_winning_12 (by decide +kernel) ?_
    exact sg_iret X hr hlk hb hK hC hG hS trivial dX12_winning_13

theorem ca_X12_winning_0   (X : CallFix p m c cc nL s args sg_tbl own) (hK : va_K D vwCl tys s) (hG : sgG (KT P) D vwCl (fun q : Nat => base ≤ q) tys ad ks H) (hC : sgC base s) (hS : va_S (fun q : Nat => base ≤ q) s.heap H locs) (hb : base ≤ s.heap.size) (hp4 : P.2.2.2.2.1 = false) (a0 : Nat) (h0 : isK ad ks 12 a0) (hl : Cond.methodLink own index yX12_winning ∈ sg_tbl) (hsize : ls.size = nL) (hst : st0 = [].reverse ++ .ref a0 :: rest) (hW : (rest.map fun v => v.category).sum ≤ 8) (hR : 1 ≤ R.frames ∧ 29 ≤ R.locals) (hf : cells ≤ R.cells ∧ slots ≤ R.slots) (hdg : decode cc pc = .ok (.invokevirtual index, 3)) (kk : ∀ (r : Int32) (H1 : Heap) (locs1 : List Loc), (fun r : Int32 => True) r → sgG (KT P) D vwCl (fun q : Nat => base ≤ q) tys ad ks H1 → va_S (fun q : Nat => base ≤ q) s.heap H1 locs1 → W p l e R s m args below meth c H1 locs1 cells slots Q (F0 m (pc + 3) ls (.int r :: rest))) : W p l e R s m args below meth c H locs cells slots Q (F0 m pc ls st0) :=
  sg_callVi X hK hG hC hS hb (m_X12_winning_0 l hp4 a0 h0) h0 (k := 12) (ci := 12) rfl (C := RX12) (T := TX12) (N := 53) rfl wl_9_75 wl_1_13 wl_9_73 wl_9_74 (n := 0) (by decide +kernel) rfl rfl rfl hl hsize hst hW hR hf hdg kk

set_option maxHeartbeats 8000000 in
set_option maxRecDepth 100000 in
theorem m_X12_fewest_0 (l : Launch) {D : va_G} {base : Nat} {tys : List (ClassId × FieldType)} {ad ks : List Nat} {P : sgPm} (hp4 : P.2.2.2.2.1 = false) (a0 : Nat) (h0 : isK ad ks 12 a0) : sgMi l (KT P) D vwCl base tys ad ks yX12_fewest cX12_fewest 3 (some .int) ({ frames := 0, cells := 0, slots := 0, locals := 0 }) [.ref a0] (fun r : Int32 => True) := by
  refine sg_ofW (by decide +kernel) (Nat.le_of_ble_eq_true rfl) (fun p e s m below meth c X hr hlk hb hK hC hG ls hl => ?_)
  have hS : va_S (fun q : Nat => base ≤ q) s.heap s.heap [] := va_S.rf
  have hl : lv_has ls 3 [(0, .ref a0)] := hl
  refine lv_aload_n X.1 X.2.1 dX12_fewest_0 rfl (lv_at hl 0 rfl) ?_
  refine lv_iconst (v := 0) X.1 X.2.1 dX12_fewest_1 (by decide +kernel) ?_
  refine pf_X12_0 X hK hG hS h0 wl_6_178 ⟨_, rfl, (iv_top _)⟩ dX12_fewest_2 (fun H locs hG hS ku1 ru1 => ?_)
  refine lv_aload_n X.1 X.2.1 dX12_fewest_5 rfl (lv_at hl 0 rfl) ?_
  refine gf_X12_23n X hK hG h0 hp4 wl_6_201 dX12_fewest_6 (fun f2 hf2 kf2 => ?_)
  refine lv_if_ne (tgt := 14) X.1 X.2.1 dX12_fewest_9 (by decide) (fun c3 => ?_) (fun c3 => ?_)
  · exact ((c3 (iv_one hf2 (iv_c 0 (a := 0) (b := 0) (by decide +kernel)) (by decide +kernel)))).elim
  · refine lv_iconst (v := (-1)) X.1 X.2.1 dX12_fewest_12 (by decide +kernel) ?_
    exact sg_iret X hr hlk hb hK hC hG hS trivial dX12_fewest_13

theorem ca_X12_fewest_0   (X : CallFix p m c cc nL s args sg_tbl own) (hK : va_K D vwCl tys s) (hG : sgG (KT P) D vwCl (fun q : Nat => base ≤ q) tys ad ks H) (hC : sgC base s) (hS : va_S (fun q : Nat => base ≤ q) s.heap H locs) (hb : base ≤ s.heap.size) (hp4 : P.2.2.2.2.1 = false) (a0 : Nat) (h0 : isK ad ks 12 a0) (hl : Cond.methodLink own index yX12_fewest ∈ sg_tbl) (hsize : ls.size = nL) (hst : st0 = [].reverse ++ .ref a0 :: rest) (hW : (rest.map fun v => v.category).sum ≤ 8) (hR : 1 ≤ R.frames ∧ 22 ≤ R.locals) (hf : cells ≤ R.cells ∧ slots ≤ R.slots) (hdg : decode cc pc = .ok (.invokevirtual index, 3)) (kk : ∀ (r : Int32) (H1 : Heap) (locs1 : List Loc), (fun r : Int32 => True) r → sgG (KT P) D vwCl (fun q : Nat => base ≤ q) tys ad ks H1 → va_S (fun q : Nat => base ≤ q) s.heap H1 locs1 → W p l e R s m args below meth c H1 locs1 cells slots Q (F0 m (pc + 3) ls (.int r :: rest))) : W p l e R s m args below meth c H locs cells slots Q (F0 m pc ls st0) :=
  sg_callVi X hK hG hC hS hb (m_X12_fewest_0 l hp4 a0 h0) h0 (k := 12) (ci := 12) rfl (C := RX12) (T := TX12) (N := 53) rfl wl_9_83 wl_1_13 wl_9_81 wl_9_82 (n := 0) (by decide +kernel) rfl rfl rfl hl hsize hst hW hR hf hdg kk

set_option maxHeartbeats 8000000 in
set_option maxRecDepth 100000 in
theorem m_X12_threats_0 (l : Launch) {D : va_G} {base : Nat} {tys : List (ClassId × FieldType)} {ad ks : List Nat} {P : sgPm} (hp4 : P.2.2.2.2.1 = false) (a0 : Nat) (h0 : isK ad ks 12 a0) : sgMi l (KT P) D vwCl base tys ad ks yX12_threats cX12_threats 1 (some .int) ({ frames := 0, cells := 0, slots := 0, locals := 0 }) [.ref a0] (fun r : Int32 => True) := by
  refine sg_ofW (by decide +kernel) (Nat.le_of_ble_eq_true rfl) (fun p e s m below meth c X hr hlk hb hK hC hG ls hl => ?_)
  have hS : va_S (fun q : Nat => base ≤ q) s.heap s.heap [] := va_S.rf
  have hl : lv_has ls 1 [(0, .ref a0)] := hl
  refine lv_aload_n X.1 X.2.1 dX12_threats_0 rfl (lv_at hl 0 rfl) ?_
  refine lv_iconst (v := 0) X.1 X.2.1 dX12_threats_1 (by decide +kernel) ?_
  refine pf_X12_0 X hK hG hS h0 wl_6_178 ⟨_, rfl, (iv_top _)⟩ dX12_threats_2 (fun H locs hG hS ku1 ru1 => ?_)
  refine lv_aload_n X.1 X.2.1 dX12_threats_5 rfl (lv_at hl 0 rfl) ?_
  refine gf_X12_23n X hK hG h0 hp4 wl_6_201 dX12_threats_6 (fun f2 hf2 kf2 => ?_)
  refine lv_if_ne (tgt := 16) X.1 X.2.1 dX12_threats_9 (by decide) (fun c3 => ?_) (fun c3 => ?_)
  · exact ((c3 (iv_one hf2 (iv_c 0 (a := 0) (b := 0) (by decide +kernel)) (by decide +kernel)))).elim
  · refine lv_iconst (v := (-1)) X.1 X.2.1 dX12_threats_12 (by decide +kernel) ?_
    refine lv_goto (tgt := 38) X.1 X.2.1 dX12_threats_13 (by decide) ?_
    exact sg_iret X hr hlk hb hK hC hG hS trivial dX12_threats_38

theorem ca_X12_threats_0   (X : CallFix p m c cc nL s args sg_tbl own) (hK : va_K D vwCl tys s) (hG : sgG (KT P) D vwCl (fun q : Nat => base ≤ q) tys ad ks H) (hC : sgC base s) (hS : va_S (fun q : Nat => base ≤ q) s.heap H locs) (hb : base ≤ s.heap.size) (hp4 : P.2.2.2.2.1 = false) (a0 : Nat) (h0 : isK ad ks 12 a0) (hl : Cond.methodLink own index yX12_threats ∈ sg_tbl) (hsize : ls.size = nL) (hst : st0 = [].reverse ++ .ref a0 :: rest) (hW : (rest.map fun v => v.category).sum ≤ 8) (hR : 1 ≤ R.frames ∧ 20 ≤ R.locals) (hf : cells ≤ R.cells ∧ slots ≤ R.slots) (hdg : decode cc pc = .ok (.invokevirtual index, 3)) (kk : ∀ (r : Int32) (H1 : Heap) (locs1 : List Loc), (fun r : Int32 => True) r → sgG (KT P) D vwCl (fun q : Nat => base ≤ q) tys ad ks H1 → va_S (fun q : Nat => base ≤ q) s.heap H1 locs1 → W p l e R s m args below meth c H1 locs1 cells slots Q (F0 m (pc + 3) ls (.int r :: rest))) : W p l e R s m args below meth c H locs cells slots Q (F0 m pc ls st0) :=
  sg_callVi X hK hG hC hS hb (m_X12_threats_0 l hp4 a0 h0) h0 (k := 12) (ci := 12) rfl (C := RX12) (T := TX12) (N := 53) rfl wl_8_238 wl_1_13 wl_8_236 wl_8_237 (n := 0) (by decide +kernel) rfl rfl rfl hl hsize hst hW hR hf hdg kk

set_option maxHeartbeats 8000000 in
set_option maxRecDepth 100000 in
theorem m_X12_room_0 (l : Launch) {D : va_G} {base : Nat} {tys : List (ClassId × FieldType)} {ad ks : List Nat} {P : sgPm} (hp4 : P.2.2.2.2.1 = false) (a0 : Nat) (h0 : isK ad ks 12 a0) : sgMi l (KT P) D vwCl base tys ad ks yX12_room cX12_room 1 (some .int) ({ frames := 0, cells := 0, slots := 0, locals := 0 }) [.ref a0] (fun r : Int32 => True) := by
  refine sg_ofW (by decide +kernel) (Nat.le_of_ble_eq_true rfl) (fun p e s m below meth c X hr hlk hb hK hC hG ls hl => ?_)
  have hS : va_S (fun q : Nat => base ≤ q) s.heap s.heap [] := va_S.rf
  have hl : lv_has ls 1 [(0, .ref a0)] := hl
  refine lv_aload_n X.1 X.2.1 dX12_room_0 rfl (lv_at hl 0 rfl) ?_
  refine lv_iconst (v := 0) X.1 X.2.1 dX12_room_1 (by decide +kernel) ?_
  refine pf_X12_0 X hK hG hS h0 wl_6_178 ⟨_, rfl, (iv_top _)⟩ dX12_room_2 (fun H locs hG hS ku1 ru1 => ?_)
  refine lv_aload_n X.1 X.2.1 dX12_room_5 rfl (lv_at hl 0 rfl) ?_
  refine gf_X12_23n X hK hG h0 hp4 wl_6_201 dX12_room_6 (fun f2 hf2 kf2 => ?_)
  refine lv_if_ne (tgt := 16) X.1 X.2.1 dX12_room_9 (by decide) (fun c3 => ?_) (fun c3 => ?_)
  · exact ((c3 (iv_one hf2 (iv_c 0 (a := 0) (b := 0) (by decide +kernel)) (by decide +kernel)))).elim
  · refine lv_iconst (v := (-1)) X.1 X.2.1 dX12_room_12 (by decide +kernel) ?_
    refine lv_goto (tgt := 41) X.1 X.2.1 dX12_room_13 (by decide) ?_
    exact sg_iret X hr hlk hb hK hC hG hS trivial dX12_room_41

theorem ca_X12_room_0   (X : CallFix p m c cc nL s args sg_tbl own) (hK : va_K D vwCl tys s) (hG : sgG (KT P) D vwCl (fun q : Nat => base ≤ q) tys ad ks H) (hC : sgC base s) (hS : va_S (fun q : Nat => base ≤ q) s.heap H locs) (hb : base ≤ s.heap.size) (hp4 : P.2.2.2.2.1 = false) (a0 : Nat) (h0 : isK ad ks 12 a0) (hl : Cond.methodLink own index yX12_room ∈ sg_tbl) (hsize : ls.size = nL) (hst : st0 = [].reverse ++ .ref a0 :: rest) (hW : (rest.map fun v => v.category).sum ≤ 8) (hR : 1 ≤ R.frames ∧ 20 ≤ R.locals) (hf : cells ≤ R.cells ∧ slots ≤ R.slots) (hdg : decode cc pc = .ok (.invokevirtual index, 3)) (kk : ∀ (r : Int32) (H1 : Heap) (locs1 : List Loc), (fun r : Int32 => True) r → sgG (KT P) D vwCl (fun q : Nat => base ≤ q) tys ad ks H1 → va_S (fun q : Nat => base ≤ q) s.heap H1 locs1 → W p l e R s m args below meth c H1 locs1 cells slots Q (F0 m (pc + 3) ls (.int r :: rest))) : W p l e R s m args below meth c H locs cells slots Q (F0 m pc ls st0) :=
  sg_callVi X hK hG hC hS hb (m_X12_room_0 l hp4 a0 h0) h0 (k := 12) (ci := 12) rfl (C := RX12) (T := TX12) (N := 53) rfl wl_9_145 wl_1_13 wl_9_143 wl_9_144 (n := 0) (by decide +kernel) rfl rfl rfl hl hsize hst hW hR hf hdg kk

set_option maxHeartbeats 8000000 in
set_option maxRecDepth 100000 in
theorem m_X12_openings_0 (l : Launch) {D : va_G} {base : Nat} {tys : List (ClassId × FieldType)} {ad ks : List Nat} {P : sgPm} (hp4 : P.2.2.2.2.1 = false) (a0 : Nat) (h0 : isK ad ks 12 a0) : sgMi l (KT P) D vwCl base tys ad ks yX12_openings cX12_openings 7 (some .int) ({ frames := 0, cells := 0, slots := 0, locals := 0 }) [.ref a0] (fun r : Int32 => True) := by
  refine sg_ofW (by decide +kernel) (Nat.le_of_ble_eq_true rfl) (fun p e s m below meth c X hr hlk hb hK hC hG ls hl => ?_)
  have hS : va_S (fun q : Nat => base ≤ q) s.heap s.heap [] := va_S.rf
  have hl : lv_has ls 7 [(0, .ref a0)] := hl
  refine lv_aload_n X.1 X.2.1 dX12_openings_0 rfl (lv_at hl 0 rfl) ?_
  refine lv_iconst (v := 0) X.1 X.2.1 dX12_openings_1 (by decide +kernel) ?_
  refine pf_X12_0 X hK hG hS h0 wl_6_178 ⟨_, rfl, (iv_top _)⟩ dX12_openings_2 (fun H locs hG hS ku1 ru1 => ?_)
  refine lv_aload_n X.1 X.2.1 dX12_openings_5 rfl (lv_at hl 0 rfl) ?_
  refine gf_X12_23n X hK hG h0 hp4 wl_6_201 dX12_openings_6 (fun f2 hf2 kf2 => ?_)
  refine lv_if_ne (tgt := 14) X.1 X.2.1 dX12_openings_9 (by decide) (fun c3 => ?_) (fun c3 => ?_)
  · exact ((c3 (iv_one hf2 (iv_c 0 (a := 0) (b := 0) (by decide +kernel)) (by decide +kernel)))).elim
  · refine lv_iconst (v := (-1)) X.1 X.2.1 dX12_openings_12 (by decide +kernel) ?_
    exact sg_iret X hr hlk hb hK hC hG hS trivial dX12_openings_13

theorem ca_X12_openings_0   (X : CallFix p m c cc nL s args sg_tbl own) (hK : va_K D vwCl tys s) (hG : sgG (KT P) D vwCl (fun q : Nat => base ≤ q) tys ad ks H) (hC : sgC base s) (hS : va_S (fun q : Nat => base ≤ q) s.heap H locs) (hb : base ≤ s.heap.size) (hp4 : P.2.2.2.2.1 = false) (a0 : Nat) (h0 : isK ad ks 12 a0) (hl : Cond.methodLink own index yX12_openings ∈ sg_tbl) (hsize : ls.size = nL) (hst : st0 = [].reverse ++ .ref a0 :: rest) (hW : (rest.map fun v => v.category).sum ≤ 8) (hR : 1 ≤ R.frames ∧ 26 ≤ R.locals) (hf : cells ≤ R.cells ∧ slots ≤ R.slots) (hdg : decode cc pc = .ok (.invokevirtual index, 3)) (kk : ∀ (r : Int32) (H1 : Heap) (locs1 : List Loc), (fun r : Int32 => True) r → sgG (KT P) D vwCl (fun q : Nat => base ≤ q) tys ad ks H1 → va_S (fun q : Nat => base ≤ q) s.heap H1 locs1 → W p l e R s m args below meth c H1 locs1 cells slots Q (F0 m (pc + 3) ls (.int r :: rest))) : W p l e R s m args below meth c H locs cells slots Q (F0 m pc ls st0) :=
  sg_callVi X hK hG hC hS hb (m_X12_openings_0 l hp4 a0 h0) h0 (k := 12) (ci := 12) rfl (C := RX12) (T := TX12) (N := 53) rfl wl_9_123 wl_1_13 wl_9_121 wl_9_122 (n := 0) (by decide +kernel) rfl rfl rfl hl hsize hst hW hR hf hdg kk

set_option maxHeartbeats 8000000 in
set_option maxRecDepth 100000 in
theorem m_X12_cuts_0 (l : Launch) {D : va_G} {base : Nat} {tys : List (ClassId × FieldType)} {ad ks : List Nat} {P : sgPm} (hp4 : P.2.2.2.2.1 = false) (a0 : Nat) (h0 : isK ad ks 12 a0) (x1 : Int32) : sgMi l (KT P) D vwCl base tys ad ks yX12_cuts cX12_cuts 2 (some .int) ({ frames := 0, cells := 0, slots := 0, locals := 0 }) [.ref a0, .int x1] (fun r : Int32 => True) := by
  refine sg_ofW (by decide +kernel) (Nat.le_of_ble_eq_true rfl) (fun p e s m below meth c X hr hlk hb hK hC hG ls hl => ?_)
  have hS : va_S (fun q : Nat => base ≤ q) s.heap s.heap [] := va_S.rf
  have hl : lv_has ls 2 [(0, .ref a0), (1, .int x1)] := hl
  refine lv_aload_n X.1 X.2.1 dX12_cuts_0 rfl (lv_at hl 0 rfl) ?_
  refine lv_iconst (v := 0) X.1 X.2.1 dX12_cuts_1 (by decide +kernel) ?_
  refine pf_X12_0 X hK hG hS h0 wl_6_178 ⟨_, rfl, (iv_top _)⟩ dX12_cuts_2 (fun H locs hG hS ku1 ru1 => ?_)
  refine lv_aload_n X.1 X.2.1 dX12_cuts_5 rfl (lv_at hl 0 rfl) ?_
  refine gf_X12_23n X hK hG h0 hp4 wl_6_201 dX12_cuts_6 (fun f2 hf2 kf2 => ?_)
  have B4_17 : ∀ (locs : List Loc) (ls : Array Slot), va_S (fun q : Nat => base ≤ q) s.heap H locs → lv_has ls 2 [] → W p l e (headSpec (Cond.code yX12_cuts cX12_cuts 2 (some .int) :: sg_tbl) ({ frames := 0, cells := 0, slots := 0, locals := 0 })).room s m #[.ref a0, .int x1] below meth c H locs 0 0 (MQ below (va_Qi (fun r (_ : Unit) => (fun r : Int32 => True) r) (fun _ => sgB (KT P) D vwCl base tys ad ks) (fun q : Nat => base ≤ q)) #[.ref a0, .int x1] s 0 0 (fun q : Nat => base ≤ q)) (F0 m 17 ls []) := by
    intro locs ls hS hl
    refine lv_iconst (v := (-1)) X.1 X.2.1 dX12_cuts_17 (by decide +kernel) ?_
    refine lv_goto (tgt := 27) X.1 X.2.1 dX12_cuts_18 (by decide) ?_
    exact sg_iret X hr hlk hb hK hC hG hS trivial dX12_cuts_27
  refine lv_if_eq (tgt := 17) X.1 X.2.1 dX12_cuts_9 (by decide) (fun c3 => ?_) (fun c3 => ?_)
  · exact B4_17 _ _ hS (lv_sub hl [] rfl)
  · exact ((c3 (iv_one hf2 (iv_c 0 (a := 0) (b := 0) (by decide +kernel)) (by decide +kernel)))).elim

theorem ca_X12_cuts_0   (X : CallFix p m c cc nL s args sg_tbl own) (hK : va_K D vwCl tys s) (hG : sgG (KT P) D vwCl (fun q : Nat => base ≤ q) tys ad ks H) (hC : sgC base s) (hS : va_S (fun q : Nat => base ≤ q) s.heap H locs) (hb : base ≤ s.heap.size) (hp4 : P.2.2.2.2.1 = false) (a0 : Nat) (h0 : isK ad ks 12 a0) (x1 : Int32) (hl : Cond.methodLink own index yX12_cuts ∈ sg_tbl) (hsize : ls.size = nL) (hst : st0 = [.int x1].reverse ++ .ref a0 :: rest) (hW : (rest.map fun v => v.category).sum ≤ 8) (hR : 1 ≤ R.frames ∧ 21 ≤ R.locals) (hf : cells ≤ R.cells ∧ slots ≤ R.slots) (hdg : decode cc pc = .ok (.invokevirtual index, 3)) (kk : ∀ (r : Int32) (H1 : Heap) (locs1 : List Loc), (fun r : Int32 => True) r → sgG (KT P) D vwCl (fun q : Nat => base ≤ q) tys ad ks H1 → va_S (fun q : Nat => base ≤ q) s.heap H1 locs1 → W p l e R s m args below meth c H1 locs1 cells slots Q (F0 m (pc + 3) ls (.int r :: rest))) : W p l e R s m args below meth c H locs cells slots Q (F0 m pc ls st0) :=
  sg_callVi X hK hG hC hS hb (m_X12_cuts_0 l hp4 a0 h0 x1) h0 (k := 12) (ci := 12) rfl (C := RX12) (T := TX12) (N := 53) rfl wl_9_2 wl_1_13 wl_9_0 wl_9_1 (n := 1) (by decide +kernel) rfl rfl rfl hl hsize hst hW hR hf hdg kk

set_option maxHeartbeats 8000000 in
set_option maxRecDepth 100000 in
theorem m_X12_answers_0 (l : Launch) {D : va_G} {base : Nat} {tys : List (ClassId × FieldType)} {ad ks : List Nat} {P : sgPm} (hp4 : P.2.2.2.2.1 = false) (a0 : Nat) (h0 : isK ad ks 12 a0) (x1 : Int32) : sgMi l (KT P) D vwCl base tys ad ks yX12_answers cX12_answers 2 (some .int) ({ frames := 0, cells := 0, slots := 0, locals := 0 }) [.ref a0, .int x1] (fun r : Int32 => True) := by
  refine sg_ofW (by decide +kernel) (Nat.le_of_ble_eq_true rfl) (fun p e s m below meth c X hr hlk hb hK hC hG ls hl => ?_)
  have hS : va_S (fun q : Nat => base ≤ q) s.heap s.heap [] := va_S.rf
  have hl : lv_has ls 2 [(0, .ref a0), (1, .int x1)] := hl
  refine lv_aload_n X.1 X.2.1 dX12_answers_0 rfl (lv_at hl 0 rfl) ?_
  refine lv_iconst (v := 0) X.1 X.2.1 dX12_answers_1 (by decide +kernel) ?_
  refine pf_X12_0 X hK hG hS h0 wl_6_178 ⟨_, rfl, (iv_top _)⟩ dX12_answers_2 (fun H locs hG hS ku1 ru1 => ?_)
  refine lv_aload_n X.1 X.2.1 dX12_answers_5 rfl (lv_at hl 0 rfl) ?_
  refine gf_X12_23n X hK hG h0 hp4 wl_6_201 dX12_answers_6 (fun f2 hf2 kf2 => ?_)
  have B4_17 : ∀ (locs : List Loc) (ls : Array Slot), va_S (fun q : Nat => base ≤ q) s.heap H locs → lv_has ls 2 [] → W p l e (headSpec (Cond.code yX12_answers cX12_answers 2 (some .int) :: sg_tbl) ({ frames := 0, cells := 0, slots := 0, locals := 0 })).room s m #[.ref a0, .int x1] below meth c H locs 0 0 (MQ below (va_Qi (fun r (_ : Unit) => (fun r : Int32 => True) r) (fun _ => sgB (KT P) D vwCl base tys ad ks) (fun q : Nat => base ≤ q)) #[.ref a0, .int x1] s 0 0 (fun q : Nat => base ≤ q)) (F0 m 17 ls []) := by
    intro locs ls hS hl
    refine lv_iconst (v := (-1)) X.1 X.2.1 dX12_answers_17 (by decide +kernel) ?_
    refine lv_goto (tgt := 27) X.1 X.2.1 dX12_answers_18 (by decide) ?_
    exact sg_iret X hr hlk hb hK hC hG hS trivial dX12_answers_27
  refine lv_if_eq (tgt := 17) X.1 X.2.1 dX12_answers_9 (by decide) (fun c3 => ?_) (fun c3 => ?_)
  · exact B4_17 _ _ hS (lv_sub hl [] rfl)
  · exact ((c3 (iv_one hf2 (iv_c 0 (a := 0) (b := 0) (by decide +kernel)) (by decide +kernel)))).elim

theorem ca_X12_answers_0   (X : CallFix p m c cc nL s args sg_tbl own) (hK : va_K D vwCl tys s) (hG : sgG (KT P) D vwCl (fun q : Nat => base ≤ q) tys ad ks H) (hC : sgC base s) (hS : va_S (fun q : Nat => base ≤ q) s.heap H locs) (hb : base ≤ s.heap.size) (hp4 : P.2.2.2.2.1 = false) (a0 : Nat) (h0 : isK ad ks 12 a0) (x1 : Int32) (hl : Cond.methodLink own index yX12_answers ∈ sg_tbl) (hsize : ls.size = nL) (hst : st0 = [.int x1].reverse ++ .ref a0 :: rest) (hW : (rest.map fun v => v.category).sum ≤ 8) (hR : 1 ≤ R.frames ∧ 21 ≤ R.locals) (hf : cells ≤ R.cells ∧ slots ≤ R.slots) (hdg : decode cc pc = .ok (.invokevirtual index, 3)) (kk : ∀ (r : Int32) (H1 : Heap) (locs1 : List Loc), (fun r : Int32 => True) r → sgG (KT P) D vwCl (fun q : Nat => base ≤ q) tys ad ks H1 → va_S (fun q : Nat => base ≤ q) s.heap H1 locs1 → W p l e R s m args below meth c H1 locs1 cells slots Q (F0 m (pc + 3) ls (.int r :: rest))) : W p l e R s m args below meth c H locs cells slots Q (F0 m pc ls st0) :=
  sg_callVi X hK hG hC hS hb (m_X12_answers_0 l hp4 a0 h0 x1) h0 (k := 12) (ci := 12) rfl (C := RX12) (T := TX12) (N := 53) rfl wl_9_10 wl_1_13 wl_9_8 wl_9_9 (n := 1) (by decide +kernel) rfl rfl rfl hl hsize hst hW hR hf hdg kk

set_option maxHeartbeats 8000000 in
set_option maxRecDepth 100000 in
theorem m_X12_advice_0 (l : Launch) {D : va_G} {base : Nat} {tys : List (ClassId × FieldType)} {ad ks : List Nat} {P : sgPm} (hp4 : P.2.2.2.2.1 = false) (a0 : Nat) (h0 : isK ad ks 12 a0) (x1 : Int32) : sgMi l (KT P) D vwCl base tys ad ks yX12_advice cX12_advice 2 (some .int) ({ frames := 0, cells := 0, slots := 0, locals := 0 }) [.ref a0, .int x1] (fun r : Int32 => True) := by
  refine sg_ofW (by decide +kernel) (Nat.le_of_ble_eq_true rfl) (fun p e s m below meth c X hr hlk hb hK hC hG ls hl => ?_)
  have hS : va_S (fun q : Nat => base ≤ q) s.heap s.heap [] := va_S.rf
  have hl : lv_has ls 2 [(0, .ref a0), (1, .int x1)] := hl
  refine lv_aload_n X.1 X.2.1 dX12_advice_0 rfl (lv_at hl 0 rfl) ?_
  refine lv_iconst (v := 0) X.1 X.2.1 dX12_advice_1 (by decide +kernel) ?_
  refine pf_X12_0 X hK hG hS h0 wl_6_178 ⟨_, rfl, (iv_top _)⟩ dX12_advice_2 (fun H locs hG hS ku1 ru1 => ?_)
  refine lv_aload_n X.1 X.2.1 dX12_advice_5 rfl (lv_at hl 0 rfl) ?_
  refine gf_X12_23n X hK hG h0 hp4 wl_6_201 dX12_advice_6 (fun f2 hf2 kf2 => ?_)
  refine lv_if_eq (tgt := 22) X.1 X.2.1 dX12_advice_9 (by decide) (fun c3 => ?_) (fun c3 => ?_)
  · refine lv_iconst (v := (-1)) X.1 X.2.1 dX12_advice_22 (by decide +kernel) ?_
    exact sg_iret X hr hlk hb hK hC hG hS trivial dX12_advice_23
  · exact ((c3 (iv_one hf2 (iv_c 0 (a := 0) (b := 0) (by decide +kernel)) (by decide +kernel)))).elim

theorem ca_X12_advice_0   (X : CallFix p m c cc nL s args sg_tbl own) (hK : va_K D vwCl tys s) (hG : sgG (KT P) D vwCl (fun q : Nat => base ≤ q) tys ad ks H) (hC : sgC base s) (hS : va_S (fun q : Nat => base ≤ q) s.heap H locs) (hb : base ≤ s.heap.size) (hp4 : P.2.2.2.2.1 = false) (a0 : Nat) (h0 : isK ad ks 12 a0) (x1 : Int32) (hl : Cond.methodLink own index yX12_advice ∈ sg_tbl) (hsize : ls.size = nL) (hst : st0 = [.int x1].reverse ++ .ref a0 :: rest) (hW : (rest.map fun v => v.category).sum ≤ 8) (hR : 1 ≤ R.frames ∧ 21 ≤ R.locals) (hf : cells ≤ R.cells ∧ slots ≤ R.slots) (hdg : decode cc pc = .ok (.invokevirtual index, 3)) (kk : ∀ (r : Int32) (H1 : Heap) (locs1 : List Loc), (fun r : Int32 => True) r → sgG (KT P) D vwCl (fun q : Nat => base ≤ q) tys ad ks H1 → va_S (fun q : Nat => base ≤ q) s.heap H1 locs1 → W p l e R s m args below meth c H1 locs1 cells slots Q (F0 m (pc + 3) ls (.int r :: rest))) : W p l e R s m args below meth c H locs cells slots Q (F0 m pc ls st0) :=
  sg_callVi X hK hG hC hS hb (m_X12_advice_0 l hp4 a0 h0 x1) h0 (k := 12) (ci := 12) rfl (C := RX12) (T := TX12) (N := 53) rfl wl_9_14 wl_1_13 wl_9_12 wl_9_13 (n := 1) (by decide +kernel) rfl rfl rfl hl hsize hst hW hR hf hdg kk

set_option maxHeartbeats 8000000 in
set_option maxRecDepth 100000 in
theorem m_X12_odds_0 (l : Launch) {D : va_G} {base : Nat} {tys : List (ClassId × FieldType)} {ad ks : List Nat} {P : sgPm} (hp4 : P.2.2.2.2.1 = false) (a0 : Nat) (h0 : isK ad ks 12 a0) (x1 : Int32) (x2 : Int32) : sgMi l (KT P) D vwCl base tys ad ks yX12_odds cX12_odds 3 (some .int) ({ frames := 0, cells := 0, slots := 0, locals := 0 }) [.ref a0, .int x1, .int x2] (fun r : Int32 => True) := by
  refine sg_ofW (by decide +kernel) (Nat.le_of_ble_eq_true rfl) (fun p e s m below meth c X hr hlk hb hK hC hG ls hl => ?_)
  have hS : va_S (fun q : Nat => base ≤ q) s.heap s.heap [] := va_S.rf
  have hl : lv_has ls 3 [(0, .ref a0), (1, .int x1), (2, .int x2)] := hl
  refine lv_aload_n X.1 X.2.1 dX12_odds_0 rfl (lv_at hl 0 rfl) ?_
  refine lv_iconst (v := 0) X.1 X.2.1 dX12_odds_1 (by decide +kernel) ?_
  refine pf_X12_0 X hK hG hS h0 wl_6_178 ⟨_, rfl, (iv_top _)⟩ dX12_odds_2 (fun H locs hG hS ku1 ru1 => ?_)
  refine lv_aload_n X.1 X.2.1 dX12_odds_5 rfl (lv_at hl 0 rfl) ?_
  refine gf_X12_23n X hK hG h0 hp4 wl_6_201 dX12_odds_6 (fun f2 hf2 kf2 => ?_)
  refine lv_if_eq (tgt := 36) X.1 X.2.1 dX12_odds_9 (by decide) (fun c3 => ?_) (fun c3 => ?_)
  · refine lv_iconst (v := (-1)) X.1 X.2.1 dX12_odds_36 (by decide +kernel) ?_
    exact sg_iret X hr hlk hb hK hC hG hS trivial dX12_odds_37
  · exact ((c3 (iv_one hf2 (iv_c 0 (a := 0) (b := 0) (by decide +kernel)) (by decide +kernel)))).elim

theorem ca_X12_odds_0   (X : CallFix p m c cc nL s args sg_tbl own) (hK : va_K D vwCl tys s) (hG : sgG (KT P) D vwCl (fun q : Nat => base ≤ q) tys ad ks H) (hC : sgC base s) (hS : va_S (fun q : Nat => base ≤ q) s.heap H locs) (hb : base ≤ s.heap.size) (hp4 : P.2.2.2.2.1 = false) (a0 : Nat) (h0 : isK ad ks 12 a0) (x1 : Int32) (x2 : Int32) (hl : Cond.methodLink own index yX12_odds ∈ sg_tbl) (hsize : ls.size = nL) (hst : st0 = [.int x1, .int x2].reverse ++ .ref a0 :: rest) (hW : (rest.map fun v => v.category).sum ≤ 8) (hR : 1 ≤ R.frames ∧ 22 ≤ R.locals) (hf : cells ≤ R.cells ∧ slots ≤ R.slots) (hdg : decode cc pc = .ok (.invokevirtual index, 3)) (kk : ∀ (r : Int32) (H1 : Heap) (locs1 : List Loc), (fun r : Int32 => True) r → sgG (KT P) D vwCl (fun q : Nat => base ≤ q) tys ad ks H1 → va_S (fun q : Nat => base ≤ q) s.heap H1 locs1 → W p l e R s m args below meth c H1 locs1 cells slots Q (F0 m (pc + 3) ls (.int r :: rest))) : W p l e R s m args below meth c H locs cells slots Q (F0 m pc ls st0) :=
  sg_callVi X hK hG hC hS hb (m_X12_odds_0 l hp4 a0 h0 x1 x2) h0 (k := 12) (ci := 12) rfl (C := RX12) (T := TX12) (N := 53) rfl wl_9_127 wl_1_13 wl_9_125 wl_9_126 (n := 2) (by decide +kernel) rfl rfl rfl hl hsize hst hW hR hf hdg kk
end
