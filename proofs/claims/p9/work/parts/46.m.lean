abbrev cX12_perform : ByteArray := prog_14_method_83_code
def yX12_perform : MethodName := ⟨RX12, "perform", "(I)I"⟩
abbrev cX12_run : ByteArray := prog_14_method_82_code
def yX12_run : MethodName := ⟨RX12, "run", "(I)I"⟩
theorem dX12_perform_0 : decode cX12_perform 0 = .ok (.aload_n 0, 1) := by decide +kernel
theorem dX12_perform_1 : decode cX12_perform 1 = .ok (.iconst 0, 1) := by decide +kernel
theorem dX12_perform_2 : decode cX12_perform 2 = .ok (.putfield 94, 3) := by decide +kernel
theorem dX12_perform_5 : decode cX12_perform 5 = .ok (.aload_n 0, 1) := by decide +kernel
theorem dX12_perform_6 : decode cX12_perform 6 = .ok (.iload_n 1, 1) := by decide +kernel
theorem dX12_perform_7 : decode cX12_perform 7 = .ok (.invokevirtual 440, 3) := by decide +kernel
theorem dX12_perform_10 : decode cX12_perform 10 = .ok (.ifCond .eq 10, 3) := by decide +kernel
theorem dX12_perform_13 : decode cX12_perform 13 = .ok (.aload_n 0, 1) := by decide +kernel
theorem dX12_perform_14 : decode cX12_perform 14 = .ok (.getfield 302, 3) := by decide +kernel
theorem dX12_perform_17 : decode cX12_perform 17 = .ok (.ifCond .ne 5, 3) := by decide +kernel
theorem dX12_perform_20 : decode cX12_perform 20 = .ok (.iconst (-1), 1) := by decide +kernel
theorem dX12_perform_21 : decode cX12_perform 21 = .ok (.ireturn, 1) := by decide +kernel
theorem dX12_run_0 : decode cX12_run 0 = .ok (.aload_n 0, 1) := by decide +kernel
theorem dX12_run_1 : decode cX12_run 1 = .ok (.iconst 0, 1) := by decide +kernel
theorem dX12_run_2 : decode cX12_run 2 = .ok (.putfield 94, 3) := by decide +kernel
theorem dX12_run_5 : decode cX12_run 5 = .ok (.aload_n 0, 1) := by decide +kernel
theorem dX12_run_6 : decode cX12_run 6 = .ok (.iload_n 1, 1) := by decide +kernel
theorem dX12_run_7 : decode cX12_run 7 = .ok (.invokevirtual 440, 3) := by decide +kernel
theorem dX12_run_10 : decode cX12_run 10 = .ok (.ifCond .eq 10, 3) := by decide +kernel
theorem dX12_run_13 : decode cX12_run 13 = .ok (.aload_n 0, 1) := by decide +kernel
theorem dX12_run_14 : decode cX12_run 14 = .ok (.getfield 302, 3) := by decide +kernel
theorem dX12_run_17 : decode cX12_run 17 = .ok (.ifCond .ne 7, 3) := by decide +kernel
theorem dX12_run_20 : decode cX12_run 20 = .ok (.ldc_w 439, 3) := by decide +kernel
theorem dX12_run_23 : decode cX12_run 23 = .ok (.ireturn, 1) := by decide +kernel
theorem wl_8_202 : (.code yX12_run cX12_run 5 (some .int) : Cond) ∈ sg_tbl := tb_8 _ (List.mem_of_getElem? (i := 202) (by decide +kernel)) (by decide +kernel)
theorem wl_8_200 : (.instanceMethod yX12_run : Cond) ∈ sg_tbl := tb_8 _ (List.mem_of_getElem? (i := 200) (by decide +kernel)) (by decide +kernel)
theorem wl_8_201 : (.selects RX12 yX12_run yX12_run : Cond) ∈ sg_tbl := tb_8 _ (List.mem_of_getElem? (i := 201) (by decide +kernel)) (by decide +kernel)
theorem wl_8_226 : (.code yX12_perform cX12_perform 5 (some .int) : Cond) ∈ sg_tbl := tb_8 _ (List.mem_of_getElem? (i := 226) (by decide +kernel)) (by decide +kernel)
theorem wl_8_224 : (.instanceMethod yX12_perform : Cond) ∈ sg_tbl := tb_8 _ (List.mem_of_getElem? (i := 224) (by decide +kernel)) (by decide +kernel)
theorem wl_8_225 : (.selects RX12 yX12_perform yX12_perform : Cond) ∈ sg_tbl := tb_8 _ (List.mem_of_getElem? (i := 225) (by decide +kernel)) (by decide +kernel)
section
variable {p : Program} {l : Launch} {e : Env} {R : Room} {s : State} {m : MethodId} {args : Array Value} {below : List Frame} {meth : Method} {c : Code} {H : Heap} {locs : List Loc} {cells slots : Nat} {Q : State → Prop} {cc : ByteArray} {nL pc : Nat} {ls : Array Slot} {rest : List Value} {own : String} {D : va_G} {A : Nat → Prop} {tys : List (ClassId × FieldType)} {ad ks : List Nat} {P : sgPm} {H0 : Heap} {index : Nat} {base : Nat} {st0 : List Value} {a : Nat}

set_option maxHeartbeats 8000000 in
set_option maxRecDepth 100000 in
theorem m_X12_run_0 (l : Launch) {D : va_G} {base : Nat} {tys : List (ClassId × FieldType)} {ad ks : List Nat} {P : sgPm} (hp4 : P.2.2.2.2.1 = false) (a0 : Nat) (h0 : isK ad ks 12 a0) (x1 : Int32) : sgMi l (KT P) D vwCl base tys ad ks yX12_run cX12_run 5 (some .int) ({ frames := 1, cells := 0, slots := 0, locals := 21 }) [.ref a0, .int x1] (fun r : Int32 => True) := by
  refine sg_ofW (by decide +kernel) (Nat.le_of_ble_eq_true rfl) (fun p e s m below meth c X hr hlk hb hK hC hG ls hl => ?_)
  have hS : va_S (fun q : Nat => base ≤ q) s.heap s.heap [] := va_S.rf
  have hl : lv_has ls 5 [(0, .ref a0), (1, .int x1)] := hl
  refine lv_aload_n X.1 X.2.1 dX12_run_0 rfl (lv_at hl 0 rfl) ?_
  refine lv_iconst (v := 0) X.1 X.2.1 dX12_run_1 (by decide +kernel) ?_
  refine pf_X12_0 X hK hG hS h0 wl_6_178 ⟨_, rfl, (iv_of (iv_c 0 (a := 0) (b := 0) (by decide +kernel)) (a' := (-2147483648)) (b' := 2147483647) (by decide +kernel))⟩ dX12_run_2 (fun H locs hG hS ku1 ru1 => ?_)
  refine lv_aload_n X.1 X.2.1 dX12_run_5 rfl (lv_at hl 0 rfl) ?_
  refine lv_iload_n X.1 X.2.1 dX12_run_6 rfl (lv_at hl 1 rfl) ?_
  refine ca_X12_isGame X hK hG hC (fun _ h => h) hS hb a0 h0 x1 wl_8_195 hl.1 (rest := []) rfl (Nat.le_of_ble_eq_true rfl) ⟨Nat.le_of_ble_eq_true rfl, Nat.le_of_ble_eq_true rfl⟩ ⟨Nat.le_of_ble_eq_true rfl, Nat.le_of_ble_eq_true rfl⟩ dX12_run_7 (fun f2 locs hf2 hS => ?_)
  refine lv_if_eq (tgt := 20) X.1 X.2.1 dX12_run_10 (by decide) (fun c3 => ?_) (fun c3 => ?_)
  · refine lv_ldcw X.1 X.2.1 X.2.2.2.1 (X.2.2.2.2 _ wl_8_190) dX12_run_20 ?_
    exact sg_iret X hr hlk hb hK hC hG hS trivial dX12_run_23
  · refine lv_aload_n X.1 X.2.1 dX12_run_13 rfl (lv_at hl 0 rfl) ?_
    refine gf_X12_23n X hK hG h0 hp4 wl_6_201 dX12_run_14 (fun f4 hf4 kf4 => ?_)
    refine lv_if_ne (tgt := 24) X.1 X.2.1 dX12_run_17 (by decide) (fun c5 => ?_) (fun c5 => ?_)
    · exact ((c5 (iv_one hf4 (iv_c 0 (a := 0) (b := 0) (by decide +kernel)) (by decide +kernel)))).elim
    · refine lv_ldcw X.1 X.2.1 X.2.2.2.1 (X.2.2.2.2 _ wl_8_190) dX12_run_20 ?_
      exact sg_iret X hr hlk hb hK hC hG hS trivial dX12_run_23

theorem ca_X12_run_0  (X : CallFix p m c cc nL s args sg_tbl own) (hK : va_K D vwCl tys s) (hG : sgG (KT P) D vwCl (fun q : Nat => base ≤ q) tys ad ks H) (hC : sgC base s) (hS : va_S (fun q : Nat => base ≤ q) s.heap H locs) (hb : base ≤ s.heap.size) (hp4 : P.2.2.2.2.1 = false) (a0 : Nat) (h0 : isK ad ks 12 a0) (x1 : Int32) (hl : Cond.methodLink own index yX12_run ∈ sg_tbl) (hsize : ls.size = nL) (hst : st0 = [.int x1].reverse ++ .ref a0 :: rest) (hW : (rest.map fun v => v.category).sum ≤ 8) (hR : 2 ≤ R.frames ∧ 45 ≤ R.locals) (hf : cells ≤ R.cells ∧ slots ≤ R.slots) (hdg : decode cc pc = .ok (.invokevirtual index, 3)) (kk : ∀ (r : Int32) (H1 : Heap) (locs1 : List Loc), (fun r : Int32 => True) r → sgG (KT P) D vwCl (fun q : Nat => base ≤ q) tys ad ks H1 → va_S (fun q : Nat => base ≤ q) s.heap H1 locs1 → W p l e R s m args below meth c H1 locs1 cells slots Q (F0 m (pc + 3) ls (.int r :: rest))) : W p l e R s m args below meth c H locs cells slots Q (F0 m pc ls st0) :=
  sg_callVi X hK hG hC hS hb (m_X12_run_0 l hp4 a0 h0 x1) h0 (k := 12) (ci := 12) rfl (C := RX12) (T := TX12) (N := 53) rfl wl_8_202 wl_1_13 wl_8_200 wl_8_201 (n := 1) (by decide +kernel) rfl rfl rfl hl hsize hst hW hR hf hdg kk

set_option maxHeartbeats 8000000 in
set_option maxRecDepth 100000 in
theorem m_X12_perform_0 (l : Launch) {D : va_G} {base : Nat} {tys : List (ClassId × FieldType)} {ad ks : List Nat} {P : sgPm} (hp4 : P.2.2.2.2.1 = false) (a0 : Nat) (h0 : isK ad ks 12 a0) (x1 : Int32) : sgMi l (KT P) D vwCl base tys ad ks yX12_perform cX12_perform 5 (some .int) ({ frames := 1, cells := 0, slots := 0, locals := 21 }) [.ref a0, .int x1] (fun r : Int32 => True) := by
  refine sg_ofW (by decide +kernel) (Nat.le_of_ble_eq_true rfl) (fun p e s m below meth c X hr hlk hb hK hC hG ls hl => ?_)
  have hS : va_S (fun q : Nat => base ≤ q) s.heap s.heap [] := va_S.rf
  have hl : lv_has ls 5 [(0, .ref a0), (1, .int x1)] := hl
  refine lv_aload_n X.1 X.2.1 dX12_perform_0 rfl (lv_at hl 0 rfl) ?_
  refine lv_iconst (v := 0) X.1 X.2.1 dX12_perform_1 (by decide +kernel) ?_
  refine pf_X12_0 X hK hG hS h0 wl_6_178 ⟨_, rfl, (iv_of (iv_c 0 (a := 0) (b := 0) (by decide +kernel)) (a' := (-2147483648)) (b' := 2147483647) (by decide +kernel))⟩ dX12_perform_2 (fun H locs hG hS ku1 ru1 => ?_)
  refine lv_aload_n X.1 X.2.1 dX12_perform_5 rfl (lv_at hl 0 rfl) ?_
  refine lv_iload_n X.1 X.2.1 dX12_perform_6 rfl (lv_at hl 1 rfl) ?_
  refine ca_X12_isGame X hK hG hC (fun _ h => h) hS hb a0 h0 x1 wl_8_195 hl.1 (rest := []) rfl (Nat.le_of_ble_eq_true rfl) ⟨Nat.le_of_ble_eq_true rfl, Nat.le_of_ble_eq_true rfl⟩ ⟨Nat.le_of_ble_eq_true rfl, Nat.le_of_ble_eq_true rfl⟩ dX12_perform_7 (fun f2 locs hf2 hS => ?_)
  refine lv_if_eq (tgt := 20) X.1 X.2.1 dX12_perform_10 (by decide) (fun c3 => ?_) (fun c3 => ?_)
  · refine lv_iconst (v := (-1)) X.1 X.2.1 dX12_perform_20 (by decide +kernel) ?_
    exact sg_iret X hr hlk hb hK hC hG hS trivial dX12_perform_21
  · refine lv_aload_n X.1 X.2.1 dX12_perform_13 rfl (lv_at hl 0 rfl) ?_
    refine gf_X12_23n X hK hG h0 hp4 wl_6_201 dX12_perform_14 (fun f4 hf4 kf4 => ?_)
    refine lv_if_ne (tgt := 22) X.1 X.2.1 dX12_perform_17 (by decide) (fun c5 => ?_) (fun c5 => ?_)
    · exact ((c5 (iv_one hf4 (iv_c 0 (a := 0) (b := 0) (by decide +kernel)) (by decide +kernel)))).elim
    · refine lv_iconst (v := (-1)) X.1 X.2.1 dX12_perform_20 (by decide +kernel) ?_
      exact sg_iret X hr hlk hb hK hC hG hS trivial dX12_perform_21

theorem ca_X12_perform_0  (X : CallFix p m c cc nL s args sg_tbl own) (hK : va_K D vwCl tys s) (hG : sgG (KT P) D vwCl (fun q : Nat => base ≤ q) tys ad ks H) (hC : sgC base s) (hS : va_S (fun q : Nat => base ≤ q) s.heap H locs) (hb : base ≤ s.heap.size) (hp4 : P.2.2.2.2.1 = false) (a0 : Nat) (h0 : isK ad ks 12 a0) (x1 : Int32) (hl : Cond.methodLink own index yX12_perform ∈ sg_tbl) (hsize : ls.size = nL) (hst : st0 = [.int x1].reverse ++ .ref a0 :: rest) (hW : (rest.map fun v => v.category).sum ≤ 8) (hR : 2 ≤ R.frames ∧ 45 ≤ R.locals) (hf : cells ≤ R.cells ∧ slots ≤ R.slots) (hdg : decode cc pc = .ok (.invokevirtual index, 3)) (kk : ∀ (r : Int32) (H1 : Heap) (locs1 : List Loc), (fun r : Int32 => True) r → sgG (KT P) D vwCl (fun q : Nat => base ≤ q) tys ad ks H1 → va_S (fun q : Nat => base ≤ q) s.heap H1 locs1 → W p l e R s m args below meth c H1 locs1 cells slots Q (F0 m (pc + 3) ls (.int r :: rest))) : W p l e R s m args below meth c H locs cells slots Q (F0 m pc ls st0) :=
  sg_callVi X hK hG hC hS hb (m_X12_perform_0 l hp4 a0 h0 x1) h0 (k := 12) (ci := 12) rfl (C := RX12) (T := TX12) (N := 53) rfl wl_8_226 wl_1_13 wl_8_224 wl_8_225 (n := 1) (by decide +kernel) rfl rfl rfl hl hsize hst hW hR hf hdg kk
end
