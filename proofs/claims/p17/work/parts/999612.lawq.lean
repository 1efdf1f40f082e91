abbrev cX12_drought : ByteArray := prog_14_method_54_code
def yX12_drought : MethodName := ⟨RX12, "drought", "(I)Z"⟩
theorem dX12_drought_0 : decode cX12_drought 0 = .ok (.aload_n 0, 1) := by decide +kernel
theorem dX12_drought_1 : decode cX12_drought 1 = .ok (.iconst 0, 1) := by decide +kernel
theorem dX12_drought_2 : decode cX12_drought 2 = .ok (.putfield 94, 3) := by decide +kernel
theorem dX12_drought_5 : decode cX12_drought 5 = .ok (.iload_n 1, 1) := by decide +kernel
theorem dX12_drought_6 : decode cX12_drought 6 = .ok (.i2l, 1) := by decide +kernel
theorem dX12_drought_7 : decode cX12_drought 7 = .ok (.lconst 0, 1) := by decide +kernel
theorem dX12_drought_8 : decode cX12_drought 8 = .ok (.ldc2_w 358, 3) := by decide +kernel
theorem dX12_drought_11 : decode cX12_drought 11 = .ok (.invokestatic 215, 3) := by decide +kernel
theorem dX12_drought_14 : decode cX12_drought 14 = .ok (.ifCond .eq 11, 3) := by decide +kernel
theorem dX12_drought_17 : decode cX12_drought 17 = .ok (.iload_n 1, 1) := by decide +kernel
theorem dX12_drought_18 : decode cX12_drought 18 = .ok (.aload_n 0, 1) := by decide +kernel
theorem dX12_drought_19 : decode cX12_drought 19 = .ok (.getfield 360, 3) := by decide +kernel
theorem dX12_drought_22 : decode cX12_drought 22 = .ok (.if_icmp .ne 5, 3) := by decide +kernel
theorem dX12_drought_25 : decode cX12_drought 25 = .ok (.iconst 0, 1) := by decide +kernel
theorem dX12_drought_26 : decode cX12_drought 26 = .ok (.ireturn, 1) := by decide +kernel
theorem dX12_drought_27 : decode cX12_drought 27 = .ok (.aload_n 0, 1) := by decide +kernel
theorem dX12_drought_28 : decode cX12_drought 28 = .ok (.iload_n 1, 1) := by decide +kernel
theorem dX12_drought_29 : decode cX12_drought 29 = .ok (.putfield 360, 3) := by decide +kernel
theorem dX12_drought_32 : decode cX12_drought 32 = .ok (.iconst 1, 1) := by decide +kernel
theorem dX12_drought_33 : decode cX12_drought 33 = .ok (.ireturn, 1) := by decide +kernel
theorem wl_8_85 : (.constantLong RX12 358 (99) : Cond) ∈ sg_tbl := tb_8 _ (List.mem_of_getElem? (i := 85) (by decide +kernel)) (by decide +kernel)
theorem wl_8_84 : (.code yX12_drought cX12_drought 2 (some .boolean) : Cond) ∈ sg_tbl := tb_8 _ (List.mem_of_getElem? (i := 84) (by decide +kernel)) (by decide +kernel)
theorem wl_8_82 : (.instanceMethod yX12_drought : Cond) ∈ sg_tbl := tb_8 _ (List.mem_of_getElem? (i := 82) (by decide +kernel)) (by decide +kernel)
theorem wl_8_83 : (.selects RX12 yX12_drought yX12_drought : Cond) ∈ sg_tbl := tb_8 _ (List.mem_of_getElem? (i := 83) (by decide +kernel)) (by decide +kernel)
section
variable {p : Program} {l : Launch} {e : Env} {R : Room} {s : State} {m : MethodId} {args : Array Value} {below : List Frame} {meth : Method} {c : Code} {H : Heap} {locs : List Loc} {cells slots : Nat} {Q : State → Prop} {cc : ByteArray} {nL pc : Nat} {ls : Array Slot} {rest : List Value} {own : String} {D : va_G} {A : Nat → Prop} {tys : List (ClassId × FieldType)} {ad ks : List Nat} {P : sgPm} {H0 : Heap} {index : Nat} {base : Nat} {st0 : List Value} {a : Nat}
theorem pf_X12_35d   (X : CallFix p m c cc nL s args sg_tbl own) (hK : va_K D vwCl tys s) (hG : sgG (KT P) D vwCl A tys ad ks H) {x : Int32} (hS : va_S A H0 H locs) (ha : isK ad ks 12 a) (hl : Cond.fieldLink own index "LawnAheadModel" "drought" "I" ∈ sg_tbl) (hdg : decode cc pc = .ok (.putfield index, 3)) (kk : ∀ (H1 : Heap) (locs1 : List Loc), sgG (KT (P.1, P.2.1, P.2.2.1, P.2.2.2.1, P.2.2.2.2.1, x.toInt, P.2.2.2.2.2.2)) D vwCl A tys ad ks H1 → va_S A H0 H1 locs1 → W p l e R s m args below meth c H1 locs1 cells slots Q (F0 m (pc + 3) ls rest)) : W p l e R s m args below meth c H locs cells slots Q (F0 m pc ls (.int x :: .ref a :: rest)) :=
  sg_put1 (kt' := KT (P.1, P.2.1, P.2.2.1, P.2.2.2.1, P.2.2.2.2.1, x.toInt, P.2.2.2.2.2.2)) X hK hG hS ha (k := 12) (by decide) (ci := 12) (fts := [.inl ((-2147483648), 2147483647), .inr (.inl (false, 45)), .inr (.inl (false, 46)), .inr (.inl (false, 47)), .inr (.inl (false, 48)), .inr (.inr true), .inl (sgC240 (sgL2 P), sgC240 (sgL2 P)), .inl ((P.2.2.2.2.2.2.2.2.1.val : Int), (P.2.2.2.2.2.2.2.2.1.val : Int)), .inl ((-2147483648), 2147483647), .inl (0, 240), .inl ((-2147483648), 2147483647), .inl ((-1), 241), .inl (0, 6), .inl ((-2147483648), 2147483647), .inl ((-2147483648), 2147483647), .inr (.inr true), .inr (.inr true), .inl (0, 1), .inr (.inl (false, 49)), .inr (.inl (false, 50)), .inr (.inl (false, 51)), .inr (.inl (false, 52)), .inr (.inl (false, 53)), .inl (sgC1 P, sgC1 P), .inl ((-2147483648), 2147483647), .inl ((-2147483648), 2147483647), .inl ((-2147483648), 2147483647), .inl ((-2147483648), 2147483647), .inl ((-2147483648), 2147483647), .inl ((P.2.2.2.2.2.2.2.2.2.1.val : Int), (P.2.2.2.2.2.2.2.2.2.1.val : Int)), .inl (0, 1), .inl (0, 1), .inr (.inl (false, 54)), .inr (.inl (false, 55)), .inl ((-1), 3), .inl (P.2.2.2.2.2.1, P.2.2.2.2.2.1), .inr (.inl (false, 56)), .inr (.inl (false, 57)), .inr (.inl (false, 58)), .inl (0, 40), .inr (.inr false), .inr (.inl (false, 59)), .inl ((-2147483648), 2147483647), .inl ((-2147483648), 2147483647), .inr (.inl (false, 60)), .inr (.inl (false, 61)), .inr (.inl (false, 62)), .inl (0, 12), .inr (.inl (false, 63)), .inr (.inl (false, 64)), .inl (0, 12), .inr (.inl (false, 65)), .inl (0, 1)]) (fts' := [.inl ((-2147483648), 2147483647), .inr (.inl (false, 45)), .inr (.inl (false, 46)), .inr (.inl (false, 47)), .inr (.inl (false, 48)), .inr (.inr true), .inl (sgC240 (sgL2 P), sgC240 (sgL2 P)), .inl (((P.1, P.2.1, P.2.2.1, P.2.2.2.1, P.2.2.2.2.1, x.toInt, P.2.2.2.2.2.2).2.2.2.2.2.2.2.2.1.val : Int), ((P.1, P.2.1, P.2.2.1, P.2.2.2.1, P.2.2.2.2.1, x.toInt, P.2.2.2.2.2.2).2.2.2.2.2.2.2.2.1.val : Int)), .inl ((-2147483648), 2147483647), .inl (0, 240), .inl ((-2147483648), 2147483647), .inl ((-1), 241), .inl (0, 6), .inl ((-2147483648), 2147483647), .inl ((-2147483648), 2147483647), .inr (.inr true), .inr (.inr true), .inl (0, 1), .inr (.inl (false, 49)), .inr (.inl (false, 50)), .inr (.inl (false, 51)), .inr (.inl (false, 52)), .inr (.inl (false, 53)), .inl (sgC1 P, sgC1 P), .inl ((-2147483648), 2147483647), .inl ((-2147483648), 2147483647), .inl ((-2147483648), 2147483647), .inl ((-2147483648), 2147483647), .inl ((-2147483648), 2147483647), .inl (((P.1, P.2.1, P.2.2.1, P.2.2.2.1, P.2.2.2.2.1, x.toInt, P.2.2.2.2.2.2).2.2.2.2.2.2.2.2.2.1.val : Int), ((P.1, P.2.1, P.2.2.1, P.2.2.2.1, P.2.2.2.2.1, x.toInt, P.2.2.2.2.2.2).2.2.2.2.2.2.2.2.2.1.val : Int)), .inl (0, 1), .inl (0, 1), .inr (.inl (false, 54)), .inr (.inl (false, 55)), .inl ((-1), 3), .inl ((P.1, P.2.1, P.2.2.1, P.2.2.2.1, P.2.2.2.2.1, x.toInt, P.2.2.2.2.2.2).2.2.2.2.2.1, (P.1, P.2.1, P.2.2.1, P.2.2.2.1, P.2.2.2.2.1, x.toInt, P.2.2.2.2.2.2).2.2.2.2.2.1), .inr (.inl (false, 56)), .inr (.inl (false, 57)), .inr (.inl (false, 58)), .inl (0, 40), .inr (.inr false), .inr (.inl (false, 59)), .inl ((-2147483648), 2147483647), .inl ((-2147483648), 2147483647), .inr (.inl (false, 60)), .inr (.inl (false, 61)), .inr (.inl (false, 62)), .inl (0, 12), .inr (.inl (false, 63)), .inr (.inl (false, 64)), .inl (0, 12), .inr (.inl (false, 65)), .inl (0, 1)]) rfl rfl (C := RX12) (T := TX12) (N := 53) rfl inL_X12 tyX12 tyX12_ok nmX12 35 (by decide) rfl (t' := .inl (x.toInt, x.toInt)) rfl (fun i hi => by match i, hi with
    | 0, hi => rfl
    | 1, hi => rfl
    | 2, hi => rfl
    | 3, hi => rfl
    | 4, hi => rfl
    | 5, hi => rfl
    | 6, hi => rfl
    | 7, hi => rfl
    | 8, hi => rfl
    | 9, hi => rfl
    | 10, hi => rfl
    | 11, hi => rfl
    | 12, hi => rfl
    | 13, hi => rfl
    | 14, hi => rfl
    | 15, hi => rfl
    | 16, hi => rfl
    | 17, hi => rfl
    | 18, hi => rfl
    | 19, hi => rfl
    | 20, hi => rfl
    | 21, hi => rfl
    | 22, hi => rfl
    | 23, hi => rfl
    | 24, hi => rfl
    | 25, hi => rfl
    | 26, hi => rfl
    | 27, hi => rfl
    | 28, hi => rfl
    | 29, hi => rfl
    | 30, hi => rfl
    | 31, hi => rfl
    | 32, hi => rfl
    | 33, hi => rfl
    | 34, hi => rfl
    | 35, hi => exact absurd rfl hi
    | 36, hi => rfl
    | 37, hi => rfl
    | 38, hi => rfl
    | 39, hi => rfl
    | 40, hi => rfl
    | 41, hi => rfl
    | 42, hi => rfl
    | 43, hi => rfl
    | 44, hi => rfl
    | 45, hi => rfl
    | 46, hi => rfl
    | 47, hi => rfl
    | 48, hi => rfl
    | 49, hi => rfl
    | 50, hi => rfl
    | 51, hi => rfl
    | 52, hi => rfl
    | i + 53, hi => rfl) (fun i hi => by match i, hi with
    | 0, hi => rfl
    | 1, hi => rfl
    | 2, hi => rfl
    | 3, hi => rfl
    | 4, hi => rfl
    | 5, hi => rfl
    | 6, hi => rfl
    | 7, hi => rfl
    | 8, hi => rfl
    | 9, hi => rfl
    | 10, hi => rfl
    | 11, hi => rfl
    | 12, hi => exact absurd rfl hi
    | 13, hi => rfl
    | 14, hi => rfl
    | 15, hi => rfl
    | 16, hi => rfl
    | 17, hi => rfl
    | 18, hi => rfl
    | 19, hi => rfl
    | 20, hi => rfl
    | 21, hi => rfl
    | 22, hi => rfl
    | 23, hi => rfl
    | 24, hi => rfl
    | 25, hi => rfl
    | 26, hi => rfl
    | 27, hi => rfl
    | 28, hi => rfl
    | 29, hi => rfl
    | 30, hi => rfl
    | 31, hi => rfl
    | 32, hi => rfl
    | 33, hi => rfl
    | 34, hi => rfl
    | 35, hi => rfl
    | 36, hi => rfl
    | 37, hi => rfl
    | 38, hi => rfl
    | 39, hi => rfl
    | 40, hi => rfl
    | 41, hi => rfl
    | 42, hi => rfl
    | 43, hi => rfl
    | 44, hi => rfl
    | 45, hi => rfl
    | 46, hi => rfl
    | 47, hi => rfl
    | 48, hi => rfl
    | 49, hi => rfl
    | 50, hi => rfl
    | 51, hi => rfl
    | 52, hi => rfl
    | 53, hi => rfl
    | 54, hi => rfl
    | 55, hi => rfl
    | 56, hi => rfl
    | 57, hi => rfl
    | 58, hi => rfl
    | 59, hi => rfl
    | 60, hi => rfl
    | 61, hi => rfl
    | 62, hi => rfl
    | 63, hi => rfl
    | 64, hi => rfl
    | 65, hi => rfl
    | 66, hi => rfl
    | 67, hi => rfl
    | i + 68, hi => rfl) hl (fun _ h => h) rfl (ty := .int) rfl rfl rfl ⟨_, rfl, ⟨Int.le_refl _, Int.le_refl _⟩⟩ hdg kk
set_option maxHeartbeats 8000000 in
set_option maxRecDepth 100000 in
theorem m_X12_isIn_2 (l : Launch) {D : va_G} {base : Nat} {tys : List (ClassId × FieldType)} {ad ks : List Nat} {P : sgPm} {Hx : Heap} (x0 : Int64) (x1 : Int64) (x2 : Int64) : sgPi l (KT P) D vwCl base tys ad ks Hx yX12_isIn cX12_isIn 6 (some .boolean) ({ frames := 0, cells := 0, slots := 0, locals := 0 }) [.long x0, .long x1, .long x2] (fun r : Int32 => iv 0 1 r ∧ (¬ r = 0 ↔ x1.toInt ≤ x0.toInt ∧ x0.toInt ≤ x2.toInt)) := by
  refine sg_ofP (Pq := fun Hx => va_Qi (fun r (_ : Unit) => (fun r : Int32 => iv 0 1 r ∧ (¬ r = 0 ↔ x1.toInt ≤ x0.toInt ∧ x0.toInt ≤ x2.toInt)) r) (fun _ t => t.heap = Hx) (fun _ : Nat => False)) (by decide +kernel) (Nat.le_of_ble_eq_true rfl) (fun p e s m below meth c X hr hlk hb hK hC hG ls hl => ?_)
  have hS : va_S (fun _ : Nat => False) s.heap s.heap [] := va_S.rf
  have hl : lv_has ls 6 [(0, .long x0), (2, .long x1), (4, .long x2)] := hl
  refine lv_lload_n X.1 X.2.1 dX12_isIn_0 rfl (lv_at hl 0 rfl) ?_
  refine lv_lload_n X.1 X.2.1 dX12_isIn_1 rfl (lv_at hl 1 rfl) ?_
  refine W.lcmp X.1 X.2.1 dX12_isIn_2 ?_
  refine lv_topi (fun f1 ef1 => ?_)
  refine lv_if_lt (tgt := 17) X.1 X.2.1 dX12_isIn_3 (by decide) (fun c2 => ?_) (fun c2 => ?_)
  · refine lv_iconst (v := 0) X.1 X.2.1 dX12_isIn_17 (by decide +kernel) ?_
    exact sg_zretP X hr (sg_zn (iv_of (iv_c 0 (a := 0) (b := 0) (by decide +kernel)) (a' := 0) (b' := 1) (by decide +kernel))) hlk hS ⟨(iv_of (iv_c 0 (a := 0) (b := 0) (by decide +kernel)) (a' := 0) (b' := 1) (by decide +kernel)), ⟨fun h => absurd rfl h, fun h => absurd h (sg_inF1 ef1 c2)⟩⟩ dX12_isIn_18
  · refine lv_lload_n X.1 X.2.1 dX12_isIn_6 rfl (lv_at hl 0 rfl) ?_
    refine lv_lload X.1 X.2.1 dX12_isIn_7 (lv_at hl 2 rfl) ?_
    refine W.lcmp X.1 X.2.1 dX12_isIn_9 ?_
    refine lv_topi (fun f3 ef3 => ?_)
    refine lv_if_gt (tgt := 17) X.1 X.2.1 dX12_isIn_10 (by decide) (fun c4 => ?_) (fun c4 => ?_)
    · refine lv_iconst (v := 0) X.1 X.2.1 dX12_isIn_17 (by decide +kernel) ?_
      exact sg_zretP X hr (sg_zn (iv_of (iv_c 0 (a := 0) (b := 0) (by decide +kernel)) (a' := 0) (b' := 1) (by decide +kernel))) hlk hS ⟨(iv_of (iv_c 0 (a := 0) (b := 0) (by decide +kernel)) (a' := 0) (b' := 1) (by decide +kernel)), ⟨fun h => absurd rfl h, fun h => absurd h (sg_inF2 ef3 c4)⟩⟩ dX12_isIn_18
    · refine lv_iconst (v := 1) X.1 X.2.1 dX12_isIn_13 (by decide +kernel) ?_
      refine lv_goto (tgt := 18) X.1 X.2.1 dX12_isIn_14 (by decide) ?_
      exact sg_zretP X hr (sg_zn (iv_of (iv_c 1 (a := 1) (b := 1) (by decide +kernel)) (a' := 0) (b' := 1) (by decide +kernel))) hlk hS ⟨(iv_of (iv_c 1 (a := 1) (b := 1) (by decide +kernel)) (a' := 0) (b' := 1) (by decide +kernel)), ⟨fun _ => sg_inT ef1 ef3 (iv_ge_of c2) (iv_ge_of c4), fun _ => by decide⟩⟩ dX12_isIn_18

theorem ca_X12_isIn_2   (X : CallFix p m c cc nL s args sg_tbl own) (hK : va_K D vwCl tys s) (hG : sgG (KT P) D vwCl (fun q : Nat => base ≤ q) tys ad ks H) (hC : sgC base s) (hA : ∀ q : Nat, A q → base ≤ q) (hS : va_S A s.heap H locs) (hb : base ≤ s.heap.size) (x0 : Int64) (x1 : Int64) (x2 : Int64) (hl : Cond.methodLink own index yX12_isIn ∈ sg_tbl) (hsize : ls.size = nL) (hst : st0 = [.long x0, .long x1, .long x2].reverse ++ rest) (hW : (rest.map fun v => v.category).sum ≤ 8) (hR : 1 ≤ R.frames ∧ 25 ≤ R.locals) (hf : cells ≤ R.cells ∧ slots ≤ R.slots) (hdg : decode cc pc = .ok (.invokestatic index, 3)) (kk : ∀ (r : Int32) (locs1 : List Loc), (fun r : Int32 => iv 0 1 r ∧ (¬ r = 0 ↔ x1.toInt ≤ x0.toInt ∧ x0.toInt ≤ x2.toInt)) r → va_S A s.heap H locs1 → W p l e R s m args below meth c H locs1 cells slots Q (F0 m (pc + 3) ls (.int r :: rest))) : W p l e R s m args below meth c H locs cells slots Q (F0 m pc ls st0) :=
  sg_callPSi X hK hG hC hA hS hb (m_X12_isIn_2 l x0 x1 x2) wl_7_121 wl_1_13 wl_7_120 (n := 3) (by decide +kernel) rfl rfl rfl hl hsize hst hW hR hf hdg kk

set_option maxHeartbeats 8000000 in
set_option maxRecDepth 100000 in
theorem m_X12_drought (l : Launch) {D : va_G} {base : Nat} {tys : List (ClassId × FieldType)} {ad ks : List Nat} {P : sgPm} (a0 : Nat) (h0 : isK ad ks 12 a0) (x1 : Int32) : Met l yX12_drought (Cond.code yX12_drought cX12_drought 2 (some .boolean) :: sg_tbl) ({ frames := 1, cells := 0, slots := 0, locals := 25 }) (va_Pc [.ref a0, .int x1] (sgB (KT P) D vwCl base tys ad ks)) (va_Qi (fun r (u : Int32) => u = r ∧ (fun r : Int32 => iv 0 1 r) r) (fun u t => sgDr x1 P.2.2.2.2.2.1 u ∧ (u = 0 ∧ sgB (KT P) D vwCl base tys ad ks t ∨ u = 1 ∧ sgB (KT (P.1, P.2.1, P.2.2.1, P.2.2.2.1, P.2.2.2.2.1, x1.toInt, P.2.2.2.2.2.2)) D vwCl base tys ad ks t)) (fun q : Nat => base ≤ q)) 0 0 (fun q : Nat => base ≤ q) := by
  refine sg_ofW (by decide +kernel) (Nat.le_of_ble_eq_true rfl) (fun p e s m below meth c X hr hlk hb hK hC hG ls hl => ?_)
  have hS : va_S (fun q : Nat => base ≤ q) s.heap s.heap [] := va_S.rf
  have hl : lv_has ls 2 [(0, .ref a0), (1, .int x1)] := hl
  refine lv_aload_n X.1 X.2.1 dX12_drought_0 rfl (lv_at hl 0 rfl) ?_
  refine lv_iconst (v := 0) X.1 X.2.1 dX12_drought_1 (by decide +kernel) ?_
  refine pf_X12_0 X hK hG hS h0 wl_6_178 ⟨_, rfl, (iv_top _)⟩ dX12_drought_2 (fun H locs hG hS ku1 ru1 => ?_)
  refine lv_iload_n X.1 X.2.1 dX12_drought_5 rfl (lv_at hl 1 rfl) ?_
  obtain ⟨g2, eg2⟩ : ∃ y : Int64, y = (x1 : Int32).toInt64 := ⟨_, rfl⟩
  refine lv_i2l (v := g2) X.1 X.2.1 dX12_drought_6 eg2.symm ?_
  refine lv_lconst (v := 0) X.1 X.2.1 dX12_drought_7 (by decide +kernel) ?_
  refine lv_ldc2 X.1 X.2.1 X.2.2.2.1 (X.2.2.2.2 _ wl_8_85) dX12_drought_8 ?_
  refine ca_X12_isIn_2 X hK hG hC (fun _ h => h) hS hb g2 0 99 wl_7_119 hl.1 (rest := []) rfl (Nat.le_of_ble_eq_true rfl) ⟨Nat.le_of_ble_eq_true rfl, Nat.le_of_ble_eq_true rfl⟩ ⟨Nat.le_of_ble_eq_true rfl, Nat.le_of_ble_eq_true rfl⟩ dX12_drought_11 (fun f3 locs hf3 hS => ?_)
  refine lv_if_eq (tgt := 25) X.1 X.2.1 dX12_drought_14 (by decide) (fun c4 => ?_) (fun c4 => ?_)
  · refine lv_iconst (v := 0) X.1 X.2.1 dX12_drought_25 (by decide +kernel) ?_
    exact sg_zret2 X hr (sg_zn (iv_of (iv_c 0 (a := 0) (b := 0) (by decide +kernel)) (a' := 0) (b' := 1) (by decide +kernel))) hlk hS (iv_of (iv_c 0 (a := 0) (b := 0) (by decide +kernel)) (a' := 0) (b' := 1) (by decide +kernel)) (fun t ht hW => ⟨Or.inl ⟨rfl, (sg_dr0 hf3.2 eg2 (by decide +kernel) (by decide +kernel) c4)⟩, Or.inl ⟨rfl, sg_post hb hK hC hG hS ht hW⟩⟩) dX12_drought_26
  · refine lv_iload_n X.1 X.2.1 dX12_drought_17 rfl (lv_at hl 1 rfl) ?_
    refine lv_aload_n X.1 X.2.1 dX12_drought_18 rfl (lv_at hl 0 rfl) ?_
    refine gf_X12_35 X hK hG h0 wl_6_213 dX12_drought_19 (fun f5 hf5 kf5 => ?_)
    refine lv_icmp_ne (tgt := 27) X.1 X.2.1 dX12_drought_22 (by decide) (fun c6 => ?_) (fun c6 => ?_)
    · refine lv_aload_n X.1 X.2.1 dX12_drought_27 rfl (lv_at hl 0 rfl) ?_
      refine lv_iload_n X.1 X.2.1 dX12_drought_28 rfl (lv_at hl 1 rfl) ?_
      refine pf_X12_35d X hK hG hS h0 wl_6_213 dX12_drought_29 (fun H locs hG hS => ?_)
      refine lv_iconst (v := 1) X.1 X.2.1 dX12_drought_32 (by decide +kernel) ?_
      exact sg_zret2 X hr (sg_zn (iv_of (iv_c 1 (a := 1) (b := 1) (by decide +kernel)) (a' := 0) (b' := 1) (by decide +kernel))) hlk hS (iv_of (iv_c 1 (a := 1) (b := 1) (by decide +kernel)) (a' := 0) (b' := 1) (by decide +kernel)) (fun t ht hW => ⟨Or.inr ⟨rfl, sg_dr1 hf3.2 eg2 (by decide +kernel) (by decide +kernel) c4 hf5 c6⟩, Or.inr ⟨rfl, sg_post hb hK hC hG hS ht hW⟩⟩) dX12_drought_33
    · refine lv_iconst (v := 0) X.1 X.2.1 dX12_drought_25 (by decide +kernel) ?_
      exact sg_zret2 X hr (sg_zn (iv_of (iv_c 0 (a := 0) (b := 0) (by decide +kernel)) (a' := 0) (b' := 1) (by decide +kernel))) hlk hS (iv_of (iv_c 0 (a := 0) (b := 0) (by decide +kernel)) (a' := 0) (b' := 1) (by decide +kernel)) (fun t ht hW => ⟨Or.inl ⟨rfl, (sg_dr2 hf5 c6)⟩, Or.inl ⟨rfl, sg_post hb hK hC hG hS ht hW⟩⟩) dX12_drought_26

theorem ca_X12_drought   (X : CallFix p m c cc nL s args sg_tbl own) (hK : va_K D vwCl tys s) (hG : sgG (KT P) D vwCl (fun q : Nat => base ≤ q) tys ad ks H) (hC : sgC base s) (hS : va_S (fun q : Nat => base ≤ q) s.heap H locs) (hb : base ≤ s.heap.size) (a0 : Nat) (h0 : isK ad ks 12 a0) (x1 : Int32) (hl : Cond.methodLink own index yX12_drought ∈ sg_tbl) (hsize : ls.size = nL) (hst : st0 = [.int x1].reverse ++ .ref a0 :: rest) (hW : (rest.map fun v => v.category).sum ≤ 8) (hR : 2 ≤ R.frames ∧ 46 ≤ R.locals) (hf : cells ≤ R.cells ∧ slots ≤ R.slots) (hdg : decode cc pc = .ok (.invokevirtual index, 3)) (kk : ∀ (r : Int32) (t : State) (H1 : Heap) (locs1 : List Loc), t.heap = H1 → (fun r : Int32 => iv 0 1 r) r → (sgDr x1 P.2.2.2.2.2.1 r ∧ (r = 0 ∧ sgB (KT P) D vwCl base tys ad ks t ∨ r = 1 ∧ sgB (KT (P.1, P.2.1, P.2.2.1, P.2.2.2.1, P.2.2.2.2.1, x1.toInt, P.2.2.2.2.2.2)) D vwCl base tys ad ks t)) → va_S (fun q : Nat => base ≤ q) s.heap H1 locs1 → W p l e R s m args below meth c H1 locs1 cells slots Q (F0 m (pc + 3) ls (.int r :: rest))) : W p l e R s m args below meth c H locs cells slots Q (F0 m pc ls st0) :=
  sg_callV2i X hK hG hC hS hb (m_X12_drought l a0 h0 x1) h0 (k := 12) (ci := 12) rfl (C := RX12) (T := TX12) (N := 53) rfl wl_8_84 wl_1_13 wl_8_82 wl_8_83 (n := 1) (by decide +kernel) rfl rfl rfl hl hsize hst hW hR hf hdg kk

set_option maxHeartbeats 8000000 in
set_option maxRecDepth 100000 in
theorem m_X11_law_q (l : Launch) {D : va_G} {base : Nat} {tys : List (ClassId × FieldType)} {ad ks : List Nat} {P : sgPm} (a0 : Nat) (h0 : isK ad ks 11 a0) (x1 : Int32) : Met l yX11_law (Cond.code yX11_law cX11_law 2 (some .boolean) :: sg_tbl) ({ frames := 3, cells := 0, slots := 0, locals := 66 }) (va_Pc [.ref a0, .int x1] (sgB (KT P) D vwCl base tys ad ks)) (va_Qi (fun r (u : Int32) => u = r ∧ (fun r : Int32 => iv 0 1 r) r) (fun u t => sgLa x1 P.2.2.2.2.2.2.1.val u ∧ ∃ b : Bool, sgB (KT (b, P.2)) D vwCl base tys ad ks t) (fun q : Nat => base ≤ q)) 0 0 (fun q : Nat => base ≤ q) := by
  refine sg_ofW (by decide +kernel) (Nat.le_of_ble_eq_true rfl) (fun p e s m below meth c X hr hlk hb hK hC hG ls hl => ?_)
  have hS : va_S (fun q : Nat => base ≤ q) s.heap s.heap [] := va_S.rf
  have hl : lv_has ls 2 [(0, .ref a0), (1, .int x1)] := hl
  refine lv_iload_n X.1 X.2.1 dX11_law_0 rfl (lv_at hl 1 rfl) ?_
  refine lv_iconst (v := (-1)) X.1 X.2.1 dX11_law_1 (by decide +kernel) ?_
  refine lv_icmp_lt (tgt := 13) X.1 X.2.1 dX11_law_2 (by decide) (fun c1 => ?_) (fun c1 => ?_)
  · refine lv_iconst (v := 0) X.1 X.2.1 dX11_law_13 (by decide +kernel) ?_
    exact sg_zret2 X hr (sg_zn (iv_of (iv_c 0 (a := 0) (b := 0) (by decide +kernel)) (a' := 0) (b' := 1) (by decide +kernel))) hlk hS (iv_of (iv_c 0 (a := 0) (b := 0) (by decide +kernel)) (a' := 0) (b' := 1) (by decide +kernel)) (fun t ht hW => ⟨Or.inl ⟨rfl, sg_laA c1⟩, _, sg_post hb hK hC hG hS ht hW⟩) dX11_law_14
  · refine lv_iload_n X.1 X.2.1 dX11_law_5 rfl (lv_at hl 1 rfl) ?_
    refine lv_aload_n X.1 X.2.1 dX11_law_6 rfl (lv_at hl 0 rfl) ?_
    refine gf_X11_12 X hK hG h0 wl_2_207 dX11_law_7 (fun f2 hf2 pf2 kf2 => ?_)
    refine lv_icmp_lt (tgt := 15) X.1 X.2.1 dX11_law_10 (by decide) (fun c3 => ?_) (fun c3 => ?_)
    · refine lv_aload_n X.1 X.2.1 dX11_law_15 rfl (lv_at hl 0 rfl) ?_
      refine lv_iload_n X.1 X.2.1 dX11_law_16 rfl (lv_at hl 1 rfl) ?_
      refine pf_X11_14 X hK hG hS h0 wl_2_209 ⟨_, rfl, (iv_top _)⟩ dX11_law_17 (fun H locs hG hS ku4 ru4 => ?_)
      refine lv_aload_n X.1 X.2.1 dX11_law_20 rfl (lv_at hl 0 rfl) ?_
      refine ca_X11_lookByLaw X hK hG hC hS hb a0 h0 wl_4_59 hl.1 (rest := []) rfl (Nat.le_of_ble_eq_true rfl) ⟨Nat.le_of_ble_eq_true rfl, Nat.le_of_ble_eq_true rfl⟩ ⟨Nat.le_of_ble_eq_true rfl, Nat.le_of_ble_eq_true rfl⟩ dX11_law_21 (fun tg5 H locs htg5 hWg5 hS => ?_)
      obtain ⟨b6, hBg5⟩ := hWg5
      have hG := hBg5.2.2.2
      rw [htg5] at hG
      refine lv_iconst (v := 1) X.1 X.2.1 dX11_law_24 (by decide +kernel) ?_
      exact sg_zret2 X hr (sg_zn (iv_of (iv_c 1 (a := 1) (b := 1) (by decide +kernel)) (a' := 0) (b' := 1) (by decide +kernel))) hlk hS (iv_of (iv_c 1 (a := 1) (b := 1) (by decide +kernel)) (a' := 0) (b' := 1) (by decide +kernel)) (fun t ht hW => ⟨Or.inr ⟨rfl, sg_laN (iv_ge_of c1) c3 pf2⟩, _, sg_post hb hK hC hG hS ht hW⟩) dX11_law_25
    · refine lv_iconst (v := 0) X.1 X.2.1 dX11_law_13 (by decide +kernel) ?_
      exact sg_zret2 X hr (sg_zn (iv_of (iv_c 0 (a := 0) (b := 0) (by decide +kernel)) (a' := 0) (b' := 1) (by decide +kernel))) hlk hS (iv_of (iv_c 0 (a := 0) (b := 0) (by decide +kernel)) (a' := 0) (b' := 1) (by decide +kernel)) (fun t ht hW => ⟨Or.inl ⟨rfl, sg_laB (iv_ge_of c3) pf2⟩, _, sg_post hb hK hC hG hS ht hW⟩) dX11_law_14

theorem ca_X11_law_q   (X : CallFix p m c cc nL s args sg_tbl own) (hK : va_K D vwCl tys s) (hG : sgG (KT P) D vwCl (fun q : Nat => base ≤ q) tys ad ks H) (hC : sgC base s) (hS : va_S (fun q : Nat => base ≤ q) s.heap H locs) (hb : base ≤ s.heap.size) (a0 : Nat) (h0 : isK ad ks 11 a0) (x1 : Int32) (hl : Cond.methodLink own index yX11_law ∈ sg_tbl) (hsize : ls.size = nL) (hst : st0 = [.int x1].reverse ++ .ref a0 :: rest) (hW : (rest.map fun v => v.category).sum ≤ 8) (hR : 4 ≤ R.frames ∧ 87 ≤ R.locals) (hf : cells ≤ R.cells ∧ slots ≤ R.slots) (hdg : decode cc pc = .ok (.invokevirtual index, 3)) (kk : ∀ (r : Int32) (t : State) (H1 : Heap) (locs1 : List Loc), t.heap = H1 → (fun r : Int32 => iv 0 1 r) r → (sgLa x1 P.2.2.2.2.2.2.1.val r ∧ ∃ b : Bool, sgB (KT (b, P.2)) D vwCl base tys ad ks t) → va_S (fun q : Nat => base ≤ q) s.heap H1 locs1 → W p l e R s m args below meth c H1 locs1 cells slots Q (F0 m (pc + 3) ls (.int r :: rest))) : W p l e R s m args below meth c H locs cells slots Q (F0 m pc ls st0) :=
  sg_callV2i X hK hG hC hS hb (m_X11_law_q l a0 h0 x1) h0 (k := 11) (ci := 11) rfl (C := RX11) (T := TX11) (N := 17) rfl wl_4_81 wl_1_1 wl_4_79 wl_4_80 (n := 1) (by decide +kernel) rfl rfl rfl hl hsize hst hW hR hf hdg kk

set_option maxHeartbeats 8000000 in
set_option maxRecDepth 100000 in
theorem m_X12_law_q (l : Launch) {D : va_G} {base : Nat} {tys : List (ClassId × FieldType)} {ad ks : List Nat} {P : sgPm} (a0 : Nat) (h0 : isK ad ks 12 a0) (x1 : Int32) : Met l yX12_law (Cond.code yX12_law cX12_law 2 (some .boolean) :: sg_tbl) ({ frames := 1, cells := 0, slots := 0, locals := 25 }) (va_Pc [.ref a0, .int x1] (sgB (KT P) D vwCl base tys ad ks)) (va_Qi (fun r (u : Int32) => u = r ∧ (fun r : Int32 => iv 0 1 r) r) (fun u t => sgLa x1 P.2.2.2.2.2.2.2.2.1.val u ∧ sgB (KT P) D vwCl base tys ad ks t) (fun q : Nat => base ≤ q)) 0 0 (fun q : Nat => base ≤ q) := by
  refine sg_ofW (by decide +kernel) (Nat.le_of_ble_eq_true rfl) (fun p e s m below meth c X hr hlk hb hK hC hG ls hl => ?_)
  have hS : va_S (fun q : Nat => base ≤ q) s.heap s.heap [] := va_S.rf
  have hl : lv_has ls 2 [(0, .ref a0), (1, .int x1)] := hl
  refine lv_aload_n X.1 X.2.1 dX12_law_0 rfl (lv_at hl 0 rfl) ?_
  refine lv_iconst (v := 0) X.1 X.2.1 dX12_law_1 (by decide +kernel) ?_
  refine pf_X12_0 X hK hG hS h0 wl_6_178 ⟨_, rfl, (iv_top _)⟩ dX12_law_2 (fun H locs hG hS ku1 ru1 => ?_)
  refine lv_iload_n X.1 X.2.1 dX12_law_5 rfl (lv_at hl 1 rfl) ?_
  refine lv_iconst (v := (-1)) X.1 X.2.1 dX12_law_6 (by decide +kernel) ?_
  refine lv_icmp_eq (tgt := 28) X.1 X.2.1 dX12_law_7 (by decide) (fun c2 => ?_) (fun c2 => ?_)
  · refine lv_aload_n X.1 X.2.1 dX12_law_28 rfl (lv_at hl 0 rfl) ?_
    refine lv_iload_n X.1 X.2.1 dX12_law_29 rfl (lv_at hl 1 rfl) ?_
    have hx30 : iv (-1) 3 x1 := sg_la3 (n := (0 : Fin 5)) (sg_laE c2)
    refine pf_X12_34 X hK hG hS h0 wl_6_212 ⟨_, rfl, hx30⟩ dX12_law_30 (fun H locs hG hS ku3 ru3 => ?_)
    refine lv_iconst (v := 1) X.1 X.2.1 dX12_law_33 (by decide +kernel) ?_
    exact sg_zret2 X hr (sg_zn (iv_of (iv_c 1 (a := 1) (b := 1) (by decide +kernel)) (a' := 0) (b' := 1) (by decide +kernel))) hlk hS (iv_of (iv_c 1 (a := 1) (b := 1) (by decide +kernel)) (a' := 0) (b' := 1) (by decide +kernel)) (fun t ht hW => ⟨Or.inr ⟨rfl, sg_laE c2⟩, sg_post hb hK hC hG hS ht hW⟩) dX12_law_34
  · refine lv_iload_n X.1 X.2.1 dX12_law_10 rfl (lv_at hl 1 rfl) ?_
    obtain ⟨g4, eg4⟩ : ∃ y : Int64, y = (x1 : Int32).toInt64 := ⟨_, rfl⟩
    refine lv_i2l (v := g4) X.1 X.2.1 dX12_law_11 eg4.symm ?_
    refine lv_lconst (v := 0) X.1 X.2.1 dX12_law_12 (by decide +kernel) ?_
    refine lv_aload_n X.1 X.2.1 dX12_law_13 rfl (lv_at hl 0 rfl) ?_
    refine gf_X12_7 X hK hG h0 wl_6_185 dX12_law_14 (fun f5 hf5 pf5 kf5 => ?_)
    refine lv_iconst (v := 1) X.1 X.2.1 dX12_law_17 (by decide +kernel) ?_
    refine lv_isub X.1 X.2.1 dX12_law_18 ?_
    refine lv_topi (fun f6 ef6 => ?_)
    obtain ⟨g7, eg7⟩ : ∃ y : Int64, y = (f6 : Int32).toInt64 := ⟨_, rfl⟩
    refine lv_i2l (v := g7) X.1 X.2.1 dX12_law_19 eg7.symm ?_
    refine ca_X12_isIn_2 X hK hG hC (fun _ h => h) hS hb g4 0 g7 wl_7_119 hl.1 (rest := []) rfl (Nat.le_of_ble_eq_true rfl) ⟨Nat.le_of_ble_eq_true rfl, Nat.le_of_ble_eq_true rfl⟩ ⟨Nat.le_of_ble_eq_true rfl, Nat.le_of_ble_eq_true rfl⟩ dX12_law_20 (fun f8 locs hf8 hS => ?_)
    refine lv_if_ne (tgt := 28) X.1 X.2.1 dX12_law_23 (by decide) (fun c9 => ?_) (fun c9 => ?_)
    · refine lv_aload_n X.1 X.2.1 dX12_law_28 rfl (lv_at hl 0 rfl) ?_
      refine lv_iload_n X.1 X.2.1 dX12_law_29 rfl (lv_at hl 1 rfl) ?_
      have hx30 : iv (-1) 3 x1 := sg_la3 (n := P.2.2.2.2.2.2.2.2.1) (sg_laI hf8.2 eg4 (by decide +kernel) (sg_laM eg7 ef6 pf5) c9)
      refine pf_X12_34 X hK hG hS h0 wl_6_212 ⟨_, rfl, hx30⟩ dX12_law_30 (fun H locs hG hS ku10 ru10 => ?_)
      refine lv_iconst (v := 1) X.1 X.2.1 dX12_law_33 (by decide +kernel) ?_
      exact sg_zret2 X hr (sg_zn (iv_of (iv_c 1 (a := 1) (b := 1) (by decide +kernel)) (a' := 0) (b' := 1) (by decide +kernel))) hlk hS (iv_of (iv_c 1 (a := 1) (b := 1) (by decide +kernel)) (a' := 0) (b' := 1) (by decide +kernel)) (fun t ht hW => ⟨Or.inr ⟨rfl, sg_laI hf8.2 eg4 (by decide +kernel) (sg_laM eg7 ef6 pf5) c9⟩, sg_post hb hK hC hG hS ht hW⟩) dX12_law_34
    · refine lv_iconst (v := 0) X.1 X.2.1 dX12_law_26 (by decide +kernel) ?_
      exact sg_zret2 X hr (sg_zn (iv_of (iv_c 0 (a := 0) (b := 0) (by decide +kernel)) (a' := 0) (b' := 1) (by decide +kernel))) hlk hS (iv_of (iv_c 0 (a := 0) (b := 0) (by decide +kernel)) (a' := 0) (b' := 1) (by decide +kernel)) (fun t ht hW => ⟨Or.inl ⟨rfl, sg_laO hf8.2 eg4 (by decide +kernel) (sg_laM eg7 ef6 pf5) c9 c2⟩, sg_post hb hK hC hG hS ht hW⟩) dX12_law_27

theorem ca_X12_law_q   (X : CallFix p m c cc nL s args sg_tbl own) (hK : va_K D vwCl tys s) (hG : sgG (KT P) D vwCl (fun q : Nat => base ≤ q) tys ad ks H) (hC : sgC base s) (hS : va_S (fun q : Nat => base ≤ q) s.heap H locs) (hb : base ≤ s.heap.size) (a0 : Nat) (h0 : isK ad ks 12 a0) (x1 : Int32) (hl : Cond.methodLink own index yX12_law ∈ sg_tbl) (hsize : ls.size = nL) (hst : st0 = [.int x1].reverse ++ .ref a0 :: rest) (hW : (rest.map fun v => v.category).sum ≤ 8) (hR : 2 ≤ R.frames ∧ 46 ≤ R.locals) (hf : cells ≤ R.cells ∧ slots ≤ R.slots) (hdg : decode cc pc = .ok (.invokevirtual index, 3)) (kk : ∀ (r : Int32) (t : State) (H1 : Heap) (locs1 : List Loc), t.heap = H1 → (fun r : Int32 => iv 0 1 r) r → (sgLa x1 P.2.2.2.2.2.2.2.2.1.val r ∧ sgB (KT P) D vwCl base tys ad ks t) → va_S (fun q : Nat => base ≤ q) s.heap H1 locs1 → W p l e R s m args below meth c H1 locs1 cells slots Q (F0 m (pc + 3) ls (.int r :: rest))) : W p l e R s m args below meth c H locs cells slots Q (F0 m pc ls st0) :=
  sg_callV2i X hK hG hC hS hb (m_X12_law_q l a0 h0 x1) h0 (k := 12) (ci := 12) rfl (C := RX12) (T := TX12) (N := 53) rfl wl_8_80 wl_1_13 wl_8_78 wl_8_79 (n := 1) (by decide +kernel) rfl rfl rfl hl hsize hst hW hR hf hdg kk
end
