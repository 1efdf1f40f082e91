abbrev cX12_put : ByteArray := prog_14_method_7_code
def yX12_put : MethodName := ⟨RX12, "put", "(I)V"⟩
theorem dX12_put_0 : decode cX12_put 0 = .ok (.bipush 24, 2) := by decide +kernel
theorem dX12_put_2 : decode cX12_put 2 = .ok (.istore_n 2, 1) := by decide +kernel
theorem dX12_put_3 : decode cX12_put 3 = .ok (.iload_n 2, 1) := by decide +kernel
theorem dX12_put_4 : decode cX12_put 4 = .ok (.ifCond .lt 45, 3) := by decide +kernel
theorem dX12_put_7 : decode cX12_put 7 = .ok (.iload_n 1, 1) := by decide +kernel
theorem dX12_put_8 : decode cX12_put 8 = .ok (.iload_n 2, 1) := by decide +kernel
theorem dX12_put_9 : decode cX12_put 9 = .ok (.ishr, 1) := by decide +kernel
theorem dX12_put_10 : decode cX12_put 10 = .ok (.sipush 255, 3) := by decide +kernel
theorem dX12_put_13 : decode cX12_put 13 = .ok (.iand, 1) := by decide +kernel
theorem dX12_put_14 : decode cX12_put 14 = .ok (.ifCond .ne 6, 3) := by decide +kernel
theorem dX12_put_17 : decode cX12_put 17 = .ok (.goto 26, 3) := by decide +kernel
theorem dX12_put_20 : decode cX12_put 20 = .ok (.aload_n 0, 1) := by decide +kernel
theorem dX12_put_21 : decode cX12_put 21 = .ok (.getfield 9, 3) := by decide +kernel
theorem dX12_put_24 : decode cX12_put 24 = .ok (.aload_n 0, 1) := by decide +kernel
theorem dX12_put_25 : decode cX12_put 25 = .ok (.getfield 107, 3) := by decide +kernel
theorem dX12_put_28 : decode cX12_put 28 = .ok (.iload_n 1, 1) := by decide +kernel
theorem dX12_put_29 : decode cX12_put 29 = .ok (.iload_n 2, 1) := by decide +kernel
theorem dX12_put_30 : decode cX12_put 30 = .ok (.ishr, 1) := by decide +kernel
theorem dX12_put_31 : decode cX12_put 31 = .ok (.i2b, 1) := by decide +kernel
theorem dX12_put_32 : decode cX12_put 32 = .ok (.bastore, 1) := by decide +kernel
theorem dX12_put_33 : decode cX12_put 33 = .ok (.aload_n 0, 1) := by decide +kernel
theorem dX12_put_34 : decode cX12_put 34 = .ok (.dup, 1) := by decide +kernel
theorem dX12_put_35 : decode cX12_put 35 = .ok (.getfield 107, 3) := by decide +kernel
theorem dX12_put_38 : decode cX12_put 38 = .ok (.iconst 1, 1) := by decide +kernel
theorem dX12_put_39 : decode cX12_put 39 = .ok (.iadd, 1) := by decide +kernel
theorem dX12_put_40 : decode cX12_put 40 = .ok (.putfield 107, 3) := by decide +kernel
theorem dX12_put_43 : decode cX12_put 43 = .ok (.iinc 2 (-8), 3) := by decide +kernel
theorem dX12_put_46 : decode cX12_put 46 = .ok (.goto (-43), 3) := by decide +kernel
theorem dX12_put_49 : decode cX12_put 49 = .ok (.return_, 1) := by decide +kernel
theorem wl_7_109 : (.code yX12_put cX12_put 3 none : Cond) ∈ sg_tbl := tb_7 _ (List.mem_of_getElem? (i := 109) (by decide +kernel)) (by decide +kernel)
theorem wl_7_108 : (.instanceMethod yX12_put : Cond) ∈ sg_tbl := tb_7 _ (List.mem_of_getElem? (i := 108) (by decide +kernel)) (by decide +kernel)
theorem wl_0_48 : (.selects RX12 yX12_put yX12_put : Cond) ∈ sg_tbl := tb_0 _ (List.mem_of_getElem? (i := 48) (by decide +kernel)) (by decide +kernel)
section
variable {p : Program} {l : Launch} {e : Env} {R : Room} {s : State} {m : MethodId} {args : Array Value} {below : List Frame} {meth : Method} {c : Code} {H : Heap} {locs : List Loc} {cells slots : Nat} {Q : State → Prop} {cc : ByteArray} {nL pc : Nat} {ls : Array Slot} {rest : List Value} {own : String} {D : va_G} {A : Nat → Prop} {tys : List (ClassId × FieldType)} {ad ks : List Nat} {P : sgPm} {H0 : Heap} {index : Nat} {base : Nat} {st0 : List Value} {a : Nat}
theorem gf_X12_1v  {u : Int} (X : CallFix p m c cc nL s args sg_tbl own) (hK : va_K D vwCl tys s) (hG : sgG (KV u P) D vwCl A tys ad ks H) (ha : isK ad ks 12 a) (hl : Cond.fieldLink own index "LawnAheadModel" "tape" "[B" ∈ sg_tbl) (hdg : decode cc pc = .ok (.getfield index, 3)) (kk : ∀ x : Nat, isK ad ks 45 x → fld D H 12 a 1 (.ref x) → W p l e R s m args below meth c H locs cells slots Q (F0 m (pc + 3) ls (.ref x :: rest))) : W p l e R s m args below meth c H locs cells slots Q (F0 m pc ls (.ref a :: rest)) :=
  sg_get X hK hG ha (k := 12) (ci := 12) rfl (C := RX12) (T := TX12) (N := 53) rfl inL_X12 1 (by decide) rfl hl (fun _ h => h) hdg (fun v hv hf => by
    obtain ⟨h1, -⟩ | ⟨x, rfl, hx⟩ := hv
    · cases h1
    · exact kk x hx hf)
theorem gf_X12_6v {u : Int} (X : CallFix p m c cc nL s args sg_tbl own) (hK : va_K D vwCl tys s) (hG : sgG (KV u P) D vwCl A tys ad ks H) (ha : isK ad ks 12 a) (hl : Cond.fieldLink own index "LawnAheadModel" "length" "I" ∈ sg_tbl) (hdg : decode cc pc = .ok (.getfield index, 3)) (kk : ∀ x : Int32, iv 0 u x → fld D H 12 a 6 (.int x) → W p l e R s m args below meth c H locs cells slots Q (F0 m (pc + 3) ls (.int x :: rest))) : W p l e R s m args below meth c H locs cells slots Q (F0 m pc ls (.ref a :: rest)) :=
  sg_get X hK hG ha (k := 12) (ci := 12) rfl (C := RX12) (T := TX12) (N := 53) rfl inL_X12 6 (by decide) rfl hl (fun _ h => h) hdg (fun v hv hf => by obtain ⟨x, rfl, hx⟩ := hv; exact kk x hx hf)
theorem gg_X12_6v  {u : Int} (X : CallFix p m c cc nL s args sg_tbl own) (hK : va_K D vwCl tys s) (hG : sgG (KV u P) D vwCl A tys ad ks H) (ha : isK ad ks 12 a) (hl : Cond.fieldLink own index "LawnAheadModel" "length" "I" ∈ sg_tbl) {v : Value} (hf : fld D H 12 a 6 v) (hdg : decode cc pc = .ok (.getfield index, 3)) (kk : W p l e R s m args below meth c H locs cells slots Q (F0 m (pc + 3) ls (v :: rest))) : W p l e R s m args below meth c H locs cells slots Q (F0 m pc ls (.ref a :: rest)) :=
  sg_getf X hK hG ha (k := 12) (ci := 12) rfl (C := RX12) (T := TX12) (N := 53) rfl inL_X12 6 (by decide) (show 6 < 53 by decide) hl (fun _ h => h) hf hdg kk
theorem pf_X12_6V {u u2 : Int} {x : Int32} (X : CallFix p m c cc nL s args sg_tbl own) (hK : va_K D vwCl tys s) (hG : sgG (KV u P) D vwCl A tys ad ks H) (hS : va_S A H0 H locs) (ha : isK ad ks 12 a) (hl : Cond.fieldLink own index "LawnAheadModel" "length" "I" ∈ sg_tbl) (hv : okV ad ks (.inl (0, u2)) (.int x)) (hdg : decode cc pc = .ok (.putfield index, 3)) (kk : ∀ (H1 : Heap) (locs1 : List Loc), sgG (KV u2 P) D vwCl A tys ad ks H1 → va_S A H0 H1 locs1 → W p l e R s m args below meth c H1 locs1 cells slots Q (F0 m (pc + 3) ls rest)) : W p l e R s m args below meth c H locs cells slots Q (F0 m pc ls (.int x :: .ref a :: rest)) :=
  sg_put1 (kt' := KV u2 P) X hK hG hS ha (k := 12) (by decide) (ci := 12) (fts := [.inl ((-2147483648), 2147483647), .inr (.inl (false, 45)), .inr (.inl (false, 46)), .inr (.inl (false, 47)), .inr (.inl (false, 48)), .inr (.inr true), .inl (0, u), .inl ((P.2.2.2.2.2.2.2.2.1.val : Int), (P.2.2.2.2.2.2.2.2.1.val : Int)), .inl ((-2147483648), 2147483647), .inl (0, 240), .inl ((-2147483648), 2147483647), .inl ((-1), 241), .inl (0, 6), .inl ((-2147483648), 2147483647), .inl ((-2147483648), 2147483647), .inr (.inr true), .inr (.inr true), .inl (0, 1), .inr (.inl (false, 49)), .inr (.inl (false, 50)), .inr (.inl (false, 51)), .inr (.inl (false, 52)), .inr (.inl (false, 53)), .inl (sgC1 P, sgC1 P), .inl ((-2147483648), 2147483647), .inl ((-2147483648), 2147483647), .inl ((-2147483648), 2147483647), .inl ((-2147483648), 2147483647), .inl ((-2147483648), 2147483647), .inl ((P.2.2.2.2.2.2.2.2.2.1.val : Int), (P.2.2.2.2.2.2.2.2.2.1.val : Int)), .inl (0, 1), .inl (0, 1), .inr (.inl (false, 54)), .inr (.inl (false, 55)), .inl ((-1), 3), .inl (P.2.2.2.2.2.1, P.2.2.2.2.2.1), .inr (.inl (false, 56)), .inr (.inl (false, 57)), .inr (.inl (false, 58)), .inl (0, 40), .inr (.inr false), .inr (.inl (false, 59)), .inl ((-2147483648), 2147483647), .inl ((-2147483648), 2147483647), .inr (.inl (false, 60)), .inr (.inl (false, 61)), .inr (.inl (false, 62)), .inl (0, 12), .inr (.inl (false, 63)), .inr (.inl (false, 64)), .inl (0, 12), .inr (.inl (false, 65)), .inl (0, 1)]) (fts' := [.inl ((-2147483648), 2147483647), .inr (.inl (false, 45)), .inr (.inl (false, 46)), .inr (.inl (false, 47)), .inr (.inl (false, 48)), .inr (.inr true), .inl (0, u2), .inl ((P.2.2.2.2.2.2.2.2.1.val : Int), (P.2.2.2.2.2.2.2.2.1.val : Int)), .inl ((-2147483648), 2147483647), .inl (0, 240), .inl ((-2147483648), 2147483647), .inl ((-1), 241), .inl (0, 6), .inl ((-2147483648), 2147483647), .inl ((-2147483648), 2147483647), .inr (.inr true), .inr (.inr true), .inl (0, 1), .inr (.inl (false, 49)), .inr (.inl (false, 50)), .inr (.inl (false, 51)), .inr (.inl (false, 52)), .inr (.inl (false, 53)), .inl (sgC1 P, sgC1 P), .inl ((-2147483648), 2147483647), .inl ((-2147483648), 2147483647), .inl ((-2147483648), 2147483647), .inl ((-2147483648), 2147483647), .inl ((-2147483648), 2147483647), .inl ((P.2.2.2.2.2.2.2.2.2.1.val : Int), (P.2.2.2.2.2.2.2.2.2.1.val : Int)), .inl (0, 1), .inl (0, 1), .inr (.inl (false, 54)), .inr (.inl (false, 55)), .inl ((-1), 3), .inl (P.2.2.2.2.2.1, P.2.2.2.2.2.1), .inr (.inl (false, 56)), .inr (.inl (false, 57)), .inr (.inl (false, 58)), .inl (0, 40), .inr (.inr false), .inr (.inl (false, 59)), .inl ((-2147483648), 2147483647), .inl ((-2147483648), 2147483647), .inr (.inl (false, 60)), .inr (.inl (false, 61)), .inr (.inl (false, 62)), .inl (0, 12), .inr (.inl (false, 63)), .inr (.inl (false, 64)), .inl (0, 12), .inr (.inl (false, 65)), .inl (0, 1)]) rfl rfl (C := RX12) (T := TX12) (N := 53) rfl inL_X12 tyX12 tyX12_ok nmX12 6 (by decide) rfl (t' := .inl (0, u2)) rfl (fun i hi => by match i, hi with
    | 0, hi => rfl
    | 1, hi => rfl
    | 2, hi => rfl
    | 3, hi => rfl
    | 4, hi => rfl
    | 5, hi => rfl
    | 6, hi => exact absurd rfl hi
    | 7, hi => rfl
    | 8, hi => rfl
    | 9, hi => rfl
    | 10, hi => rfl
    | 11, hi => rfl
    | 12, hi => rfl
    | 13, hi => rfl
    | 14, hi => rfl
    | 15, hi => rfl
    | 16, hi => rfl
    | 17, hi => rfl
    | 18, hi => rfl
    | 19, hi => rfl
    | 20, hi => rfl
    | 21, hi => rfl
    | 22, hi => rfl
    | 23, hi => rfl
    | 24, hi => rfl
    | 25, hi => rfl
    | 26, hi => rfl
    | 27, hi => rfl
    | 28, hi => rfl
    | 29, hi => rfl
    | 30, hi => rfl
    | 31, hi => rfl
    | 32, hi => rfl
    | 33, hi => rfl
    | 34, hi => rfl
    | 35, hi => rfl
    | 36, hi => rfl
    | 37, hi => rfl
    | 38, hi => rfl
    | 39, hi => rfl
    | 40, hi => rfl
    | 41, hi => rfl
    | 42, hi => rfl
    | 43, hi => rfl
    | 44, hi => rfl
    | 45, hi => rfl
    | 46, hi => rfl
    | 47, hi => rfl
    | 48, hi => rfl
    | 49, hi => rfl
    | 50, hi => rfl
    | 51, hi => rfl
    | 52, hi => rfl
    | i + 53, hi => rfl) (fun i hi => by match i, hi with
    | 0, hi => rfl
    | 1, hi => rfl
    | 2, hi => rfl
    | 3, hi => rfl
    | 4, hi => rfl
    | 5, hi => rfl
    | 6, hi => rfl
    | 7, hi => rfl
    | 8, hi => rfl
    | 9, hi => rfl
    | 10, hi => rfl
    | 11, hi => rfl
    | 12, hi => exact absurd rfl hi
    | 13, hi => rfl
    | 14, hi => rfl
    | 15, hi => rfl
    | 16, hi => rfl
    | 17, hi => rfl
    | 18, hi => rfl
    | 19, hi => rfl
    | 20, hi => rfl
    | 21, hi => rfl
    | 22, hi => rfl
    | 23, hi => rfl
    | 24, hi => rfl
    | 25, hi => rfl
    | 26, hi => rfl
    | 27, hi => rfl
    | 28, hi => rfl
    | 29, hi => rfl
    | 30, hi => rfl
    | 31, hi => rfl
    | 32, hi => rfl
    | 33, hi => rfl
    | 34, hi => rfl
    | 35, hi => rfl
    | 36, hi => rfl
    | 37, hi => rfl
    | 38, hi => rfl
    | 39, hi => rfl
    | 40, hi => rfl
    | 41, hi => rfl
    | 42, hi => rfl
    | 43, hi => rfl
    | 44, hi => rfl
    | 45, hi => rfl
    | 46, hi => rfl
    | 47, hi => rfl
    | 48, hi => rfl
    | 49, hi => rfl
    | 50, hi => rfl
    | 51, hi => rfl
    | 52, hi => rfl
    | 53, hi => rfl
    | 54, hi => rfl
    | 55, hi => rfl
    | 56, hi => rfl
    | 57, hi => rfl
    | 58, hi => rfl
    | 59, hi => rfl
    | 60, hi => rfl
    | 61, hi => rfl
    | 62, hi => rfl
    | 63, hi => rfl
    | 64, hi => rfl
    | 65, hi => rfl
    | 66, hi => rfl
    | i + 67, hi => rfl) hl (fun _ h => h) rfl (ty := .int) rfl rfl rfl hv hdg kk
theorem as_45v  {i : Int32} {x : Int32} {u : Int} (X : CallFix p m c cc nL s args sg_tbl own) (hK : va_K D vwCl tys s) (hG : sgG (KV u P) D vwCl A tys ad ks H) (hS : va_S A H0 H locs) (ha : isK ad ks 45 a) (hin : vp_in i 240) (hv : okV ad ks (.inl ((-2147483648), 2147483647)) (.int (vp_nar .byte x))) (hdg : decode cc pc = .ok (.bastore, 1)) (kk : ∀ (H1 : Heap) (locs1 : List Loc), sgG (KV u P) D vwCl A tys ad ks H1 → va_S A H0 H1 locs1 → sgFr (KV u P) D vwCl ad ks H H1 (fun _ _ => False) → W p l e R s m args below meth c H1 locs1 cells slots Q (F0 m (pc + 1) ls rest)) : W p l e R s m args below meth c H locs cells slots Q (F0 m pc ls (.int x :: .int i :: .ref a :: rest)) :=
  sg_bast X hK hG hS ha (k := 45) rfl hin hv hdg kk
set_option maxHeartbeats 8000000 in
set_option maxRecDepth 100000 in
theorem m_X12_put (l : Launch) {D : va_G} {base : Nat} {tys : List (ClassId × FieldType)} {ad ks : List Nat} {P : sgPm}{u : Int}  (a0 : Nat) (h0 : isK ad ks 12 a0) (x1 : Int32) (hu : 0 ≤ u ∧ u + sg_nb x1 ≤ 240) : Met l yX12_put (Cond.code yX12_put cX12_put 3 none :: sg_tbl) ({ frames := 0, cells := 0, slots := 0, locals := 0 }) (va_Pc [.ref a0, .int x1] (sgB (KV u P) D vwCl base tys ad ks)) (va_Qv (fun (_ : Unit) => True) (fun _ => sgB (KV (u + sg_nb x1) P) D vwCl base tys ad ks) (fun q : Nat => base ≤ q)) 0 0 (fun q : Nat => base ≤ q) := by
  refine sg_ofW (by decide +kernel) (Nat.le_of_ble_eq_true rfl) (fun p e s m below meth c X hr hlk hb hK hC hG ls hl => ?_)
  have hS : va_S (fun q : Nat => base ≤ q) s.heap s.heap [] := va_S.rf
  have hl : lv_has ls 3 [(0, .ref a0), (1, .int x1)] := hl
  refine lv_bipush (v := 24) X.1 X.2.1 dX12_put_0 (by decide +kernel) ?_
  refine lv_istore_n (lv' := [(2, .int 24), (0, .ref a0), (1, .int x1)]) X.1 X.2.1 dX12_put_2 rfl hl (by decide) rfl (fun ls hl => ?_)
  refine lv_iload_n X.1 X.2.1 dX12_put_3 rfl (lv_at hl 0 rfl) ?_
  refine lv_if_lt (tgt := 49) X.1 X.2.1 dX12_put_4 (by decide) (fun c1 => ?_) (fun c1 => ?_)
  · exact ((iv_no (iv_lt (b' := (-1)) c1 (iv_c 24 (a := 24) (b := 24) (by decide +kernel)) (iv_c 0 (a := 0) (b := 0) (by decide +kernel)) (by decide +kernel)) (by decide +kernel))).elim
  · refine lv_iload_n X.1 X.2.1 dX12_put_7 rfl (lv_at hl 2 rfl) ?_
    refine lv_iload_n X.1 X.2.1 dX12_put_8 rfl (lv_at hl 0 rfl) ?_
    refine lv_ishr X.1 X.2.1 dX12_put_9 ?_
    refine lv_topi (fun f2 ef2 => ?_)
    refine lv_sipush (v := 255) X.1 X.2.1 dX12_put_10 (by decide +kernel) ?_
    refine lv_iand X.1 X.2.1 dX12_put_13 ?_
    refine lv_topi (fun f3 ef3 => ?_)
    refine lv_if_ne (tgt := 20) X.1 X.2.1 dX12_put_14 (by decide) (fun c4 => ?_) (fun c4 => ?_)
    · refine lv_aload_n X.1 X.2.1 dX12_put_20 rfl (lv_at hl 1 rfl) ?_
      refine gf_X12_1v X hK hG h0 wl_6_179 dX12_put_21 (fun q5 hq5 kq5 => ?_)
      refine lv_aload_n X.1 X.2.1 dX12_put_24 rfl (lv_at hl 1 rfl) ?_
      refine gf_X12_6v X hK hG h0 wl_6_184 dX12_put_25 (fun f6 hf6 kf6 => ?_)
      have ⟨laf6, uaf6⟩ : 0 ≤ f6.toInt ∧ f6.toInt ≤ u := hf6
      have nb24 := sg_nbq ef2 ef3 (sg_kc (24) (iv_c 24 (a := 24) (b := 24) (by decide +kernel)) (by decide +kernel)) c4
      have nl24 := sg_nb1_le x1 24
      have nl16 := sg_nb1_le x1 16
      have nl8 := sg_nb1_le x1 8
      have nl0 := sg_nb1_le x1 0
      have hnb : sg_nb x1 = sg_nb1 x1 24 + sg_nb1 x1 16 + sg_nb1 x1 8 + sg_nb1 x1 0 := rfl
      have hf6 : iv 0 239 f6 := ⟨by omega, by omega⟩
      refine lv_iload_n X.1 X.2.1 dX12_put_28 rfl (lv_at hl 2 rfl) ?_
      refine lv_iload_n X.1 X.2.1 dX12_put_29 rfl (lv_at hl 0 rfl) ?_
      refine lv_ishr X.1 X.2.1 dX12_put_30 ?_
      refine lv_topi (fun f7 ef7 => ?_)
      obtain ⟨f8, ef8⟩ : ∃ y : Int32, y = (f7 : Int32).toInt8.toInt32 := ⟨_, rfl⟩
      refine lv_i2b (v := f8) X.1 X.2.1 dX12_put_31 ef8.symm ?_
      refine as_45v X hK hG hS hq5 (iv_vpin hf6 (by decide +kernel)) ⟨_, rfl, (iv_top _)⟩ dX12_put_32 (fun H locs hG hS ru9 => ?_)
      refine lv_aload_n X.1 X.2.1 dX12_put_33 rfl (lv_at hl 1 rfl) ?_
      refine lv_dup X.1 X.2.1 dX12_put_34 rfl ?_
      refine gg_X12_6v X hK hG h0 wl_6_184 (ru9 _ _ _ _ _ _ _ h0 rfl rfl (by decide) (fun z => z.elim) kf6) dX12_put_35 ?_
      refine lv_iconst (v := 1) X.1 X.2.1 dX12_put_38 (by decide +kernel) ?_
      refine lv_iadd X.1 X.2.1 dX12_put_39 ?_
      refine lv_topi (fun f10 ef10 => ?_)
      have sf10 : f10.toInt = f6.toInt + 1 := sg_inc (k := 1) ef10 hf6 (by decide +kernel)
      refine pf_X12_6V (u2 := (u + 1)) X hK hG hS h0 wl_6_184 ⟨_, rfl, by omega, by omega⟩ dX12_put_40 (fun H locs hG hS => ?_)
      obtain ⟨y11, ey11⟩ : ∃ y : Int32, y = 24 + Int32.ofInt (-8) := ⟨_, rfl⟩
      refine lv_iinc (v := y11) (lv' := [(2, .int y11), (0, .ref a0), (1, .int x1)]) X.1 X.2.1 dX12_put_43 hl (k := 0) rfl ey11.symm (by decide) rfl (fun ls hl => ?_)
      refine lv_goto (tgt := 3) X.1 X.2.1 dX12_put_46 (by decide) ?_
      refine lv_iload_n X.1 X.2.1 dX12_put_3 rfl (lv_at hl 0 rfl) ?_
      refine lv_if_lt (tgt := 49) X.1 X.2.1 dX12_put_4 (by decide) (fun c12 => ?_) (fun c12 => ?_)
      · exact ((iv_no (iv_lt (b' := (-1)) c12 (iv_add (a' := 16) (b' := 16) ey11 (iv_c 24 (a := 24) (b := 24) (by decide +kernel)) (iv_c _ (a := (-8)) (b := (-8)) (by decide +kernel)) (by decide +kernel)) (iv_c 0 (a := 0) (b := 0) (by decide +kernel)) (by decide +kernel)) (by decide +kernel))).elim
      · refine lv_iload_n X.1 X.2.1 dX12_put_7 rfl (lv_at hl 2 rfl) ?_
        refine lv_iload_n X.1 X.2.1 dX12_put_8 rfl (lv_at hl 0 rfl) ?_
        refine lv_ishr X.1 X.2.1 dX12_put_9 ?_
        refine lv_topi (fun f13 ef13 => ?_)
        refine lv_sipush (v := 255) X.1 X.2.1 dX12_put_10 (by decide +kernel) ?_
        refine lv_iand X.1 X.2.1 dX12_put_13 ?_
        refine lv_topi (fun f14 ef14 => ?_)
        refine lv_if_ne (tgt := 20) X.1 X.2.1 dX12_put_14 (by decide) (fun c15 => ?_) (fun c15 => ?_)
        · refine lv_aload_n X.1 X.2.1 dX12_put_20 rfl (lv_at hl 1 rfl) ?_
          refine gf_X12_1v X hK hG h0 wl_6_179 dX12_put_21 (fun q16 hq16 kq16 => ?_)
          refine lv_aload_n X.1 X.2.1 dX12_put_24 rfl (lv_at hl 1 rfl) ?_
          refine gf_X12_6v X hK hG h0 wl_6_184 dX12_put_25 (fun f17 hf17 kf17 => ?_)
          have ⟨laf17, uaf17⟩ : 0 ≤ f17.toInt ∧ f17.toInt ≤ (u + 1) := hf17
          have nb24 := sg_nbq ef2 ef3 (sg_kc (24) (iv_c 24 (a := 24) (b := 24) (by decide +kernel)) (by decide +kernel)) c4
          have nb16 := sg_nbq ef13 ef14 (sg_kc (16) (iv_add (a' := 16) (b' := 16) ey11 (iv_c 24 (a := 24) (b := 24) (by decide +kernel)) (iv_c _ (a := (-8)) (b := (-8)) (by decide +kernel)) (by decide +kernel)) (by decide +kernel)) c15
          have nl24 := sg_nb1_le x1 24
          have nl16 := sg_nb1_le x1 16
          have nl8 := sg_nb1_le x1 8
          have nl0 := sg_nb1_le x1 0
          have hnb : sg_nb x1 = sg_nb1 x1 24 + sg_nb1 x1 16 + sg_nb1 x1 8 + sg_nb1 x1 0 := rfl
          have hf17 : iv 0 239 f17 := ⟨by omega, by omega⟩
          refine lv_iload_n X.1 X.2.1 dX12_put_28 rfl (lv_at hl 2 rfl) ?_
          refine lv_iload_n X.1 X.2.1 dX12_put_29 rfl (lv_at hl 0 rfl) ?_
          refine lv_ishr X.1 X.2.1 dX12_put_30 ?_
          refine lv_topi (fun f18 ef18 => ?_)
          obtain ⟨f19, ef19⟩ : ∃ y : Int32, y = (f18 : Int32).toInt8.toInt32 := ⟨_, rfl⟩
          refine lv_i2b (v := f19) X.1 X.2.1 dX12_put_31 ef19.symm ?_
          refine as_45v X hK hG hS hq16 (iv_vpin hf17 (by decide +kernel)) ⟨_, rfl, (iv_top _)⟩ dX12_put_32 (fun H locs hG hS ru20 => ?_)
          refine lv_aload_n X.1 X.2.1 dX12_put_33 rfl (lv_at hl 1 rfl) ?_
          refine lv_dup X.1 X.2.1 dX12_put_34 rfl ?_
          refine gg_X12_6v X hK hG h0 wl_6_184 (ru20 _ _ _ _ _ _ _ h0 rfl rfl (by decide) (fun z => z.elim) kf17) dX12_put_35 ?_
          refine lv_iconst (v := 1) X.1 X.2.1 dX12_put_38 (by decide +kernel) ?_
          refine lv_iadd X.1 X.2.1 dX12_put_39 ?_
          refine lv_topi (fun f21 ef21 => ?_)
          have sf21 : f21.toInt = f17.toInt + 1 := sg_inc (k := 1) ef21 hf17 (by decide +kernel)
          refine pf_X12_6V (u2 := ((u + 1) + 1)) X hK hG hS h0 wl_6_184 ⟨_, rfl, by omega, by omega⟩ dX12_put_40 (fun H locs hG hS => ?_)
          obtain ⟨y22, ey22⟩ : ∃ y : Int32, y = y11 + Int32.ofInt (-8) := ⟨_, rfl⟩
          refine lv_iinc (v := y22) (lv' := [(2, .int y22), (0, .ref a0), (1, .int x1)]) X.1 X.2.1 dX12_put_43 hl (k := 0) rfl ey22.symm (by decide) rfl (fun ls hl => ?_)
          refine lv_goto (tgt := 3) X.1 X.2.1 dX12_put_46 (by decide) ?_
          refine lv_iload_n X.1 X.2.1 dX12_put_3 rfl (lv_at hl 0 rfl) ?_
          refine lv_if_lt (tgt := 49) X.1 X.2.1 dX12_put_4 (by decide) (fun c23 => ?_) (fun c23 => ?_)
          · exact ((iv_no (iv_lt (b' := (-1)) c23 (iv_add (a' := 8) (b' := 8) ey22 (iv_add (a' := 16) (b' := 16) ey11 (iv_c 24 (a := 24) (b := 24) (by decide +kernel)) (iv_c _ (a := (-8)) (b := (-8)) (by decide +kernel)) (by decide +kernel)) (iv_c _ (a := (-8)) (b := (-8)) (by decide +kernel)) (by decide +kernel)) (iv_c 0 (a := 0) (b := 0) (by decide +kernel)) (by decide +kernel)) (by decide +kernel))).elim
          · refine lv_iload_n X.1 X.2.1 dX12_put_7 rfl (lv_at hl 2 rfl) ?_
            refine lv_iload_n X.1 X.2.1 dX12_put_8 rfl (lv_at hl 0 rfl) ?_
            refine lv_ishr X.1 X.2.1 dX12_put_9 ?_
            refine lv_topi (fun f24 ef24 => ?_)
            refine lv_sipush (v := 255) X.1 X.2.1 dX12_put_10 (by decide +kernel) ?_
            refine lv_iand X.1 X.2.1 dX12_put_13 ?_
            refine lv_topi (fun f25 ef25 => ?_)
            refine lv_if_ne (tgt := 20) X.1 X.2.1 dX12_put_14 (by decide) (fun c26 => ?_) (fun c26 => ?_)
            · refine lv_aload_n X.1 X.2.1 dX12_put_20 rfl (lv_at hl 1 rfl) ?_
              refine gf_X12_1v X hK hG h0 wl_6_179 dX12_put_21 (fun q27 hq27 kq27 => ?_)
              refine lv_aload_n X.1 X.2.1 dX12_put_24 rfl (lv_at hl 1 rfl) ?_
              refine gf_X12_6v X hK hG h0 wl_6_184 dX12_put_25 (fun f28 hf28 kf28 => ?_)
              have ⟨laf28, uaf28⟩ : 0 ≤ f28.toInt ∧ f28.toInt ≤ ((u + 1) + 1) := hf28
              have nb24 := sg_nbq ef2 ef3 (sg_kc (24) (iv_c 24 (a := 24) (b := 24) (by decide +kernel)) (by decide +kernel)) c4
              have nb16 := sg_nbq ef13 ef14 (sg_kc (16) (iv_add (a' := 16) (b' := 16) ey11 (iv_c 24 (a := 24) (b := 24) (by decide +kernel)) (iv_c _ (a := (-8)) (b := (-8)) (by decide +kernel)) (by decide +kernel)) (by decide +kernel)) c15
              have nb8 := sg_nbq ef24 ef25 (sg_kc (8) (iv_add (a' := 8) (b' := 8) ey22 (iv_add (a' := 16) (b' := 16) ey11 (iv_c 24 (a := 24) (b := 24) (by decide +kernel)) (iv_c _ (a := (-8)) (b := (-8)) (by decide +kernel)) (by decide +kernel)) (iv_c _ (a := (-8)) (b := (-8)) (by decide +kernel)) (by decide +kernel)) (by decide +kernel)) c26
              have nl24 := sg_nb1_le x1 24
              have nl16 := sg_nb1_le x1 16
              have nl8 := sg_nb1_le x1 8
              have nl0 := sg_nb1_le x1 0
              have hnb : sg_nb x1 = sg_nb1 x1 24 + sg_nb1 x1 16 + sg_nb1 x1 8 + sg_nb1 x1 0 := rfl
              have hf28 : iv 0 239 f28 := ⟨by omega, by omega⟩
              refine lv_iload_n X.1 X.2.1 dX12_put_28 rfl (lv_at hl 2 rfl) ?_
              refine lv_iload_n X.1 X.2.1 dX12_put_29 rfl (lv_at hl 0 rfl) ?_
              refine lv_ishr X.1 X.2.1 dX12_put_30 ?_
              refine lv_topi (fun f29 ef29 => ?_)
              obtain ⟨f30, ef30⟩ : ∃ y : Int32, y = (f29 : Int32).toInt8.toInt32 := ⟨_, rfl⟩
              refine lv_i2b (v := f30) X.1 X.2.1 dX12_put_31 ef30.symm ?_
              refine as_45v X hK hG hS hq27 (iv_vpin hf28 (by decide +kernel)) ⟨_, rfl, (iv_top _)⟩ dX12_put_32 (fun H locs hG hS ru31 => ?_)
              refine lv_aload_n X.1 X.2.1 dX12_put_33 rfl (lv_at hl 1 rfl) ?_
              refine lv_dup X.1 X.2.1 dX12_put_34 rfl ?_
              refine gg_X12_6v X hK hG h0 wl_6_184 (ru31 _ _ _ _ _ _ _ h0 rfl rfl (by decide) (fun z => z.elim) kf28) dX12_put_35 ?_
              refine lv_iconst (v := 1) X.1 X.2.1 dX12_put_38 (by decide +kernel) ?_
              refine lv_iadd X.1 X.2.1 dX12_put_39 ?_
              refine lv_topi (fun f32 ef32 => ?_)
              have sf32 : f32.toInt = f28.toInt + 1 := sg_inc (k := 1) ef32 hf28 (by decide +kernel)
              refine pf_X12_6V (u2 := (((u + 1) + 1) + 1)) X hK hG hS h0 wl_6_184 ⟨_, rfl, by omega, by omega⟩ dX12_put_40 (fun H locs hG hS => ?_)
              obtain ⟨y33, ey33⟩ : ∃ y : Int32, y = y22 + Int32.ofInt (-8) := ⟨_, rfl⟩
              refine lv_iinc (v := y33) (lv' := [(2, .int y33), (0, .ref a0), (1, .int x1)]) X.1 X.2.1 dX12_put_43 hl (k := 0) rfl ey33.symm (by decide) rfl (fun ls hl => ?_)
              refine lv_goto (tgt := 3) X.1 X.2.1 dX12_put_46 (by decide) ?_
              refine lv_iload_n X.1 X.2.1 dX12_put_3 rfl (lv_at hl 0 rfl) ?_
              refine lv_if_lt (tgt := 49) X.1 X.2.1 dX12_put_4 (by decide) (fun c34 => ?_) (fun c34 => ?_)
              · exact ((iv_no (iv_lt (b' := (-1)) c34 (iv_add (a' := 0) (b' := 0) ey33 (iv_add (a' := 8) (b' := 8) ey22 (iv_add (a' := 16) (b' := 16) ey11 (iv_c 24 (a := 24) (b := 24) (by decide +kernel)) (iv_c _ (a := (-8)) (b := (-8)) (by decide +kernel)) (by decide +kernel)) (iv_c _ (a := (-8)) (b := (-8)) (by decide +kernel)) (by decide +kernel)) (iv_c _ (a := (-8)) (b := (-8)) (by decide +kernel)) (by decide +kernel)) (iv_c 0 (a := 0) (b := 0) (by decide +kernel)) (by decide +kernel)) (by decide +kernel))).elim
              · refine lv_iload_n X.1 X.2.1 dX12_put_7 rfl (lv_at hl 2 rfl) ?_
                refine lv_iload_n X.1 X.2.1 dX12_put_8 rfl (lv_at hl 0 rfl) ?_
                refine lv_ishr X.1 X.2.1 dX12_put_9 ?_
                refine lv_topi (fun f35 ef35 => ?_)
                refine lv_sipush (v := 255) X.1 X.2.1 dX12_put_10 (by decide +kernel) ?_
                refine lv_iand X.1 X.2.1 dX12_put_13 ?_
                refine lv_topi (fun f36 ef36 => ?_)
                refine lv_if_ne (tgt := 20) X.1 X.2.1 dX12_put_14 (by decide) (fun c37 => ?_) (fun c37 => ?_)
                · refine lv_aload_n X.1 X.2.1 dX12_put_20 rfl (lv_at hl 1 rfl) ?_
                  refine gf_X12_1v X hK hG h0 wl_6_179 dX12_put_21 (fun q38 hq38 kq38 => ?_)
                  refine lv_aload_n X.1 X.2.1 dX12_put_24 rfl (lv_at hl 1 rfl) ?_
                  refine gf_X12_6v X hK hG h0 wl_6_184 dX12_put_25 (fun f39 hf39 kf39 => ?_)
                  have ⟨laf39, uaf39⟩ : 0 ≤ f39.toInt ∧ f39.toInt ≤ (((u + 1) + 1) + 1) := hf39
                  have nb24 := sg_nbq ef2 ef3 (sg_kc (24) (iv_c 24 (a := 24) (b := 24) (by decide +kernel)) (by decide +kernel)) c4
                  have nb16 := sg_nbq ef13 ef14 (sg_kc (16) (iv_add (a' := 16) (b' := 16) ey11 (iv_c 24 (a := 24) (b := 24) (by decide +kernel)) (iv_c _ (a := (-8)) (b := (-8)) (by decide +kernel)) (by decide +kernel)) (by decide +kernel)) c15
                  have nb8 := sg_nbq ef24 ef25 (sg_kc (8) (iv_add (a' := 8) (b' := 8) ey22 (iv_add (a' := 16) (b' := 16) ey11 (iv_c 24 (a := 24) (b := 24) (by decide +kernel)) (iv_c _ (a := (-8)) (b := (-8)) (by decide +kernel)) (by decide +kernel)) (iv_c _ (a := (-8)) (b := (-8)) (by decide +kernel)) (by decide +kernel)) (by decide +kernel)) c26
                  have nb0 := sg_nbq ef35 ef36 (sg_kc (0) (iv_add (a' := 0) (b' := 0) ey33 (iv_add (a' := 8) (b' := 8) ey22 (iv_add (a' := 16) (b' := 16) ey11 (iv_c 24 (a := 24) (b := 24) (by decide +kernel)) (iv_c _ (a := (-8)) (b := (-8)) (by decide +kernel)) (by decide +kernel)) (iv_c _ (a := (-8)) (b := (-8)) (by decide +kernel)) (by decide +kernel)) (iv_c _ (a := (-8)) (b := (-8)) (by decide +kernel)) (by decide +kernel)) (by decide +kernel)) c37
                  have nl24 := sg_nb1_le x1 24
                  have nl16 := sg_nb1_le x1 16
                  have nl8 := sg_nb1_le x1 8
                  have nl0 := sg_nb1_le x1 0
                  have hnb : sg_nb x1 = sg_nb1 x1 24 + sg_nb1 x1 16 + sg_nb1 x1 8 + sg_nb1 x1 0 := rfl
                  have hf39 : iv 0 239 f39 := ⟨by omega, by omega⟩
                  refine lv_iload_n X.1 X.2.1 dX12_put_28 rfl (lv_at hl 2 rfl) ?_
                  refine lv_iload_n X.1 X.2.1 dX12_put_29 rfl (lv_at hl 0 rfl) ?_
                  refine lv_ishr X.1 X.2.1 dX12_put_30 ?_
                  refine lv_topi (fun f40 ef40 => ?_)
                  obtain ⟨f41, ef41⟩ : ∃ y : Int32, y = (f40 : Int32).toInt8.toInt32 := ⟨_, rfl⟩
                  refine lv_i2b (v := f41) X.1 X.2.1 dX12_put_31 ef41.symm ?_
                  refine as_45v X hK hG hS hq38 (iv_vpin hf39 (by decide +kernel)) ⟨_, rfl, (iv_top _)⟩ dX12_put_32 (fun H locs hG hS ru42 => ?_)
                  refine lv_aload_n X.1 X.2.1 dX12_put_33 rfl (lv_at hl 1 rfl) ?_
                  refine lv_dup X.1 X.2.1 dX12_put_34 rfl ?_
                  refine gg_X12_6v X hK hG h0 wl_6_184 (ru42 _ _ _ _ _ _ _ h0 rfl rfl (by decide) (fun z => z.elim) kf39) dX12_put_35 ?_
                  refine lv_iconst (v := 1) X.1 X.2.1 dX12_put_38 (by decide +kernel) ?_
                  refine lv_iadd X.1 X.2.1 dX12_put_39 ?_
                  refine lv_topi (fun f43 ef43 => ?_)
                  have sf43 : f43.toInt = f39.toInt + 1 := sg_inc (k := 1) ef43 hf39 (by decide +kernel)
                  refine pf_X12_6V (u2 := ((((u + 1) + 1) + 1) + 1)) X hK hG hS h0 wl_6_184 ⟨_, rfl, by omega, by omega⟩ dX12_put_40 (fun H locs hG hS => ?_)
                  obtain ⟨y44, ey44⟩ : ∃ y : Int32, y = y33 + Int32.ofInt (-8) := ⟨_, rfl⟩
                  refine lv_iinc (v := y44) (lv' := [(2, .int y44), (0, .ref a0), (1, .int x1)]) X.1 X.2.1 dX12_put_43 hl (k := 0) rfl ey44.symm (by decide) rfl (fun ls hl => ?_)
                  refine lv_goto (tgt := 3) X.1 X.2.1 dX12_put_46 (by decide) ?_
                  refine lv_iload_n X.1 X.2.1 dX12_put_3 rfl (lv_at hl 0 rfl) ?_
                  refine lv_if_lt (tgt := 49) X.1 X.2.1 dX12_put_4 (by decide) (fun c45 => ?_) (fun c45 => ?_)
                  · have nb24 := sg_nbq ef2 ef3 (sg_kc (24) (iv_c 24 (a := 24) (b := 24) (by decide +kernel)) (by decide +kernel)) c4
                    have nb16 := sg_nbq ef13 ef14 (sg_kc (16) (iv_add (a' := 16) (b' := 16) ey11 (iv_c 24 (a := 24) (b := 24) (by decide +kernel)) (iv_c _ (a := (-8)) (b := (-8)) (by decide +kernel)) (by decide +kernel)) (by decide +kernel)) c15
                    have nb8 := sg_nbq ef24 ef25 (sg_kc (8) (iv_add (a' := 8) (b' := 8) ey22 (iv_add (a' := 16) (b' := 16) ey11 (iv_c 24 (a := 24) (b := 24) (by decide +kernel)) (iv_c _ (a := (-8)) (b := (-8)) (by decide +kernel)) (by decide +kernel)) (iv_c _ (a := (-8)) (b := (-8)) (by decide +kernel)) (by decide +kernel)) (by decide +kernel)) c26
                    have nb0 := sg_nbq ef35 ef36 (sg_kc (0) (iv_add (a' := 0) (b' := 0) ey33 (iv_add (a' := 8) (b' := 8) ey22 (iv_add (a' := 16) (b' := 16) ey11 (iv_c 24 (a := 24) (b := 24) (by decide +kernel)) (iv_c _ (a := (-8)) (b := (-8)) (by decide +kernel)) (by decide +kernel)) (iv_c _ (a := (-8)) (b := (-8)) (by decide +kernel)) (by decide +kernel)) (iv_c _ (a := (-8)) (b := (-8)) (by decide +kernel)) (by decide +kernel)) (by decide +kernel)) c37
                    have nl24 := sg_nb1_le x1 24
                    have nl16 := sg_nb1_le x1 16
                    have nl8 := sg_nb1_le x1 8
                    have nl0 := sg_nb1_le x1 0
                    have hnb : sg_nb x1 = sg_nb1 x1 24 + sg_nb1 x1 16 + sg_nb1 x1 8 + sg_nb1 x1 0 := rfl
                    have hG := kv_weak (u' := (u + sg_nb x1)) hG (by omega)
                    exact sg_vret2 X hr hlk hS (fun t ht hW => sg_post hb hK hC hG hS ht hW) dX12_put_49
                  · exact ((iv_no (iv_le (b' := (-8)) (iv_ge_of c45) (iv_c 0 (a := 0) (b := 0) (by decide +kernel)) (iv_add (a' := (-8)) (b' := (-8)) ey44 (iv_add (a' := 0) (b' := 0) ey33 (iv_add (a' := 8) (b' := 8) ey22 (iv_add (a' := 16) (b' := 16) ey11 (iv_c 24 (a := 24) (b := 24) (by decide +kernel)) (iv_c _ (a := (-8)) (b := (-8)) (by decide +kernel)) (by decide +kernel)) (iv_c _ (a := (-8)) (b := (-8)) (by decide +kernel)) (by decide +kernel)) (iv_c _ (a := (-8)) (b := (-8)) (by decide +kernel)) (by decide +kernel)) (iv_c _ (a := (-8)) (b := (-8)) (by decide +kernel)) (by decide +kernel)) (by decide +kernel)) (by decide +kernel))).elim
                · refine lv_goto (tgt := 43) X.1 X.2.1 dX12_put_17 (by decide) ?_
                  obtain ⟨y46, ey46⟩ : ∃ y : Int32, y = y33 + Int32.ofInt (-8) := ⟨_, rfl⟩
                  refine lv_iinc (v := y46) (lv' := [(2, .int y46), (0, .ref a0), (1, .int x1)]) X.1 X.2.1 dX12_put_43 hl (k := 0) rfl ey46.symm (by decide) rfl (fun ls hl => ?_)
                  refine lv_goto (tgt := 3) X.1 X.2.1 dX12_put_46 (by decide) ?_
                  refine lv_iload_n X.1 X.2.1 dX12_put_3 rfl (lv_at hl 0 rfl) ?_
                  refine lv_if_lt (tgt := 49) X.1 X.2.1 dX12_put_4 (by decide) (fun c47 => ?_) (fun c47 => ?_)
                  · have nb24 := sg_nbq ef2 ef3 (sg_kc (24) (iv_c 24 (a := 24) (b := 24) (by decide +kernel)) (by decide +kernel)) c4
                    have nb16 := sg_nbq ef13 ef14 (sg_kc (16) (iv_add (a' := 16) (b' := 16) ey11 (iv_c 24 (a := 24) (b := 24) (by decide +kernel)) (iv_c _ (a := (-8)) (b := (-8)) (by decide +kernel)) (by decide +kernel)) (by decide +kernel)) c15
                    have nb8 := sg_nbq ef24 ef25 (sg_kc (8) (iv_add (a' := 8) (b' := 8) ey22 (iv_add (a' := 16) (b' := 16) ey11 (iv_c 24 (a := 24) (b := 24) (by decide +kernel)) (iv_c _ (a := (-8)) (b := (-8)) (by decide +kernel)) (by decide +kernel)) (iv_c _ (a := (-8)) (b := (-8)) (by decide +kernel)) (by decide +kernel)) (by decide +kernel)) c26
                    have nb0 := sg_nbp ef35 ef36 (sg_kc (0) (iv_add (a' := 0) (b' := 0) ey33 (iv_add (a' := 8) (b' := 8) ey22 (iv_add (a' := 16) (b' := 16) ey11 (iv_c 24 (a := 24) (b := 24) (by decide +kernel)) (iv_c _ (a := (-8)) (b := (-8)) (by decide +kernel)) (by decide +kernel)) (iv_c _ (a := (-8)) (b := (-8)) (by decide +kernel)) (by decide +kernel)) (iv_c _ (a := (-8)) (b := (-8)) (by decide +kernel)) (by decide +kernel)) (by decide +kernel)) c37
                    have nl24 := sg_nb1_le x1 24
                    have nl16 := sg_nb1_le x1 16
                    have nl8 := sg_nb1_le x1 8
                    have nl0 := sg_nb1_le x1 0
                    have hnb : sg_nb x1 = sg_nb1 x1 24 + sg_nb1 x1 16 + sg_nb1 x1 8 + sg_nb1 x1 0 := rfl
                    have hG := kv_weak (u' := (u + sg_nb x1)) hG (by omega)
                    exact sg_vret2 X hr hlk hS (fun t ht hW => sg_post hb hK hC hG hS ht hW) dX12_put_49
                  · exact ((iv_no (iv_le (b' := (-8)) (iv_ge_of c47) (iv_c 0 (a := 0) (b := 0) (by decide +kernel)) (iv_add (a' := (-8)) (b' := (-8)) ey46 (iv_add (a' := 0) (b' := 0) ey33 (iv_add (a' := 8) (b' := 8) ey22 (iv_add (a' := 16) (b' := 16) ey11 (iv_c 24 (a := 24) (b := 24) (by decide +kernel)) (iv_c _ (a := (-8)) (b := (-8)) (by decide +kernel)) (by decide +kernel)) (iv_c _ (a := (-8)) (b := (-8)) (by decide +kernel)) (by decide +kernel)) (iv_c _ (a := (-8)) (b := (-8)) (by decide +kernel)) (by decide +kernel)) (iv_c _ (a := (-8)) (b := (-8)) (by decide +kernel)) (by decide +kernel)) (by decide +kernel)) (by decide +kernel))).elim
            · refine lv_goto (tgt := 43) X.1 X.2.1 dX12_put_17 (by decide) ?_
              obtain ⟨y48, ey48⟩ : ∃ y : Int32, y = y22 + Int32.ofInt (-8) := ⟨_, rfl⟩
              refine lv_iinc (v := y48) (lv' := [(2, .int y48), (0, .ref a0), (1, .int x1)]) X.1 X.2.1 dX12_put_43 hl (k := 0) rfl ey48.symm (by decide) rfl (fun ls hl => ?_)
              refine lv_goto (tgt := 3) X.1 X.2.1 dX12_put_46 (by decide) ?_
              refine lv_iload_n X.1 X.2.1 dX12_put_3 rfl (lv_at hl 0 rfl) ?_
              refine lv_if_lt (tgt := 49) X.1 X.2.1 dX12_put_4 (by decide) (fun c49 => ?_) (fun c49 => ?_)
              · exact ((iv_no (iv_lt (b' := (-1)) c49 (iv_add (a' := 0) (b' := 0) ey48 (iv_add (a' := 8) (b' := 8) ey22 (iv_add (a' := 16) (b' := 16) ey11 (iv_c 24 (a := 24) (b := 24) (by decide +kernel)) (iv_c _ (a := (-8)) (b := (-8)) (by decide +kernel)) (by decide +kernel)) (iv_c _ (a := (-8)) (b := (-8)) (by decide +kernel)) (by decide +kernel)) (iv_c _ (a := (-8)) (b := (-8)) (by decide +kernel)) (by decide +kernel)) (iv_c 0 (a := 0) (b := 0) (by decide +kernel)) (by decide +kernel)) (by decide +kernel))).elim
              · refine lv_iload_n X.1 X.2.1 dX12_put_7 rfl (lv_at hl 2 rfl) ?_
                refine lv_iload_n X.1 X.2.1 dX12_put_8 rfl (lv_at hl 0 rfl) ?_
                refine lv_ishr X.1 X.2.1 dX12_put_9 ?_
                refine lv_topi (fun f50 ef50 => ?_)
                refine lv_sipush (v := 255) X.1 X.2.1 dX12_put_10 (by decide +kernel) ?_
                refine lv_iand X.1 X.2.1 dX12_put_13 ?_
                refine lv_topi (fun f51 ef51 => ?_)
                refine lv_if_ne (tgt := 20) X.1 X.2.1 dX12_put_14 (by decide) (fun c52 => ?_) (fun c52 => ?_)
                · refine lv_aload_n X.1 X.2.1 dX12_put_20 rfl (lv_at hl 1 rfl) ?_
                  refine gf_X12_1v X hK hG h0 wl_6_179 dX12_put_21 (fun q53 hq53 kq53 => ?_)
                  refine lv_aload_n X.1 X.2.1 dX12_put_24 rfl (lv_at hl 1 rfl) ?_
                  refine gf_X12_6v X hK hG h0 wl_6_184 dX12_put_25 (fun f54 hf54 kf54 => ?_)
                  have ⟨laf54, uaf54⟩ : 0 ≤ f54.toInt ∧ f54.toInt ≤ ((u + 1) + 1) := hf54
                  have nb24 := sg_nbq ef2 ef3 (sg_kc (24) (iv_c 24 (a := 24) (b := 24) (by decide +kernel)) (by decide +kernel)) c4
                  have nb16 := sg_nbq ef13 ef14 (sg_kc (16) (iv_add (a' := 16) (b' := 16) ey11 (iv_c 24 (a := 24) (b := 24) (by decide +kernel)) (iv_c _ (a := (-8)) (b := (-8)) (by decide +kernel)) (by decide +kernel)) (by decide +kernel)) c15
                  have nb8 := sg_nbp ef24 ef25 (sg_kc (8) (iv_add (a' := 8) (b' := 8) ey22 (iv_add (a' := 16) (b' := 16) ey11 (iv_c 24 (a := 24) (b := 24) (by decide +kernel)) (iv_c _ (a := (-8)) (b := (-8)) (by decide +kernel)) (by decide +kernel)) (iv_c _ (a := (-8)) (b := (-8)) (by decide +kernel)) (by decide +kernel)) (by decide +kernel)) c26
                  have nb0 := sg_nbq ef50 ef51 (sg_kc (0) (iv_add (a' := 0) (b' := 0) ey48 (iv_add (a' := 8) (b' := 8) ey22 (iv_add (a' := 16) (b' := 16) ey11 (iv_c 24 (a := 24) (b := 24) (by decide +kernel)) (iv_c _ (a := (-8)) (b := (-8)) (by decide +kernel)) (by decide +kernel)) (iv_c _ (a := (-8)) (b := (-8)) (by decide +kernel)) (by decide +kernel)) (iv_c _ (a := (-8)) (b := (-8)) (by decide +kernel)) (by decide +kernel)) (by decide +kernel)) c52
                  have nl24 := sg_nb1_le x1 24
                  have nl16 := sg_nb1_le x1 16
                  have nl8 := sg_nb1_le x1 8
                  have nl0 := sg_nb1_le x1 0
                  have hnb : sg_nb x1 = sg_nb1 x1 24 + sg_nb1 x1 16 + sg_nb1 x1 8 + sg_nb1 x1 0 := rfl
                  have hf54 : iv 0 239 f54 := ⟨by omega, by omega⟩
                  refine lv_iload_n X.1 X.2.1 dX12_put_28 rfl (lv_at hl 2 rfl) ?_
                  refine lv_iload_n X.1 X.2.1 dX12_put_29 rfl (lv_at hl 0 rfl) ?_
                  refine lv_ishr X.1 X.2.1 dX12_put_30 ?_
                  refine lv_topi (fun f55 ef55 => ?_)
                  obtain ⟨f56, ef56⟩ : ∃ y : Int32, y = (f55 : Int32).toInt8.toInt32 := ⟨_, rfl⟩
                  refine lv_i2b (v := f56) X.1 X.2.1 dX12_put_31 ef56.symm ?_
                  refine as_45v X hK hG hS hq53 (iv_vpin hf54 (by decide +kernel)) ⟨_, rfl, (iv_top _)⟩ dX12_put_32 (fun H locs hG hS ru57 => ?_)
                  refine lv_aload_n X.1 X.2.1 dX12_put_33 rfl (lv_at hl 1 rfl) ?_
                  refine lv_dup X.1 X.2.1 dX12_put_34 rfl ?_
                  refine gg_X12_6v X hK hG h0 wl_6_184 (ru57 _ _ _ _ _ _ _ h0 rfl rfl (by decide) (fun z => z.elim) kf54) dX12_put_35 ?_
                  refine lv_iconst (v := 1) X.1 X.2.1 dX12_put_38 (by decide +kernel) ?_
                  refine lv_iadd X.1 X.2.1 dX12_put_39 ?_
                  refine lv_topi (fun f58 ef58 => ?_)
                  have sf58 : f58.toInt = f54.toInt + 1 := sg_inc (k := 1) ef58 hf54 (by decide +kernel)
                  refine pf_X12_6V (u2 := (((u + 1) + 1) + 1)) X hK hG hS h0 wl_6_184 ⟨_, rfl, by omega, by omega⟩ dX12_put_40 (fun H locs hG hS => ?_)
                  obtain ⟨y59, ey59⟩ : ∃ y : Int32, y = y48 + Int32.ofInt (-8) := ⟨_, rfl⟩
                  refine lv_iinc (v := y59) (lv' := [(2, .int y59), (0, .ref a0), (1, .int x1)]) X.1 X.2.1 dX12_put_43 hl (k := 0) rfl ey59.symm (by decide) rfl (fun ls hl => ?_)
                  refine lv_goto (tgt := 3) X.1 X.2.1 dX12_put_46 (by decide) ?_
                  refine lv_iload_n X.1 X.2.1 dX12_put_3 rfl (lv_at hl 0 rfl) ?_
                  refine lv_if_lt (tgt := 49) X.1 X.2.1 dX12_put_4 (by decide) (fun c60 => ?_) (fun c60 => ?_)
                  · have nb24 := sg_nbq ef2 ef3 (sg_kc (24) (iv_c 24 (a := 24) (b := 24) (by decide +kernel)) (by decide +kernel)) c4
                    have nb16 := sg_nbq ef13 ef14 (sg_kc (16) (iv_add (a' := 16) (b' := 16) ey11 (iv_c 24 (a := 24) (b := 24) (by decide +kernel)) (iv_c _ (a := (-8)) (b := (-8)) (by decide +kernel)) (by decide +kernel)) (by decide +kernel)) c15
                    have nb8 := sg_nbp ef24 ef25 (sg_kc (8) (iv_add (a' := 8) (b' := 8) ey22 (iv_add (a' := 16) (b' := 16) ey11 (iv_c 24 (a := 24) (b := 24) (by decide +kernel)) (iv_c _ (a := (-8)) (b := (-8)) (by decide +kernel)) (by decide +kernel)) (iv_c _ (a := (-8)) (b := (-8)) (by decide +kernel)) (by decide +kernel)) (by decide +kernel)) c26
                    have nb0 := sg_nbq ef50 ef51 (sg_kc (0) (iv_add (a' := 0) (b' := 0) ey48 (iv_add (a' := 8) (b' := 8) ey22 (iv_add (a' := 16) (b' := 16) ey11 (iv_c 24 (a := 24) (b := 24) (by decide +kernel)) (iv_c _ (a := (-8)) (b := (-8)) (by decide +kernel)) (by decide +kernel)) (iv_c _ (a := (-8)) (b := (-8)) (by decide +kernel)) (by decide +kernel)) (iv_c _ (a := (-8)) (b := (-8)) (by decide +kernel)) (by decide +kernel)) (by decide +kernel)) c52
                    have nl24 := sg_nb1_le x1 24
                    have nl16 := sg_nb1_le x1 16
                    have nl8 := sg_nb1_le x1 8
                    have nl0 := sg_nb1_le x1 0
                    have hnb : sg_nb x1 = sg_nb1 x1 24 + sg_nb1 x1 16 + sg_nb1 x1 8 + sg_nb1 x1 0 := rfl
                    have hG := kv_weak (u' := (u + sg_nb x1)) hG (by omega)
                    exact sg_vret2 X hr hlk hS (fun t ht hW => sg_post hb hK hC hG hS ht hW) dX12_put_49
                  · exact ((iv_no (iv_le (b' := (-8)) (iv_ge_of c60) (iv_c 0 (a := 0) (b := 0) (by decide +kernel)) (iv_add (a' := (-8)) (b' := (-8)) ey59 (iv_add (a' := 0) (b' := 0) ey48 (iv_add (a' := 8) (b' := 8) ey22 (iv_add (a' := 16) (b' := 16) ey11 (iv_c 24 (a := 24) (b := 24) (by decide +kernel)) (iv_c _ (a := (-8)) (b := (-8)) (by decide +kernel)) (by decide +kernel)) (iv_c _ (a := (-8)) (b := (-8)) (by decide +kernel)) (by decide +kernel)) (iv_c _ (a := (-8)) (b := (-8)) (by decide +kernel)) (by decide +kernel)) (iv_c _ (a := (-8)) (b := (-8)) (by decide +kernel)) (by decide +kernel)) (by decide +kernel)) (by decide +kernel))).elim
                · refine lv_goto (tgt := 43) X.1 X.2.1 dX12_put_17 (by decide) ?_
                  obtain ⟨y61, ey61⟩ : ∃ y : Int32, y = y48 + Int32.ofInt (-8) := ⟨_, rfl⟩
                  refine lv_iinc (v := y61) (lv' := [(2, .int y61), (0, .ref a0), (1, .int x1)]) X.1 X.2.1 dX12_put_43 hl (k := 0) rfl ey61.symm (by decide) rfl (fun ls hl => ?_)
                  refine lv_goto (tgt := 3) X.1 X.2.1 dX12_put_46 (by decide) ?_
                  refine lv_iload_n X.1 X.2.1 dX12_put_3 rfl (lv_at hl 0 rfl) ?_
                  refine lv_if_lt (tgt := 49) X.1 X.2.1 dX12_put_4 (by decide) (fun c62 => ?_) (fun c62 => ?_)
                  · have nb24 := sg_nbq ef2 ef3 (sg_kc (24) (iv_c 24 (a := 24) (b := 24) (by decide +kernel)) (by decide +kernel)) c4
                    have nb16 := sg_nbq ef13 ef14 (sg_kc (16) (iv_add (a' := 16) (b' := 16) ey11 (iv_c 24 (a := 24) (b := 24) (by decide +kernel)) (iv_c _ (a := (-8)) (b := (-8)) (by decide +kernel)) (by decide +kernel)) (by decide +kernel)) c15
                    have nb8 := sg_nbp ef24 ef25 (sg_kc (8) (iv_add (a' := 8) (b' := 8) ey22 (iv_add (a' := 16) (b' := 16) ey11 (iv_c 24 (a := 24) (b := 24) (by decide +kernel)) (iv_c _ (a := (-8)) (b := (-8)) (by decide +kernel)) (by decide +kernel)) (iv_c _ (a := (-8)) (b := (-8)) (by decide +kernel)) (by decide +kernel)) (by decide +kernel)) c26
                    have nb0 := sg_nbp ef50 ef51 (sg_kc (0) (iv_add (a' := 0) (b' := 0) ey48 (iv_add (a' := 8) (b' := 8) ey22 (iv_add (a' := 16) (b' := 16) ey11 (iv_c 24 (a := 24) (b := 24) (by decide +kernel)) (iv_c _ (a := (-8)) (b := (-8)) (by decide +kernel)) (by decide +kernel)) (iv_c _ (a := (-8)) (b := (-8)) (by decide +kernel)) (by decide +kernel)) (iv_c _ (a := (-8)) (b := (-8)) (by decide +kernel)) (by decide +kernel)) (by decide +kernel)) c52
                    have nl24 := sg_nb1_le x1 24
                    have nl16 := sg_nb1_le x1 16
                    have nl8 := sg_nb1_le x1 8
                    have nl0 := sg_nb1_le x1 0
                    have hnb : sg_nb x1 = sg_nb1 x1 24 + sg_nb1 x1 16 + sg_nb1 x1 8 + sg_nb1 x1 0 := rfl
                    have hG := kv_weak (u' := (u + sg_nb x1)) hG (by omega)
                    exact sg_vret2 X hr hlk hS (fun t ht hW => sg_post hb hK hC hG hS ht hW) dX12_put_49
                  · exact ((iv_no (iv_le (b' := (-8)) (iv_ge_of c62) (iv_c 0 (a := 0) (b := 0) (by decide +kernel)) (iv_add (a' := (-8)) (b' := (-8)) ey61 (iv_add (a' := 0) (b' := 0) ey48 (iv_add (a' := 8) (b' := 8) ey22 (iv_add (a' := 16) (b' := 16) ey11 (iv_c 24 (a := 24) (b := 24) (by decide +kernel)) (iv_c _ (a := (-8)) (b := (-8)) (by decide +kernel)) (by decide +kernel)) (iv_c _ (a := (-8)) (b := (-8)) (by decide +kernel)) (by decide +kernel)) (iv_c _ (a := (-8)) (b := (-8)) (by decide +kernel)) (by decide +kernel)) (iv_c _ (a := (-8)) (b := (-8)) (by decide +kernel)) (by decide +kernel)) (by decide +kernel)) (by decide +kernel))).elim
        · refine lv_goto (tgt := 43) X.1 X.2.1 dX12_put_17 (by decide) ?_
          obtain ⟨y63, ey63⟩ : ∃ y : Int32, y = y11 + Int32.ofInt (-8) := ⟨_, rfl⟩
          refine lv_iinc (v := y63) (lv' := [(2, .int y63), (0, .ref a0), (1, .int x1)]) X.1 X.2.1 dX12_put_43 hl (k := 0) rfl ey63.symm (by decide) rfl (fun ls hl => ?_)
          refine lv_goto (tgt := 3) X.1 X.2.1 dX12_put_46 (by decide) ?_
          refine lv_iload_n X.1 X.2.1 dX12_put_3 rfl (lv_at hl 0 rfl) ?_
          refine lv_if_lt (tgt := 49) X.1 X.2.1 dX12_put_4 (by decide) (fun c64 => ?_) (fun c64 => ?_)
          · exact ((iv_no (iv_lt (b' := (-1)) c64 (iv_add (a' := 8) (b' := 8) ey63 (iv_add (a' := 16) (b' := 16) ey11 (iv_c 24 (a := 24) (b := 24) (by decide +kernel)) (iv_c _ (a := (-8)) (b := (-8)) (by decide +kernel)) (by decide +kernel)) (iv_c _ (a := (-8)) (b := (-8)) (by decide +kernel)) (by decide +kernel)) (iv_c 0 (a := 0) (b := 0) (by decide +kernel)) (by decide +kernel)) (by decide +kernel))).elim
          · refine lv_iload_n X.1 X.2.1 dX12_put_7 rfl (lv_at hl 2 rfl) ?_
            refine lv_iload_n X.1 X.2.1 dX12_put_8 rfl (lv_at hl 0 rfl) ?_
            refine lv_ishr X.1 X.2.1 dX12_put_9 ?_
            refine lv_topi (fun f65 ef65 => ?_)
            refine lv_sipush (v := 255) X.1 X.2.1 dX12_put_10 (by decide +kernel) ?_
            refine lv_iand X.1 X.2.1 dX12_put_13 ?_
            refine lv_topi (fun f66 ef66 => ?_)
            refine lv_if_ne (tgt := 20) X.1 X.2.1 dX12_put_14 (by decide) (fun c67 => ?_) (fun c67 => ?_)
            · refine lv_aload_n X.1 X.2.1 dX12_put_20 rfl (lv_at hl 1 rfl) ?_
              refine gf_X12_1v X hK hG h0 wl_6_179 dX12_put_21 (fun q68 hq68 kq68 => ?_)
              refine lv_aload_n X.1 X.2.1 dX12_put_24 rfl (lv_at hl 1 rfl) ?_
              refine gf_X12_6v X hK hG h0 wl_6_184 dX12_put_25 (fun f69 hf69 kf69 => ?_)
              have ⟨laf69, uaf69⟩ : 0 ≤ f69.toInt ∧ f69.toInt ≤ (u + 1) := hf69
              have nb24 := sg_nbq ef2 ef3 (sg_kc (24) (iv_c 24 (a := 24) (b := 24) (by decide +kernel)) (by decide +kernel)) c4
              have nb16 := sg_nbp ef13 ef14 (sg_kc (16) (iv_add (a' := 16) (b' := 16) ey11 (iv_c 24 (a := 24) (b := 24) (by decide +kernel)) (iv_c _ (a := (-8)) (b := (-8)) (by decide +kernel)) (by decide +kernel)) (by decide +kernel)) c15
              have nb8 := sg_nbq ef65 ef66 (sg_kc (8) (iv_add (a' := 8) (b' := 8) ey63 (iv_add (a' := 16) (b' := 16) ey11 (iv_c 24 (a := 24) (b := 24) (by decide +kernel)) (iv_c _ (a := (-8)) (b := (-8)) (by decide +kernel)) (by decide +kernel)) (iv_c _ (a := (-8)) (b := (-8)) (by decide +kernel)) (by decide +kernel)) (by decide +kernel)) c67
              have nl24 := sg_nb1_le x1 24
              have nl16 := sg_nb1_le x1 16
              have nl8 := sg_nb1_le x1 8
              have nl0 := sg_nb1_le x1 0
              have hnb : sg_nb x1 = sg_nb1 x1 24 + sg_nb1 x1 16 + sg_nb1 x1 8 + sg_nb1 x1 0 := rfl
              have hf69 : iv 0 239 f69 := ⟨by omega, by omega⟩
              refine lv_iload_n X.1 X.2.1 dX12_put_28 rfl (lv_at hl 2 rfl) ?_
              refine lv_iload_n X.1 X.2.1 dX12_put_29 rfl (lv_at hl 0 rfl) ?_
              refine lv_ishr X.1 X.2.1 dX12_put_30 ?_
              refine lv_topi (fun f70 ef70 => ?_)
              obtain ⟨f71, ef71⟩ : ∃ y : Int32, y = (f70 : Int32).toInt8.toInt32 := ⟨_, rfl⟩
              refine lv_i2b (v := f71) X.1 X.2.1 dX12_put_31 ef71.symm ?_
              refine as_45v X hK hG hS hq68 (iv_vpin hf69 (by decide +kernel)) ⟨_, rfl, (iv_top _)⟩ dX12_put_32 (fun H locs hG hS ru72 => ?_)
              refine lv_aload_n X.1 X.2.1 dX12_put_33 rfl (lv_at hl 1 rfl) ?_
              refine lv_dup X.1 X.2.1 dX12_put_34 rfl ?_
              refine gg_X12_6v X hK hG h0 wl_6_184 (ru72 _ _ _ _ _ _ _ h0 rfl rfl (by decide) (fun z => z.elim) kf69) dX12_put_35 ?_
              refine lv_iconst (v := 1) X.1 X.2.1 dX12_put_38 (by decide +kernel) ?_
              refine lv_iadd X.1 X.2.1 dX12_put_39 ?_
              refine lv_topi (fun f73 ef73 => ?_)
              have sf73 : f73.toInt = f69.toInt + 1 := sg_inc (k := 1) ef73 hf69 (by decide +kernel)
              refine pf_X12_6V (u2 := ((u + 1) + 1)) X hK hG hS h0 wl_6_184 ⟨_, rfl, by omega, by omega⟩ dX12_put_40 (fun H locs hG hS => ?_)
              obtain ⟨y74, ey74⟩ : ∃ y : Int32, y = y63 + Int32.ofInt (-8) := ⟨_, rfl⟩
              refine lv_iinc (v := y74) (lv' := [(2, .int y74), (0, .ref a0), (1, .int x1)]) X.1 X.2.1 dX12_put_43 hl (k := 0) rfl ey74.symm (by decide) rfl (fun ls hl => ?_)
              refine lv_goto (tgt := 3) X.1 X.2.1 dX12_put_46 (by decide) ?_
              refine lv_iload_n X.1 X.2.1 dX12_put_3 rfl (lv_at hl 0 rfl) ?_
              refine lv_if_lt (tgt := 49) X.1 X.2.1 dX12_put_4 (by decide) (fun c75 => ?_) (fun c75 => ?_)
              · exact ((iv_no (iv_lt (b' := (-1)) c75 (iv_add (a' := 0) (b' := 0) ey74 (iv_add (a' := 8) (b' := 8) ey63 (iv_add (a' := 16) (b' := 16) ey11 (iv_c 24 (a := 24) (b := 24) (by decide +kernel)) (iv_c _ (a := (-8)) (b := (-8)) (by decide +kernel)) (by decide +kernel)) (iv_c _ (a := (-8)) (b := (-8)) (by decide +kernel)) (by decide +kernel)) (iv_c _ (a := (-8)) (b := (-8)) (by decide +kernel)) (by decide +kernel)) (iv_c 0 (a := 0) (b := 0) (by decide +kernel)) (by decide +kernel)) (by decide +kernel))).elim
              · refine lv_iload_n X.1 X.2.1 dX12_put_7 rfl (lv_at hl 2 rfl) ?_
                refine lv_iload_n X.1 X.2.1 dX12_put_8 rfl (lv_at hl 0 rfl) ?_
                refine lv_ishr X.1 X.2.1 dX12_put_9 ?_
                refine lv_topi (fun f76 ef76 => ?_)
                refine lv_sipush (v := 255) X.1 X.2.1 dX12_put_10 (by decide +kernel) ?_
                refine lv_iand X.1 X.2.1 dX12_put_13 ?_
                refine lv_topi (fun f77 ef77 => ?_)
                refine lv_if_ne (tgt := 20) X.1 X.2.1 dX12_put_14 (by decide) (fun c78 => ?_) (fun c78 => ?_)
                · refine lv_aload_n X.1 X.2.1 dX12_put_20 rfl (lv_at hl 1 rfl) ?_
                  refine gf_X12_1v X hK hG h0 wl_6_179 dX12_put_21 (fun q79 hq79 kq79 => ?_)
                  refine lv_aload_n X.1 X.2.1 dX12_put_24 rfl (lv_at hl 1 rfl) ?_
                  refine gf_X12_6v X hK hG h0 wl_6_184 dX12_put_25 (fun f80 hf80 kf80 => ?_)
                  have ⟨laf80, uaf80⟩ : 0 ≤ f80.toInt ∧ f80.toInt ≤ ((u + 1) + 1) := hf80
                  have nb24 := sg_nbq ef2 ef3 (sg_kc (24) (iv_c 24 (a := 24) (b := 24) (by decide +kernel)) (by decide +kernel)) c4
                  have nb16 := sg_nbp ef13 ef14 (sg_kc (16) (iv_add (a' := 16) (b' := 16) ey11 (iv_c 24 (a := 24) (b := 24) (by decide +kernel)) (iv_c _ (a := (-8)) (b := (-8)) (by decide +kernel)) (by decide +kernel)) (by decide +kernel)) c15
                  have nb8 := sg_nbq ef65 ef66 (sg_kc (8) (iv_add (a' := 8) (b' := 8) ey63 (iv_add (a' := 16) (b' := 16) ey11 (iv_c 24 (a := 24) (b := 24) (by decide +kernel)) (iv_c _ (a := (-8)) (b := (-8)) (by decide +kernel)) (by decide +kernel)) (iv_c _ (a := (-8)) (b := (-8)) (by decide +kernel)) (by decide +kernel)) (by decide +kernel)) c67
                  have nb0 := sg_nbq ef76 ef77 (sg_kc (0) (iv_add (a' := 0) (b' := 0) ey74 (iv_add (a' := 8) (b' := 8) ey63 (iv_add (a' := 16) (b' := 16) ey11 (iv_c 24 (a := 24) (b := 24) (by decide +kernel)) (iv_c _ (a := (-8)) (b := (-8)) (by decide +kernel)) (by decide +kernel)) (iv_c _ (a := (-8)) (b := (-8)) (by decide +kernel)) (by decide +kernel)) (iv_c _ (a := (-8)) (b := (-8)) (by decide +kernel)) (by decide +kernel)) (by decide +kernel)) c78
                  have nl24 := sg_nb1_le x1 24
                  have nl16 := sg_nb1_le x1 16
                  have nl8 := sg_nb1_le x1 8
                  have nl0 := sg_nb1_le x1 0
                  have hnb : sg_nb x1 = sg_nb1 x1 24 + sg_nb1 x1 16 + sg_nb1 x1 8 + sg_nb1 x1 0 := rfl
                  have hf80 : iv 0 239 f80 := ⟨by omega, by omega⟩
                  refine lv_iload_n X.1 X.2.1 dX12_put_28 rfl (lv_at hl 2 rfl) ?_
                  refine lv_iload_n X.1 X.2.1 dX12_put_29 rfl (lv_at hl 0 rfl) ?_
                  refine lv_ishr X.1 X.2.1 dX12_put_30 ?_
                  refine lv_topi (fun f81 ef81 => ?_)
                  obtain ⟨f82, ef82⟩ : ∃ y : Int32, y = (f81 : Int32).toInt8.toInt32 := ⟨_, rfl⟩
                  refine lv_i2b (v := f82) X.1 X.2.1 dX12_put_31 ef82.symm ?_
                  refine as_45v X hK hG hS hq79 (iv_vpin hf80 (by decide +kernel)) ⟨_, rfl, (iv_top _)⟩ dX12_put_32 (fun H locs hG hS ru83 => ?_)
                  refine lv_aload_n X.1 X.2.1 dX12_put_33 rfl (lv_at hl 1 rfl) ?_
                  refine lv_dup X.1 X.2.1 dX12_put_34 rfl ?_
                  refine gg_X12_6v X hK hG h0 wl_6_184 (ru83 _ _ _ _ _ _ _ h0 rfl rfl (by decide) (fun z => z.elim) kf80) dX12_put_35 ?_
                  refine lv_iconst (v := 1) X.1 X.2.1 dX12_put_38 (by decide +kernel) ?_
                  refine lv_iadd X.1 X.2.1 dX12_put_39 ?_
                  refine lv_topi (fun f84 ef84 => ?_)
                  have sf84 : f84.toInt = f80.toInt + 1 := sg_inc (k := 1) ef84 hf80 (by decide +kernel)
                  refine pf_X12_6V (u2 := (((u + 1) + 1) + 1)) X hK hG hS h0 wl_6_184 ⟨_, rfl, by omega, by omega⟩ dX12_put_40 (fun H locs hG hS => ?_)
                  obtain ⟨y85, ey85⟩ : ∃ y : Int32, y = y74 + Int32.ofInt (-8) := ⟨_, rfl⟩
                  refine lv_iinc (v := y85) (lv' := [(2, .int y85), (0, .ref a0), (1, .int x1)]) X.1 X.2.1 dX12_put_43 hl (k := 0) rfl ey85.symm (by decide) rfl (fun ls hl => ?_)
                  refine lv_goto (tgt := 3) X.1 X.2.1 dX12_put_46 (by decide) ?_
                  refine lv_iload_n X.1 X.2.1 dX12_put_3 rfl (lv_at hl 0 rfl) ?_
                  refine lv_if_lt (tgt := 49) X.1 X.2.1 dX12_put_4 (by decide) (fun c86 => ?_) (fun c86 => ?_)
                  · have nb24 := sg_nbq ef2 ef3 (sg_kc (24) (iv_c 24 (a := 24) (b := 24) (by decide +kernel)) (by decide +kernel)) c4
                    have nb16 := sg_nbp ef13 ef14 (sg_kc (16) (iv_add (a' := 16) (b' := 16) ey11 (iv_c 24 (a := 24) (b := 24) (by decide +kernel)) (iv_c _ (a := (-8)) (b := (-8)) (by decide +kernel)) (by decide +kernel)) (by decide +kernel)) c15
                    have nb8 := sg_nbq ef65 ef66 (sg_kc (8) (iv_add (a' := 8) (b' := 8) ey63 (iv_add (a' := 16) (b' := 16) ey11 (iv_c 24 (a := 24) (b := 24) (by decide +kernel)) (iv_c _ (a := (-8)) (b := (-8)) (by decide +kernel)) (by decide +kernel)) (iv_c _ (a := (-8)) (b := (-8)) (by decide +kernel)) (by decide +kernel)) (by decide +kernel)) c67
                    have nb0 := sg_nbq ef76 ef77 (sg_kc (0) (iv_add (a' := 0) (b' := 0) ey74 (iv_add (a' := 8) (b' := 8) ey63 (iv_add (a' := 16) (b' := 16) ey11 (iv_c 24 (a := 24) (b := 24) (by decide +kernel)) (iv_c _ (a := (-8)) (b := (-8)) (by decide +kernel)) (by decide +kernel)) (iv_c _ (a := (-8)) (b := (-8)) (by decide +kernel)) (by decide +kernel)) (iv_c _ (a := (-8)) (b := (-8)) (by decide +kernel)) (by decide +kernel)) (by decide +kernel)) c78
                    have nl24 := sg_nb1_le x1 24
                    have nl16 := sg_nb1_le x1 16
                    have nl8 := sg_nb1_le x1 8
                    have nl0 := sg_nb1_le x1 0
                    have hnb : sg_nb x1 = sg_nb1 x1 24 + sg_nb1 x1 16 + sg_nb1 x1 8 + sg_nb1 x1 0 := rfl
                    have hG := kv_weak (u' := (u + sg_nb x1)) hG (by omega)
                    exact sg_vret2 X hr hlk hS (fun t ht hW => sg_post hb hK hC hG hS ht hW) dX12_put_49
                  · exact ((iv_no (iv_le (b' := (-8)) (iv_ge_of c86) (iv_c 0 (a := 0) (b := 0) (by decide +kernel)) (iv_add (a' := (-8)) (b' := (-8)) ey85 (iv_add (a' := 0) (b' := 0) ey74 (iv_add (a' := 8) (b' := 8) ey63 (iv_add (a' := 16) (b' := 16) ey11 (iv_c 24 (a := 24) (b := 24) (by decide +kernel)) (iv_c _ (a := (-8)) (b := (-8)) (by decide +kernel)) (by decide +kernel)) (iv_c _ (a := (-8)) (b := (-8)) (by decide +kernel)) (by decide +kernel)) (iv_c _ (a := (-8)) (b := (-8)) (by decide +kernel)) (by decide +kernel)) (iv_c _ (a := (-8)) (b := (-8)) (by decide +kernel)) (by decide +kernel)) (by decide +kernel)) (by decide +kernel))).elim
                · refine lv_goto (tgt := 43) X.1 X.2.1 dX12_put_17 (by decide) ?_
                  obtain ⟨y87, ey87⟩ : ∃ y : Int32, y = y74 + Int32.ofInt (-8) := ⟨_, rfl⟩
                  refine lv_iinc (v := y87) (lv' := [(2, .int y87), (0, .ref a0), (1, .int x1)]) X.1 X.2.1 dX12_put_43 hl (k := 0) rfl ey87.symm (by decide) rfl (fun ls hl => ?_)
                  refine lv_goto (tgt := 3) X.1 X.2.1 dX12_put_46 (by decide) ?_
                  refine lv_iload_n X.1 X.2.1 dX12_put_3 rfl (lv_at hl 0 rfl) ?_
                  refine lv_if_lt (tgt := 49) X.1 X.2.1 dX12_put_4 (by decide) (fun c88 => ?_) (fun c88 => ?_)
                  · have nb24 := sg_nbq ef2 ef3 (sg_kc (24) (iv_c 24 (a := 24) (b := 24) (by decide +kernel)) (by decide +kernel)) c4
                    have nb16 := sg_nbp ef13 ef14 (sg_kc (16) (iv_add (a' := 16) (b' := 16) ey11 (iv_c 24 (a := 24) (b := 24) (by decide +kernel)) (iv_c _ (a := (-8)) (b := (-8)) (by decide +kernel)) (by decide +kernel)) (by decide +kernel)) c15
                    have nb8 := sg_nbq ef65 ef66 (sg_kc (8) (iv_add (a' := 8) (b' := 8) ey63 (iv_add (a' := 16) (b' := 16) ey11 (iv_c 24 (a := 24) (b := 24) (by decide +kernel)) (iv_c _ (a := (-8)) (b := (-8)) (by decide +kernel)) (by decide +kernel)) (iv_c _ (a := (-8)) (b := (-8)) (by decide +kernel)) (by decide +kernel)) (by decide +kernel)) c67
                    have nb0 := sg_nbp ef76 ef77 (sg_kc (0) (iv_add (a' := 0) (b' := 0) ey74 (iv_add (a' := 8) (b' := 8) ey63 (iv_add (a' := 16) (b' := 16) ey11 (iv_c 24 (a := 24) (b := 24) (by decide +kernel)) (iv_c _ (a := (-8)) (b := (-8)) (by decide +kernel)) (by decide +kernel)) (iv_c _ (a := (-8)) (b := (-8)) (by decide +kernel)) (by decide +kernel)) (iv_c _ (a := (-8)) (b := (-8)) (by decide +kernel)) (by decide +kernel)) (by decide +kernel)) c78
                    have nl24 := sg_nb1_le x1 24
                    have nl16 := sg_nb1_le x1 16
                    have nl8 := sg_nb1_le x1 8
                    have nl0 := sg_nb1_le x1 0
                    have hnb : sg_nb x1 = sg_nb1 x1 24 + sg_nb1 x1 16 + sg_nb1 x1 8 + sg_nb1 x1 0 := rfl
                    have hG := kv_weak (u' := (u + sg_nb x1)) hG (by omega)
                    exact sg_vret2 X hr hlk hS (fun t ht hW => sg_post hb hK hC hG hS ht hW) dX12_put_49
                  · exact ((iv_no (iv_le (b' := (-8)) (iv_ge_of c88) (iv_c 0 (a := 0) (b := 0) (by decide +kernel)) (iv_add (a' := (-8)) (b' := (-8)) ey87 (iv_add (a' := 0) (b' := 0) ey74 (iv_add (a' := 8) (b' := 8) ey63 (iv_add (a' := 16) (b' := 16) ey11 (iv_c 24 (a := 24) (b := 24) (by decide +kernel)) (iv_c _ (a := (-8)) (b := (-8)) (by decide +kernel)) (by decide +kernel)) (iv_c _ (a := (-8)) (b := (-8)) (by decide +kernel)) (by decide +kernel)) (iv_c _ (a := (-8)) (b := (-8)) (by decide +kernel)) (by decide +kernel)) (iv_c _ (a := (-8)) (b := (-8)) (by decide +kernel)) (by decide +kernel)) (by decide +kernel)) (by decide +kernel))).elim
            · refine lv_goto (tgt := 43) X.1 X.2.1 dX12_put_17 (by decide) ?_
              obtain ⟨y89, ey89⟩ : ∃ y : Int32, y = y63 + Int32.ofInt (-8) := ⟨_, rfl⟩
              refine lv_iinc (v := y89) (lv' := [(2, .int y89), (0, .ref a0), (1, .int x1)]) X.1 X.2.1 dX12_put_43 hl (k := 0) rfl ey89.symm (by decide) rfl (fun ls hl => ?_)
              refine lv_goto (tgt := 3) X.1 X.2.1 dX12_put_46 (by decide) ?_
              refine lv_iload_n X.1 X.2.1 dX12_put_3 rfl (lv_at hl 0 rfl) ?_
              refine lv_if_lt (tgt := 49) X.1 X.2.1 dX12_put_4 (by decide) (fun c90 => ?_) (fun c90 => ?_)
              · exact ((iv_no (iv_lt (b' := (-1)) c90 (iv_add (a' := 0) (b' := 0) ey89 (iv_add (a' := 8) (b' := 8) ey63 (iv_add (a' := 16) (b' := 16) ey11 (iv_c 24 (a := 24) (b := 24) (by decide +kernel)) (iv_c _ (a := (-8)) (b := (-8)) (by decide +kernel)) (by decide +kernel)) (iv_c _ (a := (-8)) (b := (-8)) (by decide +kernel)) (by decide +kernel)) (iv_c _ (a := (-8)) (b := (-8)) (by decide +kernel)) (by decide +kernel)) (iv_c 0 (a := 0) (b := 0) (by decide +kernel)) (by decide +kernel)) (by decide +kernel))).elim
              · refine lv_iload_n X.1 X.2.1 dX12_put_7 rfl (lv_at hl 2 rfl) ?_
                refine lv_iload_n X.1 X.2.1 dX12_put_8 rfl (lv_at hl 0 rfl) ?_
                refine lv_ishr X.1 X.2.1 dX12_put_9 ?_
                refine lv_topi (fun f91 ef91 => ?_)
                refine lv_sipush (v := 255) X.1 X.2.1 dX12_put_10 (by decide +kernel) ?_
                refine lv_iand X.1 X.2.1 dX12_put_13 ?_
                refine lv_topi (fun f92 ef92 => ?_)
                refine lv_if_ne (tgt := 20) X.1 X.2.1 dX12_put_14 (by decide) (fun c93 => ?_) (fun c93 => ?_)
                · refine lv_aload_n X.1 X.2.1 dX12_put_20 rfl (lv_at hl 1 rfl) ?_
                  refine gf_X12_1v X hK hG h0 wl_6_179 dX12_put_21 (fun q94 hq94 kq94 => ?_)
                  refine lv_aload_n X.1 X.2.1 dX12_put_24 rfl (lv_at hl 1 rfl) ?_
                  refine gf_X12_6v X hK hG h0 wl_6_184 dX12_put_25 (fun f95 hf95 kf95 => ?_)
                  have ⟨laf95, uaf95⟩ : 0 ≤ f95.toInt ∧ f95.toInt ≤ (u + 1) := hf95
                  have nb24 := sg_nbq ef2 ef3 (sg_kc (24) (iv_c 24 (a := 24) (b := 24) (by decide +kernel)) (by decide +kernel)) c4
                  have nb16 := sg_nbp ef13 ef14 (sg_kc (16) (iv_add (a' := 16) (b' := 16) ey11 (iv_c 24 (a := 24) (b := 24) (by decide +kernel)) (iv_c _ (a := (-8)) (b := (-8)) (by decide +kernel)) (by decide +kernel)) (by decide +kernel)) c15
                  have nb8 := sg_nbp ef65 ef66 (sg_kc (8) (iv_add (a' := 8) (b' := 8) ey63 (iv_add (a' := 16) (b' := 16) ey11 (iv_c 24 (a := 24) (b := 24) (by decide +kernel)) (iv_c _ (a := (-8)) (b := (-8)) (by decide +kernel)) (by decide +kernel)) (iv_c _ (a := (-8)) (b := (-8)) (by decide +kernel)) (by decide +kernel)) (by decide +kernel)) c67
                  have nb0 := sg_nbq ef91 ef92 (sg_kc (0) (iv_add (a' := 0) (b' := 0) ey89 (iv_add (a' := 8) (b' := 8) ey63 (iv_add (a' := 16) (b' := 16) ey11 (iv_c 24 (a := 24) (b := 24) (by decide +kernel)) (iv_c _ (a := (-8)) (b := (-8)) (by decide +kernel)) (by decide +kernel)) (iv_c _ (a := (-8)) (b := (-8)) (by decide +kernel)) (by decide +kernel)) (iv_c _ (a := (-8)) (b := (-8)) (by decide +kernel)) (by decide +kernel)) (by decide +kernel)) c93
                  have nl24 := sg_nb1_le x1 24
                  have nl16 := sg_nb1_le x1 16
                  have nl8 := sg_nb1_le x1 8
                  have nl0 := sg_nb1_le x1 0
                  have hnb : sg_nb x1 = sg_nb1 x1 24 + sg_nb1 x1 16 + sg_nb1 x1 8 + sg_nb1 x1 0 := rfl
                  have hf95 : iv 0 239 f95 := ⟨by omega, by omega⟩
                  refine lv_iload_n X.1 X.2.1 dX12_put_28 rfl (lv_at hl 2 rfl) ?_
                  refine lv_iload_n X.1 X.2.1 dX12_put_29 rfl (lv_at hl 0 rfl) ?_
                  refine lv_ishr X.1 X.2.1 dX12_put_30 ?_
                  refine lv_topi (fun f96 ef96 => ?_)
                  obtain ⟨f97, ef97⟩ : ∃ y : Int32, y = (f96 : Int32).toInt8.toInt32 := ⟨_, rfl⟩
                  refine lv_i2b (v := f97) X.1 X.2.1 dX12_put_31 ef97.symm ?_
                  refine as_45v X hK hG hS hq94 (iv_vpin hf95 (by decide +kernel)) ⟨_, rfl, (iv_top _)⟩ dX12_put_32 (fun H locs hG hS ru98 => ?_)
                  refine lv_aload_n X.1 X.2.1 dX12_put_33 rfl (lv_at hl 1 rfl) ?_
                  refine lv_dup X.1 X.2.1 dX12_put_34 rfl ?_
                  refine gg_X12_6v X hK hG h0 wl_6_184 (ru98 _ _ _ _ _ _ _ h0 rfl rfl (by decide) (fun z => z.elim) kf95) dX12_put_35 ?_
                  refine lv_iconst (v := 1) X.1 X.2.1 dX12_put_38 (by decide +kernel) ?_
                  refine lv_iadd X.1 X.2.1 dX12_put_39 ?_
                  refine lv_topi (fun f99 ef99 => ?_)
                  have sf99 : f99.toInt = f95.toInt + 1 := sg_inc (k := 1) ef99 hf95 (by decide +kernel)
                  refine pf_X12_6V (u2 := ((u + 1) + 1)) X hK hG hS h0 wl_6_184 ⟨_, rfl, by omega, by omega⟩ dX12_put_40 (fun H locs hG hS => ?_)
                  obtain ⟨y100, ey100⟩ : ∃ y : Int32, y = y89 + Int32.ofInt (-8) := ⟨_, rfl⟩
                  refine lv_iinc (v := y100) (lv' := [(2, .int y100), (0, .ref a0), (1, .int x1)]) X.1 X.2.1 dX12_put_43 hl (k := 0) rfl ey100.symm (by decide) rfl (fun ls hl => ?_)
                  refine lv_goto (tgt := 3) X.1 X.2.1 dX12_put_46 (by decide) ?_
                  refine lv_iload_n X.1 X.2.1 dX12_put_3 rfl (lv_at hl 0 rfl) ?_
                  refine lv_if_lt (tgt := 49) X.1 X.2.1 dX12_put_4 (by decide) (fun c101 => ?_) (fun c101 => ?_)
                  · have nb24 := sg_nbq ef2 ef3 (sg_kc (24) (iv_c 24 (a := 24) (b := 24) (by decide +kernel)) (by decide +kernel)) c4
                    have nb16 := sg_nbp ef13 ef14 (sg_kc (16) (iv_add (a' := 16) (b' := 16) ey11 (iv_c 24 (a := 24) (b := 24) (by decide +kernel)) (iv_c _ (a := (-8)) (b := (-8)) (by decide +kernel)) (by decide +kernel)) (by decide +kernel)) c15
                    have nb8 := sg_nbp ef65 ef66 (sg_kc (8) (iv_add (a' := 8) (b' := 8) ey63 (iv_add (a' := 16) (b' := 16) ey11 (iv_c 24 (a := 24) (b := 24) (by decide +kernel)) (iv_c _ (a := (-8)) (b := (-8)) (by decide +kernel)) (by decide +kernel)) (iv_c _ (a := (-8)) (b := (-8)) (by decide +kernel)) (by decide +kernel)) (by decide +kernel)) c67
                    have nb0 := sg_nbq ef91 ef92 (sg_kc (0) (iv_add (a' := 0) (b' := 0) ey89 (iv_add (a' := 8) (b' := 8) ey63 (iv_add (a' := 16) (b' := 16) ey11 (iv_c 24 (a := 24) (b := 24) (by decide +kernel)) (iv_c _ (a := (-8)) (b := (-8)) (by decide +kernel)) (by decide +kernel)) (iv_c _ (a := (-8)) (b := (-8)) (by decide +kernel)) (by decide +kernel)) (iv_c _ (a := (-8)) (b := (-8)) (by decide +kernel)) (by decide +kernel)) (by decide +kernel)) c93
                    have nl24 := sg_nb1_le x1 24
                    have nl16 := sg_nb1_le x1 16
                    have nl8 := sg_nb1_le x1 8
                    have nl0 := sg_nb1_le x1 0
                    have hnb : sg_nb x1 = sg_nb1 x1 24 + sg_nb1 x1 16 + sg_nb1 x1 8 + sg_nb1 x1 0 := rfl
                    have hG := kv_weak (u' := (u + sg_nb x1)) hG (by omega)
                    exact sg_vret2 X hr hlk hS (fun t ht hW => sg_post hb hK hC hG hS ht hW) dX12_put_49
                  · exact ((iv_no (iv_le (b' := (-8)) (iv_ge_of c101) (iv_c 0 (a := 0) (b := 0) (by decide +kernel)) (iv_add (a' := (-8)) (b' := (-8)) ey100 (iv_add (a' := 0) (b' := 0) ey89 (iv_add (a' := 8) (b' := 8) ey63 (iv_add (a' := 16) (b' := 16) ey11 (iv_c 24 (a := 24) (b := 24) (by decide +kernel)) (iv_c _ (a := (-8)) (b := (-8)) (by decide +kernel)) (by decide +kernel)) (iv_c _ (a := (-8)) (b := (-8)) (by decide +kernel)) (by decide +kernel)) (iv_c _ (a := (-8)) (b := (-8)) (by decide +kernel)) (by decide +kernel)) (iv_c _ (a := (-8)) (b := (-8)) (by decide +kernel)) (by decide +kernel)) (by decide +kernel)) (by decide +kernel))).elim
                · refine lv_goto (tgt := 43) X.1 X.2.1 dX12_put_17 (by decide) ?_
                  obtain ⟨y102, ey102⟩ : ∃ y : Int32, y = y89 + Int32.ofInt (-8) := ⟨_, rfl⟩
                  refine lv_iinc (v := y102) (lv' := [(2, .int y102), (0, .ref a0), (1, .int x1)]) X.1 X.2.1 dX12_put_43 hl (k := 0) rfl ey102.symm (by decide) rfl (fun ls hl => ?_)
                  refine lv_goto (tgt := 3) X.1 X.2.1 dX12_put_46 (by decide) ?_
                  refine lv_iload_n X.1 X.2.1 dX12_put_3 rfl (lv_at hl 0 rfl) ?_
                  refine lv_if_lt (tgt := 49) X.1 X.2.1 dX12_put_4 (by decide) (fun c103 => ?_) (fun c103 => ?_)
                  · have nb24 := sg_nbq ef2 ef3 (sg_kc (24) (iv_c 24 (a := 24) (b := 24) (by decide +kernel)) (by decide +kernel)) c4
                    have nb16 := sg_nbp ef13 ef14 (sg_kc (16) (iv_add (a' := 16) (b' := 16) ey11 (iv_c 24 (a := 24) (b := 24) (by decide +kernel)) (iv_c _ (a := (-8)) (b := (-8)) (by decide +kernel)) (by decide +kernel)) (by decide +kernel)) c15
                    have nb8 := sg_nbp ef65 ef66 (sg_kc (8) (iv_add (a' := 8) (b' := 8) ey63 (iv_add (a' := 16) (b' := 16) ey11 (iv_c 24 (a := 24) (b := 24) (by decide +kernel)) (iv_c _ (a := (-8)) (b := (-8)) (by decide +kernel)) (by decide +kernel)) (iv_c _ (a := (-8)) (b := (-8)) (by decide +kernel)) (by decide +kernel)) (by decide +kernel)) c67
                    have nb0 := sg_nbp ef91 ef92 (sg_kc (0) (iv_add (a' := 0) (b' := 0) ey89 (iv_add (a' := 8) (b' := 8) ey63 (iv_add (a' := 16) (b' := 16) ey11 (iv_c 24 (a := 24) (b := 24) (by decide +kernel)) (iv_c _ (a := (-8)) (b := (-8)) (by decide +kernel)) (by decide +kernel)) (iv_c _ (a := (-8)) (b := (-8)) (by decide +kernel)) (by decide +kernel)) (iv_c _ (a := (-8)) (b := (-8)) (by decide +kernel)) (by decide +kernel)) (by decide +kernel)) c93
                    have nl24 := sg_nb1_le x1 24
                    have nl16 := sg_nb1_le x1 16
                    have nl8 := sg_nb1_le x1 8
                    have nl0 := sg_nb1_le x1 0
                    have hnb : sg_nb x1 = sg_nb1 x1 24 + sg_nb1 x1 16 + sg_nb1 x1 8 + sg_nb1 x1 0 := rfl
                    have hG := kv_weak (u' := (u + sg_nb x1)) hG (by omega)
                    exact sg_vret2 X hr hlk hS (fun t ht hW => sg_post hb hK hC hG hS ht hW) dX12_put_49
                  · exact ((iv_no (iv_le (b' := (-8)) (iv_ge_of c103) (iv_c 0 (a := 0) (b := 0) (by decide +kernel)) (iv_add (a' := (-8)) (b' := (-8)) ey102 (iv_add (a' := 0) (b' := 0) ey89 (iv_add (a' := 8) (b' := 8) ey63 (iv_add (a' := 16) (b' := 16) ey11 (iv_c 24 (a := 24) (b := 24) (by decide +kernel)) (iv_c _ (a := (-8)) (b := (-8)) (by decide +kernel)) (by decide +kernel)) (iv_c _ (a := (-8)) (b := (-8)) (by decide +kernel)) (by decide +kernel)) (iv_c _ (a := (-8)) (b := (-8)) (by decide +kernel)) (by decide +kernel)) (iv_c _ (a := (-8)) (b := (-8)) (by decide +kernel)) (by decide +kernel)) (by decide +kernel)) (by decide +kernel))).elim
    · refine lv_goto (tgt := 43) X.1 X.2.1 dX12_put_17 (by decide) ?_
      obtain ⟨y104, ey104⟩ : ∃ y : Int32, y = 24 + Int32.ofInt (-8) := ⟨_, rfl⟩
      refine lv_iinc (v := y104) (lv' := [(2, .int y104), (0, .ref a0), (1, .int x1)]) X.1 X.2.1 dX12_put_43 hl (k := 0) rfl ey104.symm (by decide) rfl (fun ls hl => ?_)
      refine lv_goto (tgt := 3) X.1 X.2.1 dX12_put_46 (by decide) ?_
      refine lv_iload_n X.1 X.2.1 dX12_put_3 rfl (lv_at hl 0 rfl) ?_
      refine lv_if_lt (tgt := 49) X.1 X.2.1 dX12_put_4 (by decide) (fun c105 => ?_) (fun c105 => ?_)
      · exact ((iv_no (iv_lt (b' := (-1)) c105 (iv_add (a' := 16) (b' := 16) ey104 (iv_c 24 (a := 24) (b := 24) (by decide +kernel)) (iv_c _ (a := (-8)) (b := (-8)) (by decide +kernel)) (by decide +kernel)) (iv_c 0 (a := 0) (b := 0) (by decide +kernel)) (by decide +kernel)) (by decide +kernel))).elim
      · refine lv_iload_n X.1 X.2.1 dX12_put_7 rfl (lv_at hl 2 rfl) ?_
        refine lv_iload_n X.1 X.2.1 dX12_put_8 rfl (lv_at hl 0 rfl) ?_
        refine lv_ishr X.1 X.2.1 dX12_put_9 ?_
        refine lv_topi (fun f106 ef106 => ?_)
        refine lv_sipush (v := 255) X.1 X.2.1 dX12_put_10 (by decide +kernel) ?_
        refine lv_iand X.1 X.2.1 dX12_put_13 ?_
        refine lv_topi (fun f107 ef107 => ?_)
        refine lv_if_ne (tgt := 20) X.1 X.2.1 dX12_put_14 (by decide) (fun c108 => ?_) (fun c108 => ?_)
        · refine lv_aload_n X.1 X.2.1 dX12_put_20 rfl (lv_at hl 1 rfl) ?_
          refine gf_X12_1v X hK hG h0 wl_6_179 dX12_put_21 (fun q109 hq109 kq109 => ?_)
          refine lv_aload_n X.1 X.2.1 dX12_put_24 rfl (lv_at hl 1 rfl) ?_
          refine gf_X12_6v X hK hG h0 wl_6_184 dX12_put_25 (fun f110 hf110 kf110 => ?_)
          have ⟨laf110, uaf110⟩ : 0 ≤ f110.toInt ∧ f110.toInt ≤ u := hf110
          have nb24 := sg_nbp ef2 ef3 (sg_kc (24) (iv_c 24 (a := 24) (b := 24) (by decide +kernel)) (by decide +kernel)) c4
          have nb16 := sg_nbq ef106 ef107 (sg_kc (16) (iv_add (a' := 16) (b' := 16) ey104 (iv_c 24 (a := 24) (b := 24) (by decide +kernel)) (iv_c _ (a := (-8)) (b := (-8)) (by decide +kernel)) (by decide +kernel)) (by decide +kernel)) c108
          have nl24 := sg_nb1_le x1 24
          have nl16 := sg_nb1_le x1 16
          have nl8 := sg_nb1_le x1 8
          have nl0 := sg_nb1_le x1 0
          have hnb : sg_nb x1 = sg_nb1 x1 24 + sg_nb1 x1 16 + sg_nb1 x1 8 + sg_nb1 x1 0 := rfl
          have hf110 : iv 0 239 f110 := ⟨by omega, by omega⟩
          refine lv_iload_n X.1 X.2.1 dX12_put_28 rfl (lv_at hl 2 rfl) ?_
          refine lv_iload_n X.1 X.2.1 dX12_put_29 rfl (lv_at hl 0 rfl) ?_
          refine lv_ishr X.1 X.2.1 dX12_put_30 ?_
          refine lv_topi (fun f111 ef111 => ?_)
          obtain ⟨f112, ef112⟩ : ∃ y : Int32, y = (f111 : Int32).toInt8.toInt32 := ⟨_, rfl⟩
          refine lv_i2b (v := f112) X.1 X.2.1 dX12_put_31 ef112.symm ?_
          refine as_45v X hK hG hS hq109 (iv_vpin hf110 (by decide +kernel)) ⟨_, rfl, (iv_top _)⟩ dX12_put_32 (fun H locs hG hS ru113 => ?_)
          refine lv_aload_n X.1 X.2.1 dX12_put_33 rfl (lv_at hl 1 rfl) ?_
          refine lv_dup X.1 X.2.1 dX12_put_34 rfl ?_
          refine gg_X12_6v X hK hG h0 wl_6_184 (ru113 _ _ _ _ _ _ _ h0 rfl rfl (by decide) (fun z => z.elim) kf110) dX12_put_35 ?_
          refine lv_iconst (v := 1) X.1 X.2.1 dX12_put_38 (by decide +kernel) ?_
          refine lv_iadd X.1 X.2.1 dX12_put_39 ?_
          refine lv_topi (fun f114 ef114 => ?_)
          have sf114 : f114.toInt = f110.toInt + 1 := sg_inc (k := 1) ef114 hf110 (by decide +kernel)
          refine pf_X12_6V (u2 := (u + 1)) X hK hG hS h0 wl_6_184 ⟨_, rfl, by omega, by omega⟩ dX12_put_40 (fun H locs hG hS => ?_)
          obtain ⟨y115, ey115⟩ : ∃ y : Int32, y = y104 + Int32.ofInt (-8) := ⟨_, rfl⟩
          refine lv_iinc (v := y115) (lv' := [(2, .int y115), (0, .ref a0), (1, .int x1)]) X.1 X.2.1 dX12_put_43 hl (k := 0) rfl ey115.symm (by decide) rfl (fun ls hl => ?_)
          refine lv_goto (tgt := 3) X.1 X.2.1 dX12_put_46 (by decide) ?_
          refine lv_iload_n X.1 X.2.1 dX12_put_3 rfl (lv_at hl 0 rfl) ?_
          refine lv_if_lt (tgt := 49) X.1 X.2.1 dX12_put_4 (by decide) (fun c116 => ?_) (fun c116 => ?_)
          · exact ((iv_no (iv_lt (b' := (-1)) c116 (iv_add (a' := 8) (b' := 8) ey115 (iv_add (a' := 16) (b' := 16) ey104 (iv_c 24 (a := 24) (b := 24) (by decide +kernel)) (iv_c _ (a := (-8)) (b := (-8)) (by decide +kernel)) (by decide +kernel)) (iv_c _ (a := (-8)) (b := (-8)) (by decide +kernel)) (by decide +kernel)) (iv_c 0 (a := 0) (b := 0) (by decide +kernel)) (by decide +kernel)) (by decide +kernel))).elim
          · refine lv_iload_n X.1 X.2.1 dX12_put_7 rfl (lv_at hl 2 rfl) ?_
            refine lv_iload_n X.1 X.2.1 dX12_put_8 rfl (lv_at hl 0 rfl) ?_
            refine lv_ishr X.1 X.2.1 dX12_put_9 ?_
            refine lv_topi (fun f117 ef117 => ?_)
            refine lv_sipush (v := 255) X.1 X.2.1 dX12_put_10 (by decide +kernel) ?_
            refine lv_iand X.1 X.2.1 dX12_put_13 ?_
            refine lv_topi (fun f118 ef118 => ?_)
            refine lv_if_ne (tgt := 20) X.1 X.2.1 dX12_put_14 (by decide) (fun c119 => ?_) (fun c119 => ?_)
            · refine lv_aload_n X.1 X.2.1 dX12_put_20 rfl (lv_at hl 1 rfl) ?_
              refine gf_X12_1v X hK hG h0 wl_6_179 dX12_put_21 (fun q120 hq120 kq120 => ?_)
              refine lv_aload_n X.1 X.2.1 dX12_put_24 rfl (lv_at hl 1 rfl) ?_
              refine gf_X12_6v X hK hG h0 wl_6_184 dX12_put_25 (fun f121 hf121 kf121 => ?_)
              have ⟨laf121, uaf121⟩ : 0 ≤ f121.toInt ∧ f121.toInt ≤ (u + 1) := hf121
              have nb24 := sg_nbp ef2 ef3 (sg_kc (24) (iv_c 24 (a := 24) (b := 24) (by decide +kernel)) (by decide +kernel)) c4
              have nb16 := sg_nbq ef106 ef107 (sg_kc (16) (iv_add (a' := 16) (b' := 16) ey104 (iv_c 24 (a := 24) (b := 24) (by decide +kernel)) (iv_c _ (a := (-8)) (b := (-8)) (by decide +kernel)) (by decide +kernel)) (by decide +kernel)) c108
              have nb8 := sg_nbq ef117 ef118 (sg_kc (8) (iv_add (a' := 8) (b' := 8) ey115 (iv_add (a' := 16) (b' := 16) ey104 (iv_c 24 (a := 24) (b := 24) (by decide +kernel)) (iv_c _ (a := (-8)) (b := (-8)) (by decide +kernel)) (by decide +kernel)) (iv_c _ (a := (-8)) (b := (-8)) (by decide +kernel)) (by decide +kernel)) (by decide +kernel)) c119
              have nl24 := sg_nb1_le x1 24
              have nl16 := sg_nb1_le x1 16
              have nl8 := sg_nb1_le x1 8
              have nl0 := sg_nb1_le x1 0
              have hnb : sg_nb x1 = sg_nb1 x1 24 + sg_nb1 x1 16 + sg_nb1 x1 8 + sg_nb1 x1 0 := rfl
              have hf121 : iv 0 239 f121 := ⟨by omega, by omega⟩
              refine lv_iload_n X.1 X.2.1 dX12_put_28 rfl (lv_at hl 2 rfl) ?_
              refine lv_iload_n X.1 X.2.1 dX12_put_29 rfl (lv_at hl 0 rfl) ?_
              refine lv_ishr X.1 X.2.1 dX12_put_30 ?_
              refine lv_topi (fun f122 ef122 => ?_)
              obtain ⟨f123, ef123⟩ : ∃ y : Int32, y = (f122 : Int32).toInt8.toInt32 := ⟨_, rfl⟩
              refine lv_i2b (v := f123) X.1 X.2.1 dX12_put_31 ef123.symm ?_
              refine as_45v X hK hG hS hq120 (iv_vpin hf121 (by decide +kernel)) ⟨_, rfl, (iv_top _)⟩ dX12_put_32 (fun H locs hG hS ru124 => ?_)
              refine lv_aload_n X.1 X.2.1 dX12_put_33 rfl (lv_at hl 1 rfl) ?_
              refine lv_dup X.1 X.2.1 dX12_put_34 rfl ?_
              refine gg_X12_6v X hK hG h0 wl_6_184 (ru124 _ _ _ _ _ _ _ h0 rfl rfl (by decide) (fun z => z.elim) kf121) dX12_put_35 ?_
              refine lv_iconst (v := 1) X.1 X.2.1 dX12_put_38 (by decide +kernel) ?_
              refine lv_iadd X.1 X.2.1 dX12_put_39 ?_
              refine lv_topi (fun f125 ef125 => ?_)
              have sf125 : f125.toInt = f121.toInt + 1 := sg_inc (k := 1) ef125 hf121 (by decide +kernel)
              refine pf_X12_6V (u2 := ((u + 1) + 1)) X hK hG hS h0 wl_6_184 ⟨_, rfl, by omega, by omega⟩ dX12_put_40 (fun H locs hG hS => ?_)
              obtain ⟨y126, ey126⟩ : ∃ y : Int32, y = y115 + Int32.ofInt (-8) := ⟨_, rfl⟩
              refine lv_iinc (v := y126) (lv' := [(2, .int y126), (0, .ref a0), (1, .int x1)]) X.1 X.2.1 dX12_put_43 hl (k := 0) rfl ey126.symm (by decide) rfl (fun ls hl => ?_)
              refine lv_goto (tgt := 3) X.1 X.2.1 dX12_put_46 (by decide) ?_
              refine lv_iload_n X.1 X.2.1 dX12_put_3 rfl (lv_at hl 0 rfl) ?_
              refine lv_if_lt (tgt := 49) X.1 X.2.1 dX12_put_4 (by decide) (fun c127 => ?_) (fun c127 => ?_)
              · exact ((iv_no (iv_lt (b' := (-1)) c127 (iv_add (a' := 0) (b' := 0) ey126 (iv_add (a' := 8) (b' := 8) ey115 (iv_add (a' := 16) (b' := 16) ey104 (iv_c 24 (a := 24) (b := 24) (by decide +kernel)) (iv_c _ (a := (-8)) (b := (-8)) (by decide +kernel)) (by decide +kernel)) (iv_c _ (a := (-8)) (b := (-8)) (by decide +kernel)) (by decide +kernel)) (iv_c _ (a := (-8)) (b := (-8)) (by decide +kernel)) (by decide +kernel)) (iv_c 0 (a := 0) (b := 0) (by decide +kernel)) (by decide +kernel)) (by decide +kernel))).elim
              · refine lv_iload_n X.1 X.2.1 dX12_put_7 rfl (lv_at hl 2 rfl) ?_
                refine lv_iload_n X.1 X.2.1 dX12_put_8 rfl (lv_at hl 0 rfl) ?_
                refine lv_ishr X.1 X.2.1 dX12_put_9 ?_
                refine lv_topi (fun f128 ef128 => ?_)
                refine lv_sipush (v := 255) X.1 X.2.1 dX12_put_10 (by decide +kernel) ?_
                refine lv_iand X.1 X.2.1 dX12_put_13 ?_
                refine lv_topi (fun f129 ef129 => ?_)
                refine lv_if_ne (tgt := 20) X.1 X.2.1 dX12_put_14 (by decide) (fun c130 => ?_) (fun c130 => ?_)
                · refine lv_aload_n X.1 X.2.1 dX12_put_20 rfl (lv_at hl 1 rfl) ?_
                  refine gf_X12_1v X hK hG h0 wl_6_179 dX12_put_21 (fun q131 hq131 kq131 => ?_)
                  refine lv_aload_n X.1 X.2.1 dX12_put_24 rfl (lv_at hl 1 rfl) ?_
                  refine gf_X12_6v X hK hG h0 wl_6_184 dX12_put_25 (fun f132 hf132 kf132 => ?_)
                  have ⟨laf132, uaf132⟩ : 0 ≤ f132.toInt ∧ f132.toInt ≤ ((u + 1) + 1) := hf132
                  have nb24 := sg_nbp ef2 ef3 (sg_kc (24) (iv_c 24 (a := 24) (b := 24) (by decide +kernel)) (by decide +kernel)) c4
                  have nb16 := sg_nbq ef106 ef107 (sg_kc (16) (iv_add (a' := 16) (b' := 16) ey104 (iv_c 24 (a := 24) (b := 24) (by decide +kernel)) (iv_c _ (a := (-8)) (b := (-8)) (by decide +kernel)) (by decide +kernel)) (by decide +kernel)) c108
                  have nb8 := sg_nbq ef117 ef118 (sg_kc (8) (iv_add (a' := 8) (b' := 8) ey115 (iv_add (a' := 16) (b' := 16) ey104 (iv_c 24 (a := 24) (b := 24) (by decide +kernel)) (iv_c _ (a := (-8)) (b := (-8)) (by decide +kernel)) (by decide +kernel)) (iv_c _ (a := (-8)) (b := (-8)) (by decide +kernel)) (by decide +kernel)) (by decide +kernel)) c119
                  have nb0 := sg_nbq ef128 ef129 (sg_kc (0) (iv_add (a' := 0) (b' := 0) ey126 (iv_add (a' := 8) (b' := 8) ey115 (iv_add (a' := 16) (b' := 16) ey104 (iv_c 24 (a := 24) (b := 24) (by decide +kernel)) (iv_c _ (a := (-8)) (b := (-8)) (by decide +kernel)) (by decide +kernel)) (iv_c _ (a := (-8)) (b := (-8)) (by decide +kernel)) (by decide +kernel)) (iv_c _ (a := (-8)) (b := (-8)) (by decide +kernel)) (by decide +kernel)) (by decide +kernel)) c130
                  have nl24 := sg_nb1_le x1 24
                  have nl16 := sg_nb1_le x1 16
                  have nl8 := sg_nb1_le x1 8
                  have nl0 := sg_nb1_le x1 0
                  have hnb : sg_nb x1 = sg_nb1 x1 24 + sg_nb1 x1 16 + sg_nb1 x1 8 + sg_nb1 x1 0 := rfl
                  have hf132 : iv 0 239 f132 := ⟨by omega, by omega⟩
                  refine lv_iload_n X.1 X.2.1 dX12_put_28 rfl (lv_at hl 2 rfl) ?_
                  refine lv_iload_n X.1 X.2.1 dX12_put_29 rfl (lv_at hl 0 rfl) ?_
                  refine lv_ishr X.1 X.2.1 dX12_put_30 ?_
                  refine lv_topi (fun f133 ef133 => ?_)
                  obtain ⟨f134, ef134⟩ : ∃ y : Int32, y = (f133 : Int32).toInt8.toInt32 := ⟨_, rfl⟩
                  refine lv_i2b (v := f134) X.1 X.2.1 dX12_put_31 ef134.symm ?_
                  refine as_45v X hK hG hS hq131 (iv_vpin hf132 (by decide +kernel)) ⟨_, rfl, (iv_top _)⟩ dX12_put_32 (fun H locs hG hS ru135 => ?_)
                  refine lv_aload_n X.1 X.2.1 dX12_put_33 rfl (lv_at hl 1 rfl) ?_
                  refine lv_dup X.1 X.2.1 dX12_put_34 rfl ?_
                  refine gg_X12_6v X hK hG h0 wl_6_184 (ru135 _ _ _ _ _ _ _ h0 rfl rfl (by decide) (fun z => z.elim) kf132) dX12_put_35 ?_
                  refine lv_iconst (v := 1) X.1 X.2.1 dX12_put_38 (by decide +kernel) ?_
                  refine lv_iadd X.1 X.2.1 dX12_put_39 ?_
                  refine lv_topi (fun f136 ef136 => ?_)
                  have sf136 : f136.toInt = f132.toInt + 1 := sg_inc (k := 1) ef136 hf132 (by decide +kernel)
                  refine pf_X12_6V (u2 := (((u + 1) + 1) + 1)) X hK hG hS h0 wl_6_184 ⟨_, rfl, by omega, by omega⟩ dX12_put_40 (fun H locs hG hS => ?_)
                  obtain ⟨y137, ey137⟩ : ∃ y : Int32, y = y126 + Int32.ofInt (-8) := ⟨_, rfl⟩
                  refine lv_iinc (v := y137) (lv' := [(2, .int y137), (0, .ref a0), (1, .int x1)]) X.1 X.2.1 dX12_put_43 hl (k := 0) rfl ey137.symm (by decide) rfl (fun ls hl => ?_)
                  refine lv_goto (tgt := 3) X.1 X.2.1 dX12_put_46 (by decide) ?_
                  refine lv_iload_n X.1 X.2.1 dX12_put_3 rfl (lv_at hl 0 rfl) ?_
                  refine lv_if_lt (tgt := 49) X.1 X.2.1 dX12_put_4 (by decide) (fun c138 => ?_) (fun c138 => ?_)
                  · have nb24 := sg_nbp ef2 ef3 (sg_kc (24) (iv_c 24 (a := 24) (b := 24) (by decide +kernel)) (by decide +kernel)) c4
                    have nb16 := sg_nbq ef106 ef107 (sg_kc (16) (iv_add (a' := 16) (b' := 16) ey104 (iv_c 24 (a := 24) (b := 24) (by decide +kernel)) (iv_c _ (a := (-8)) (b := (-8)) (by decide +kernel)) (by decide +kernel)) (by decide +kernel)) c108
                    have nb8 := sg_nbq ef117 ef118 (sg_kc (8) (iv_add (a' := 8) (b' := 8) ey115 (iv_add (a' := 16) (b' := 16) ey104 (iv_c 24 (a := 24) (b := 24) (by decide +kernel)) (iv_c _ (a := (-8)) (b := (-8)) (by decide +kernel)) (by decide +kernel)) (iv_c _ (a := (-8)) (b := (-8)) (by decide +kernel)) (by decide +kernel)) (by decide +kernel)) c119
                    have nb0 := sg_nbq ef128 ef129 (sg_kc (0) (iv_add (a' := 0) (b' := 0) ey126 (iv_add (a' := 8) (b' := 8) ey115 (iv_add (a' := 16) (b' := 16) ey104 (iv_c 24 (a := 24) (b := 24) (by decide +kernel)) (iv_c _ (a := (-8)) (b := (-8)) (by decide +kernel)) (by decide +kernel)) (iv_c _ (a := (-8)) (b := (-8)) (by decide +kernel)) (by decide +kernel)) (iv_c _ (a := (-8)) (b := (-8)) (by decide +kernel)) (by decide +kernel)) (by decide +kernel)) c130
                    have nl24 := sg_nb1_le x1 24
                    have nl16 := sg_nb1_le x1 16
                    have nl8 := sg_nb1_le x1 8
                    have nl0 := sg_nb1_le x1 0
                    have hnb : sg_nb x1 = sg_nb1 x1 24 + sg_nb1 x1 16 + sg_nb1 x1 8 + sg_nb1 x1 0 := rfl
                    have hG := kv_weak (u' := (u + sg_nb x1)) hG (by omega)
                    exact sg_vret2 X hr hlk hS (fun t ht hW => sg_post hb hK hC hG hS ht hW) dX12_put_49
                  · exact ((iv_no (iv_le (b' := (-8)) (iv_ge_of c138) (iv_c 0 (a := 0) (b := 0) (by decide +kernel)) (iv_add (a' := (-8)) (b' := (-8)) ey137 (iv_add (a' := 0) (b' := 0) ey126 (iv_add (a' := 8) (b' := 8) ey115 (iv_add (a' := 16) (b' := 16) ey104 (iv_c 24 (a := 24) (b := 24) (by decide +kernel)) (iv_c _ (a := (-8)) (b := (-8)) (by decide +kernel)) (by decide +kernel)) (iv_c _ (a := (-8)) (b := (-8)) (by decide +kernel)) (by decide +kernel)) (iv_c _ (a := (-8)) (b := (-8)) (by decide +kernel)) (by decide +kernel)) (iv_c _ (a := (-8)) (b := (-8)) (by decide +kernel)) (by decide +kernel)) (by decide +kernel)) (by decide +kernel))).elim
                · refine lv_goto (tgt := 43) X.1 X.2.1 dX12_put_17 (by decide) ?_
                  obtain ⟨y139, ey139⟩ : ∃ y : Int32, y = y126 + Int32.ofInt (-8) := ⟨_, rfl⟩
                  refine lv_iinc (v := y139) (lv' := [(2, .int y139), (0, .ref a0), (1, .int x1)]) X.1 X.2.1 dX12_put_43 hl (k := 0) rfl ey139.symm (by decide) rfl (fun ls hl => ?_)
                  refine lv_goto (tgt := 3) X.1 X.2.1 dX12_put_46 (by decide) ?_
                  refine lv_iload_n X.1 X.2.1 dX12_put_3 rfl (lv_at hl 0 rfl) ?_
                  refine lv_if_lt (tgt := 49) X.1 X.2.1 dX12_put_4 (by decide) (fun c140 => ?_) (fun c140 => ?_)
                  · have nb24 := sg_nbp ef2 ef3 (sg_kc (24) (iv_c 24 (a := 24) (b := 24) (by decide +kernel)) (by decide +kernel)) c4
                    have nb16 := sg_nbq ef106 ef107 (sg_kc (16) (iv_add (a' := 16) (b' := 16) ey104 (iv_c 24 (a := 24) (b := 24) (by decide +kernel)) (iv_c _ (a := (-8)) (b := (-8)) (by decide +kernel)) (by decide +kernel)) (by decide +kernel)) c108
                    have nb8 := sg_nbq ef117 ef118 (sg_kc (8) (iv_add (a' := 8) (b' := 8) ey115 (iv_add (a' := 16) (b' := 16) ey104 (iv_c 24 (a := 24) (b := 24) (by decide +kernel)) (iv_c _ (a := (-8)) (b := (-8)) (by decide +kernel)) (by decide +kernel)) (iv_c _ (a := (-8)) (b := (-8)) (by decide +kernel)) (by decide +kernel)) (by decide +kernel)) c119
                    have nb0 := sg_nbp ef128 ef129 (sg_kc (0) (iv_add (a' := 0) (b' := 0) ey126 (iv_add (a' := 8) (b' := 8) ey115 (iv_add (a' := 16) (b' := 16) ey104 (iv_c 24 (a := 24) (b := 24) (by decide +kernel)) (iv_c _ (a := (-8)) (b := (-8)) (by decide +kernel)) (by decide +kernel)) (iv_c _ (a := (-8)) (b := (-8)) (by decide +kernel)) (by decide +kernel)) (iv_c _ (a := (-8)) (b := (-8)) (by decide +kernel)) (by decide +kernel)) (by decide +kernel)) c130
                    have nl24 := sg_nb1_le x1 24
                    have nl16 := sg_nb1_le x1 16
                    have nl8 := sg_nb1_le x1 8
                    have nl0 := sg_nb1_le x1 0
                    have hnb : sg_nb x1 = sg_nb1 x1 24 + sg_nb1 x1 16 + sg_nb1 x1 8 + sg_nb1 x1 0 := rfl
                    have hG := kv_weak (u' := (u + sg_nb x1)) hG (by omega)
                    exact sg_vret2 X hr hlk hS (fun t ht hW => sg_post hb hK hC hG hS ht hW) dX12_put_49
                  · exact ((iv_no (iv_le (b' := (-8)) (iv_ge_of c140) (iv_c 0 (a := 0) (b := 0) (by decide +kernel)) (iv_add (a' := (-8)) (b' := (-8)) ey139 (iv_add (a' := 0) (b' := 0) ey126 (iv_add (a' := 8) (b' := 8) ey115 (iv_add (a' := 16) (b' := 16) ey104 (iv_c 24 (a := 24) (b := 24) (by decide +kernel)) (iv_c _ (a := (-8)) (b := (-8)) (by decide +kernel)) (by decide +kernel)) (iv_c _ (a := (-8)) (b := (-8)) (by decide +kernel)) (by decide +kernel)) (iv_c _ (a := (-8)) (b := (-8)) (by decide +kernel)) (by decide +kernel)) (iv_c _ (a := (-8)) (b := (-8)) (by decide +kernel)) (by decide +kernel)) (by decide +kernel)) (by decide +kernel))).elim
            · refine lv_goto (tgt := 43) X.1 X.2.1 dX12_put_17 (by decide) ?_
              obtain ⟨y141, ey141⟩ : ∃ y : Int32, y = y115 + Int32.ofInt (-8) := ⟨_, rfl⟩
              refine lv_iinc (v := y141) (lv' := [(2, .int y141), (0, .ref a0), (1, .int x1)]) X.1 X.2.1 dX12_put_43 hl (k := 0) rfl ey141.symm (by decide) rfl (fun ls hl => ?_)
              refine lv_goto (tgt := 3) X.1 X.2.1 dX12_put_46 (by decide) ?_
              refine lv_iload_n X.1 X.2.1 dX12_put_3 rfl (lv_at hl 0 rfl) ?_
              refine lv_if_lt (tgt := 49) X.1 X.2.1 dX12_put_4 (by decide) (fun c142 => ?_) (fun c142 => ?_)
              · exact ((iv_no (iv_lt (b' := (-1)) c142 (iv_add (a' := 0) (b' := 0) ey141 (iv_add (a' := 8) (b' := 8) ey115 (iv_add (a' := 16) (b' := 16) ey104 (iv_c 24 (a := 24) (b := 24) (by decide +kernel)) (iv_c _ (a := (-8)) (b := (-8)) (by decide +kernel)) (by decide +kernel)) (iv_c _ (a := (-8)) (b := (-8)) (by decide +kernel)) (by decide +kernel)) (iv_c _ (a := (-8)) (b := (-8)) (by decide +kernel)) (by decide +kernel)) (iv_c 0 (a := 0) (b := 0) (by decide +kernel)) (by decide +kernel)) (by decide +kernel))).elim
              · refine lv_iload_n X.1 X.2.1 dX12_put_7 rfl (lv_at hl 2 rfl) ?_
                refine lv_iload_n X.1 X.2.1 dX12_put_8 rfl (lv_at hl 0 rfl) ?_
                refine lv_ishr X.1 X.2.1 dX12_put_9 ?_
                refine lv_topi (fun f143 ef143 => ?_)
                refine lv_sipush (v := 255) X.1 X.2.1 dX12_put_10 (by decide +kernel) ?_
                refine lv_iand X.1 X.2.1 dX12_put_13 ?_
                refine lv_topi (fun f144 ef144 => ?_)
                refine lv_if_ne (tgt := 20) X.1 X.2.1 dX12_put_14 (by decide) (fun c145 => ?_) (fun c145 => ?_)
                · refine lv_aload_n X.1 X.2.1 dX12_put_20 rfl (lv_at hl 1 rfl) ?_
                  refine gf_X12_1v X hK hG h0 wl_6_179 dX12_put_21 (fun q146 hq146 kq146 => ?_)
                  refine lv_aload_n X.1 X.2.1 dX12_put_24 rfl (lv_at hl 1 rfl) ?_
                  refine gf_X12_6v X hK hG h0 wl_6_184 dX12_put_25 (fun f147 hf147 kf147 => ?_)
                  have ⟨laf147, uaf147⟩ : 0 ≤ f147.toInt ∧ f147.toInt ≤ (u + 1) := hf147
                  have nb24 := sg_nbp ef2 ef3 (sg_kc (24) (iv_c 24 (a := 24) (b := 24) (by decide +kernel)) (by decide +kernel)) c4
                  have nb16 := sg_nbq ef106 ef107 (sg_kc (16) (iv_add (a' := 16) (b' := 16) ey104 (iv_c 24 (a := 24) (b := 24) (by decide +kernel)) (iv_c _ (a := (-8)) (b := (-8)) (by decide +kernel)) (by decide +kernel)) (by decide +kernel)) c108
                  have nb8 := sg_nbp ef117 ef118 (sg_kc (8) (iv_add (a' := 8) (b' := 8) ey115 (iv_add (a' := 16) (b' := 16) ey104 (iv_c 24 (a := 24) (b := 24) (by decide +kernel)) (iv_c _ (a := (-8)) (b := (-8)) (by decide +kernel)) (by decide +kernel)) (iv_c _ (a := (-8)) (b := (-8)) (by decide +kernel)) (by decide +kernel)) (by decide +kernel)) c119
                  have nb0 := sg_nbq ef143 ef144 (sg_kc (0) (iv_add (a' := 0) (b' := 0) ey141 (iv_add (a' := 8) (b' := 8) ey115 (iv_add (a' := 16) (b' := 16) ey104 (iv_c 24 (a := 24) (b := 24) (by decide +kernel)) (iv_c _ (a := (-8)) (b := (-8)) (by decide +kernel)) (by decide +kernel)) (iv_c _ (a := (-8)) (b := (-8)) (by decide +kernel)) (by decide +kernel)) (iv_c _ (a := (-8)) (b := (-8)) (by decide +kernel)) (by decide +kernel)) (by decide +kernel)) c145
                  have nl24 := sg_nb1_le x1 24
                  have nl16 := sg_nb1_le x1 16
                  have nl8 := sg_nb1_le x1 8
                  have nl0 := sg_nb1_le x1 0
                  have hnb : sg_nb x1 = sg_nb1 x1 24 + sg_nb1 x1 16 + sg_nb1 x1 8 + sg_nb1 x1 0 := rfl
                  have hf147 : iv 0 239 f147 := ⟨by omega, by omega⟩
                  refine lv_iload_n X.1 X.2.1 dX12_put_28 rfl (lv_at hl 2 rfl) ?_
                  refine lv_iload_n X.1 X.2.1 dX12_put_29 rfl (lv_at hl 0 rfl) ?_
                  refine lv_ishr X.1 X.2.1 dX12_put_30 ?_
                  refine lv_topi (fun f148 ef148 => ?_)
                  obtain ⟨f149, ef149⟩ : ∃ y : Int32, y = (f148 : Int32).toInt8.toInt32 := ⟨_, rfl⟩
                  refine lv_i2b (v := f149) X.1 X.2.1 dX12_put_31 ef149.symm ?_
                  refine as_45v X hK hG hS hq146 (iv_vpin hf147 (by decide +kernel)) ⟨_, rfl, (iv_top _)⟩ dX12_put_32 (fun H locs hG hS ru150 => ?_)
                  refine lv_aload_n X.1 X.2.1 dX12_put_33 rfl (lv_at hl 1 rfl) ?_
                  refine lv_dup X.1 X.2.1 dX12_put_34 rfl ?_
                  refine gg_X12_6v X hK hG h0 wl_6_184 (ru150 _ _ _ _ _ _ _ h0 rfl rfl (by decide) (fun z => z.elim) kf147) dX12_put_35 ?_
                  refine lv_iconst (v := 1) X.1 X.2.1 dX12_put_38 (by decide +kernel) ?_
                  refine lv_iadd X.1 X.2.1 dX12_put_39 ?_
                  refine lv_topi (fun f151 ef151 => ?_)
                  have sf151 : f151.toInt = f147.toInt + 1 := sg_inc (k := 1) ef151 hf147 (by decide +kernel)
                  refine pf_X12_6V (u2 := ((u + 1) + 1)) X hK hG hS h0 wl_6_184 ⟨_, rfl, by omega, by omega⟩ dX12_put_40 (fun H locs hG hS => ?_)
                  obtain ⟨y152, ey152⟩ : ∃ y : Int32, y = y141 + Int32.ofInt (-8) := ⟨_, rfl⟩
                  refine lv_iinc (v := y152) (lv' := [(2, .int y152), (0, .ref a0), (1, .int x1)]) X.1 X.2.1 dX12_put_43 hl (k := 0) rfl ey152.symm (by decide) rfl (fun ls hl => ?_)
                  refine lv_goto (tgt := 3) X.1 X.2.1 dX12_put_46 (by decide) ?_
                  refine lv_iload_n X.1 X.2.1 dX12_put_3 rfl (lv_at hl 0 rfl) ?_
                  refine lv_if_lt (tgt := 49) X.1 X.2.1 dX12_put_4 (by decide) (fun c153 => ?_) (fun c153 => ?_)
                  · have nb24 := sg_nbp ef2 ef3 (sg_kc (24) (iv_c 24 (a := 24) (b := 24) (by decide +kernel)) (by decide +kernel)) c4
                    have nb16 := sg_nbq ef106 ef107 (sg_kc (16) (iv_add (a' := 16) (b' := 16) ey104 (iv_c 24 (a := 24) (b := 24) (by decide +kernel)) (iv_c _ (a := (-8)) (b := (-8)) (by decide +kernel)) (by decide +kernel)) (by decide +kernel)) c108
                    have nb8 := sg_nbp ef117 ef118 (sg_kc (8) (iv_add (a' := 8) (b' := 8) ey115 (iv_add (a' := 16) (b' := 16) ey104 (iv_c 24 (a := 24) (b := 24) (by decide +kernel)) (iv_c _ (a := (-8)) (b := (-8)) (by decide +kernel)) (by decide +kernel)) (iv_c _ (a := (-8)) (b := (-8)) (by decide +kernel)) (by decide +kernel)) (by decide +kernel)) c119
                    have nb0 := sg_nbq ef143 ef144 (sg_kc (0) (iv_add (a' := 0) (b' := 0) ey141 (iv_add (a' := 8) (b' := 8) ey115 (iv_add (a' := 16) (b' := 16) ey104 (iv_c 24 (a := 24) (b := 24) (by decide +kernel)) (iv_c _ (a := (-8)) (b := (-8)) (by decide +kernel)) (by decide +kernel)) (iv_c _ (a := (-8)) (b := (-8)) (by decide +kernel)) (by decide +kernel)) (iv_c _ (a := (-8)) (b := (-8)) (by decide +kernel)) (by decide +kernel)) (by decide +kernel)) c145
                    have nl24 := sg_nb1_le x1 24
                    have nl16 := sg_nb1_le x1 16
                    have nl8 := sg_nb1_le x1 8
                    have nl0 := sg_nb1_le x1 0
                    have hnb : sg_nb x1 = sg_nb1 x1 24 + sg_nb1 x1 16 + sg_nb1 x1 8 + sg_nb1 x1 0 := rfl
                    have hG := kv_weak (u' := (u + sg_nb x1)) hG (by omega)
                    exact sg_vret2 X hr hlk hS (fun t ht hW => sg_post hb hK hC hG hS ht hW) dX12_put_49
                  · exact ((iv_no (iv_le (b' := (-8)) (iv_ge_of c153) (iv_c 0 (a := 0) (b := 0) (by decide +kernel)) (iv_add (a' := (-8)) (b' := (-8)) ey152 (iv_add (a' := 0) (b' := 0) ey141 (iv_add (a' := 8) (b' := 8) ey115 (iv_add (a' := 16) (b' := 16) ey104 (iv_c 24 (a := 24) (b := 24) (by decide +kernel)) (iv_c _ (a := (-8)) (b := (-8)) (by decide +kernel)) (by decide +kernel)) (iv_c _ (a := (-8)) (b := (-8)) (by decide +kernel)) (by decide +kernel)) (iv_c _ (a := (-8)) (b := (-8)) (by decide +kernel)) (by decide +kernel)) (iv_c _ (a := (-8)) (b := (-8)) (by decide +kernel)) (by decide +kernel)) (by decide +kernel)) (by decide +kernel))).elim
                · refine lv_goto (tgt := 43) X.1 X.2.1 dX12_put_17 (by decide) ?_
                  obtain ⟨y154, ey154⟩ : ∃ y : Int32, y = y141 + Int32.ofInt (-8) := ⟨_, rfl⟩
                  refine lv_iinc (v := y154) (lv' := [(2, .int y154), (0, .ref a0), (1, .int x1)]) X.1 X.2.1 dX12_put_43 hl (k := 0) rfl ey154.symm (by decide) rfl (fun ls hl => ?_)
                  refine lv_goto (tgt := 3) X.1 X.2.1 dX12_put_46 (by decide) ?_
                  refine lv_iload_n X.1 X.2.1 dX12_put_3 rfl (lv_at hl 0 rfl) ?_
                  refine lv_if_lt (tgt := 49) X.1 X.2.1 dX12_put_4 (by decide) (fun c155 => ?_) (fun c155 => ?_)
                  · have nb24 := sg_nbp ef2 ef3 (sg_kc (24) (iv_c 24 (a := 24) (b := 24) (by decide +kernel)) (by decide +kernel)) c4
                    have nb16 := sg_nbq ef106 ef107 (sg_kc (16) (iv_add (a' := 16) (b' := 16) ey104 (iv_c 24 (a := 24) (b := 24) (by decide +kernel)) (iv_c _ (a := (-8)) (b := (-8)) (by decide +kernel)) (by decide +kernel)) (by decide +kernel)) c108
                    have nb8 := sg_nbp ef117 ef118 (sg_kc (8) (iv_add (a' := 8) (b' := 8) ey115 (iv_add (a' := 16) (b' := 16) ey104 (iv_c 24 (a := 24) (b := 24) (by decide +kernel)) (iv_c _ (a := (-8)) (b := (-8)) (by decide +kernel)) (by decide +kernel)) (iv_c _ (a := (-8)) (b := (-8)) (by decide +kernel)) (by decide +kernel)) (by decide +kernel)) c119
                    have nb0 := sg_nbp ef143 ef144 (sg_kc (0) (iv_add (a' := 0) (b' := 0) ey141 (iv_add (a' := 8) (b' := 8) ey115 (iv_add (a' := 16) (b' := 16) ey104 (iv_c 24 (a := 24) (b := 24) (by decide +kernel)) (iv_c _ (a := (-8)) (b := (-8)) (by decide +kernel)) (by decide +kernel)) (iv_c _ (a := (-8)) (b := (-8)) (by decide +kernel)) (by decide +kernel)) (iv_c _ (a := (-8)) (b := (-8)) (by decide +kernel)) (by decide +kernel)) (by decide +kernel)) c145
                    have nl24 := sg_nb1_le x1 24
                    have nl16 := sg_nb1_le x1 16
                    have nl8 := sg_nb1_le x1 8
                    have nl0 := sg_nb1_le x1 0
                    have hnb : sg_nb x1 = sg_nb1 x1 24 + sg_nb1 x1 16 + sg_nb1 x1 8 + sg_nb1 x1 0 := rfl
                    have hG := kv_weak (u' := (u + sg_nb x1)) hG (by omega)
                    exact sg_vret2 X hr hlk hS (fun t ht hW => sg_post hb hK hC hG hS ht hW) dX12_put_49
                  · exact ((iv_no (iv_le (b' := (-8)) (iv_ge_of c155) (iv_c 0 (a := 0) (b := 0) (by decide +kernel)) (iv_add (a' := (-8)) (b' := (-8)) ey154 (iv_add (a' := 0) (b' := 0) ey141 (iv_add (a' := 8) (b' := 8) ey115 (iv_add (a' := 16) (b' := 16) ey104 (iv_c 24 (a := 24) (b := 24) (by decide +kernel)) (iv_c _ (a := (-8)) (b := (-8)) (by decide +kernel)) (by decide +kernel)) (iv_c _ (a := (-8)) (b := (-8)) (by decide +kernel)) (by decide +kernel)) (iv_c _ (a := (-8)) (b := (-8)) (by decide +kernel)) (by decide +kernel)) (iv_c _ (a := (-8)) (b := (-8)) (by decide +kernel)) (by decide +kernel)) (by decide +kernel)) (by decide +kernel))).elim
        · refine lv_goto (tgt := 43) X.1 X.2.1 dX12_put_17 (by decide) ?_
          obtain ⟨y156, ey156⟩ : ∃ y : Int32, y = y104 + Int32.ofInt (-8) := ⟨_, rfl⟩
          refine lv_iinc (v := y156) (lv' := [(2, .int y156), (0, .ref a0), (1, .int x1)]) X.1 X.2.1 dX12_put_43 hl (k := 0) rfl ey156.symm (by decide) rfl (fun ls hl => ?_)
          refine lv_goto (tgt := 3) X.1 X.2.1 dX12_put_46 (by decide) ?_
          refine lv_iload_n X.1 X.2.1 dX12_put_3 rfl (lv_at hl 0 rfl) ?_
          refine lv_if_lt (tgt := 49) X.1 X.2.1 dX12_put_4 (by decide) (fun c157 => ?_) (fun c157 => ?_)
          · exact ((iv_no (iv_lt (b' := (-1)) c157 (iv_add (a' := 8) (b' := 8) ey156 (iv_add (a' := 16) (b' := 16) ey104 (iv_c 24 (a := 24) (b := 24) (by decide +kernel)) (iv_c _ (a := (-8)) (b := (-8)) (by decide +kernel)) (by decide +kernel)) (iv_c _ (a := (-8)) (b := (-8)) (by decide +kernel)) (by decide +kernel)) (iv_c 0 (a := 0) (b := 0) (by decide +kernel)) (by decide +kernel)) (by decide +kernel))).elim
          · refine lv_iload_n X.1 X.2.1 dX12_put_7 rfl (lv_at hl 2 rfl) ?_
            refine lv_iload_n X.1 X.2.1 dX12_put_8 rfl (lv_at hl 0 rfl) ?_
            refine lv_ishr X.1 X.2.1 dX12_put_9 ?_
            refine lv_topi (fun f158 ef158 => ?_)
            refine lv_sipush (v := 255) X.1 X.2.1 dX12_put_10 (by decide +kernel) ?_
            refine lv_iand X.1 X.2.1 dX12_put_13 ?_
            refine lv_topi (fun f159 ef159 => ?_)
            refine lv_if_ne (tgt := 20) X.1 X.2.1 dX12_put_14 (by decide) (fun c160 => ?_) (fun c160 => ?_)
            · refine lv_aload_n X.1 X.2.1 dX12_put_20 rfl (lv_at hl 1 rfl) ?_
              refine gf_X12_1v X hK hG h0 wl_6_179 dX12_put_21 (fun q161 hq161 kq161 => ?_)
              refine lv_aload_n X.1 X.2.1 dX12_put_24 rfl (lv_at hl 1 rfl) ?_
              refine gf_X12_6v X hK hG h0 wl_6_184 dX12_put_25 (fun f162 hf162 kf162 => ?_)
              have ⟨laf162, uaf162⟩ : 0 ≤ f162.toInt ∧ f162.toInt ≤ u := hf162
              have nb24 := sg_nbp ef2 ef3 (sg_kc (24) (iv_c 24 (a := 24) (b := 24) (by decide +kernel)) (by decide +kernel)) c4
              have nb16 := sg_nbp ef106 ef107 (sg_kc (16) (iv_add (a' := 16) (b' := 16) ey104 (iv_c 24 (a := 24) (b := 24) (by decide +kernel)) (iv_c _ (a := (-8)) (b := (-8)) (by decide +kernel)) (by decide +kernel)) (by decide +kernel)) c108
              have nb8 := sg_nbq ef158 ef159 (sg_kc (8) (iv_add (a' := 8) (b' := 8) ey156 (iv_add (a' := 16) (b' := 16) ey104 (iv_c 24 (a := 24) (b := 24) (by decide +kernel)) (iv_c _ (a := (-8)) (b := (-8)) (by decide +kernel)) (by decide +kernel)) (iv_c _ (a := (-8)) (b := (-8)) (by decide +kernel)) (by decide +kernel)) (by decide +kernel)) c160
              have nl24 := sg_nb1_le x1 24
              have nl16 := sg_nb1_le x1 16
              have nl8 := sg_nb1_le x1 8
              have nl0 := sg_nb1_le x1 0
              have hnb : sg_nb x1 = sg_nb1 x1 24 + sg_nb1 x1 16 + sg_nb1 x1 8 + sg_nb1 x1 0 := rfl
              have hf162 : iv 0 239 f162 := ⟨by omega, by omega⟩
              refine lv_iload_n X.1 X.2.1 dX12_put_28 rfl (lv_at hl 2 rfl) ?_
              refine lv_iload_n X.1 X.2.1 dX12_put_29 rfl (lv_at hl 0 rfl) ?_
              refine lv_ishr X.1 X.2.1 dX12_put_30 ?_
              refine lv_topi (fun f163 ef163 => ?_)
              obtain ⟨f164, ef164⟩ : ∃ y : Int32, y = (f163 : Int32).toInt8.toInt32 := ⟨_, rfl⟩
              refine lv_i2b (v := f164) X.1 X.2.1 dX12_put_31 ef164.symm ?_
              refine as_45v X hK hG hS hq161 (iv_vpin hf162 (by decide +kernel)) ⟨_, rfl, (iv_top _)⟩ dX12_put_32 (fun H locs hG hS ru165 => ?_)
              refine lv_aload_n X.1 X.2.1 dX12_put_33 rfl (lv_at hl 1 rfl) ?_
              refine lv_dup X.1 X.2.1 dX12_put_34 rfl ?_
              refine gg_X12_6v X hK hG h0 wl_6_184 (ru165 _ _ _ _ _ _ _ h0 rfl rfl (by decide) (fun z => z.elim) kf162) dX12_put_35 ?_
              refine lv_iconst (v := 1) X.1 X.2.1 dX12_put_38 (by decide +kernel) ?_
              refine lv_iadd X.1 X.2.1 dX12_put_39 ?_
              refine lv_topi (fun f166 ef166 => ?_)
              have sf166 : f166.toInt = f162.toInt + 1 := sg_inc (k := 1) ef166 hf162 (by decide +kernel)
              refine pf_X12_6V (u2 := (u + 1)) X hK hG hS h0 wl_6_184 ⟨_, rfl, by omega, by omega⟩ dX12_put_40 (fun H locs hG hS => ?_)
              obtain ⟨y167, ey167⟩ : ∃ y : Int32, y = y156 + Int32.ofInt (-8) := ⟨_, rfl⟩
              refine lv_iinc (v := y167) (lv' := [(2, .int y167), (0, .ref a0), (1, .int x1)]) X.1 X.2.1 dX12_put_43 hl (k := 0) rfl ey167.symm (by decide) rfl (fun ls hl => ?_)
              refine lv_goto (tgt := 3) X.1 X.2.1 dX12_put_46 (by decide) ?_
              refine lv_iload_n X.1 X.2.1 dX12_put_3 rfl (lv_at hl 0 rfl) ?_
              refine lv_if_lt (tgt := 49) X.1 X.2.1 dX12_put_4 (by decide) (fun c168 => ?_) (fun c168 => ?_)
              · exact ((iv_no (iv_lt (b' := (-1)) c168 (iv_add (a' := 0) (b' := 0) ey167 (iv_add (a' := 8) (b' := 8) ey156 (iv_add (a' := 16) (b' := 16) ey104 (iv_c 24 (a := 24) (b := 24) (by decide +kernel)) (iv_c _ (a := (-8)) (b := (-8)) (by decide +kernel)) (by decide +kernel)) (iv_c _ (a := (-8)) (b := (-8)) (by decide +kernel)) (by decide +kernel)) (iv_c _ (a := (-8)) (b := (-8)) (by decide +kernel)) (by decide +kernel)) (iv_c 0 (a := 0) (b := 0) (by decide +kernel)) (by decide +kernel)) (by decide +kernel))).elim
              · refine lv_iload_n X.1 X.2.1 dX12_put_7 rfl (lv_at hl 2 rfl) ?_
                refine lv_iload_n X.1 X.2.1 dX12_put_8 rfl (lv_at hl 0 rfl) ?_
                refine lv_ishr X.1 X.2.1 dX12_put_9 ?_
                refine lv_topi (fun f169 ef169 => ?_)
                refine lv_sipush (v := 255) X.1 X.2.1 dX12_put_10 (by decide +kernel) ?_
                refine lv_iand X.1 X.2.1 dX12_put_13 ?_
                refine lv_topi (fun f170 ef170 => ?_)
                refine lv_if_ne (tgt := 20) X.1 X.2.1 dX12_put_14 (by decide) (fun c171 => ?_) (fun c171 => ?_)
                · refine lv_aload_n X.1 X.2.1 dX12_put_20 rfl (lv_at hl 1 rfl) ?_
                  refine gf_X12_1v X hK hG h0 wl_6_179 dX12_put_21 (fun q172 hq172 kq172 => ?_)
                  refine lv_aload_n X.1 X.2.1 dX12_put_24 rfl (lv_at hl 1 rfl) ?_
                  refine gf_X12_6v X hK hG h0 wl_6_184 dX12_put_25 (fun f173 hf173 kf173 => ?_)
                  have ⟨laf173, uaf173⟩ : 0 ≤ f173.toInt ∧ f173.toInt ≤ (u + 1) := hf173
                  have nb24 := sg_nbp ef2 ef3 (sg_kc (24) (iv_c 24 (a := 24) (b := 24) (by decide +kernel)) (by decide +kernel)) c4
                  have nb16 := sg_nbp ef106 ef107 (sg_kc (16) (iv_add (a' := 16) (b' := 16) ey104 (iv_c 24 (a := 24) (b := 24) (by decide +kernel)) (iv_c _ (a := (-8)) (b := (-8)) (by decide +kernel)) (by decide +kernel)) (by decide +kernel)) c108
                  have nb8 := sg_nbq ef158 ef159 (sg_kc (8) (iv_add (a' := 8) (b' := 8) ey156 (iv_add (a' := 16) (b' := 16) ey104 (iv_c 24 (a := 24) (b := 24) (by decide +kernel)) (iv_c _ (a := (-8)) (b := (-8)) (by decide +kernel)) (by decide +kernel)) (iv_c _ (a := (-8)) (b := (-8)) (by decide +kernel)) (by decide +kernel)) (by decide +kernel)) c160
                  have nb0 := sg_nbq ef169 ef170 (sg_kc (0) (iv_add (a' := 0) (b' := 0) ey167 (iv_add (a' := 8) (b' := 8) ey156 (iv_add (a' := 16) (b' := 16) ey104 (iv_c 24 (a := 24) (b := 24) (by decide +kernel)) (iv_c _ (a := (-8)) (b := (-8)) (by decide +kernel)) (by decide +kernel)) (iv_c _ (a := (-8)) (b := (-8)) (by decide +kernel)) (by decide +kernel)) (iv_c _ (a := (-8)) (b := (-8)) (by decide +kernel)) (by decide +kernel)) (by decide +kernel)) c171
                  have nl24 := sg_nb1_le x1 24
                  have nl16 := sg_nb1_le x1 16
                  have nl8 := sg_nb1_le x1 8
                  have nl0 := sg_nb1_le x1 0
                  have hnb : sg_nb x1 = sg_nb1 x1 24 + sg_nb1 x1 16 + sg_nb1 x1 8 + sg_nb1 x1 0 := rfl
                  have hf173 : iv 0 239 f173 := ⟨by omega, by omega⟩
                  refine lv_iload_n X.1 X.2.1 dX12_put_28 rfl (lv_at hl 2 rfl) ?_
                  refine lv_iload_n X.1 X.2.1 dX12_put_29 rfl (lv_at hl 0 rfl) ?_
                  refine lv_ishr X.1 X.2.1 dX12_put_30 ?_
                  refine lv_topi (fun f174 ef174 => ?_)
                  obtain ⟨f175, ef175⟩ : ∃ y : Int32, y = (f174 : Int32).toInt8.toInt32 := ⟨_, rfl⟩
                  refine lv_i2b (v := f175) X.1 X.2.1 dX12_put_31 ef175.symm ?_
                  refine as_45v X hK hG hS hq172 (iv_vpin hf173 (by decide +kernel)) ⟨_, rfl, (iv_top _)⟩ dX12_put_32 (fun H locs hG hS ru176 => ?_)
                  refine lv_aload_n X.1 X.2.1 dX12_put_33 rfl (lv_at hl 1 rfl) ?_
                  refine lv_dup X.1 X.2.1 dX12_put_34 rfl ?_
                  refine gg_X12_6v X hK hG h0 wl_6_184 (ru176 _ _ _ _ _ _ _ h0 rfl rfl (by decide) (fun z => z.elim) kf173) dX12_put_35 ?_
                  refine lv_iconst (v := 1) X.1 X.2.1 dX12_put_38 (by decide +kernel) ?_
                  refine lv_iadd X.1 X.2.1 dX12_put_39 ?_
                  refine lv_topi (fun f177 ef177 => ?_)
                  have sf177 : f177.toInt = f173.toInt + 1 := sg_inc (k := 1) ef177 hf173 (by decide +kernel)
                  refine pf_X12_6V (u2 := ((u + 1) + 1)) X hK hG hS h0 wl_6_184 ⟨_, rfl, by omega, by omega⟩ dX12_put_40 (fun H locs hG hS => ?_)
                  obtain ⟨y178, ey178⟩ : ∃ y : Int32, y = y167 + Int32.ofInt (-8) := ⟨_, rfl⟩
                  refine lv_iinc (v := y178) (lv' := [(2, .int y178), (0, .ref a0), (1, .int x1)]) X.1 X.2.1 dX12_put_43 hl (k := 0) rfl ey178.symm (by decide) rfl (fun ls hl => ?_)
                  refine lv_goto (tgt := 3) X.1 X.2.1 dX12_put_46 (by decide) ?_
                  refine lv_iload_n X.1 X.2.1 dX12_put_3 rfl (lv_at hl 0 rfl) ?_
                  refine lv_if_lt (tgt := 49) X.1 X.2.1 dX12_put_4 (by decide) (fun c179 => ?_) (fun c179 => ?_)
                  · have nb24 := sg_nbp ef2 ef3 (sg_kc (24) (iv_c 24 (a := 24) (b := 24) (by decide +kernel)) (by decide +kernel)) c4
                    have nb16 := sg_nbp ef106 ef107 (sg_kc (16) (iv_add (a' := 16) (b' := 16) ey104 (iv_c 24 (a := 24) (b := 24) (by decide +kernel)) (iv_c _ (a := (-8)) (b := (-8)) (by decide +kernel)) (by decide +kernel)) (by decide +kernel)) c108
                    have nb8 := sg_nbq ef158 ef159 (sg_kc (8) (iv_add (a' := 8) (b' := 8) ey156 (iv_add (a' := 16) (b' := 16) ey104 (iv_c 24 (a := 24) (b := 24) (by decide +kernel)) (iv_c _ (a := (-8)) (b := (-8)) (by decide +kernel)) (by decide +kernel)) (iv_c _ (a := (-8)) (b := (-8)) (by decide +kernel)) (by decide +kernel)) (by decide +kernel)) c160
                    have nb0 := sg_nbq ef169 ef170 (sg_kc (0) (iv_add (a' := 0) (b' := 0) ey167 (iv_add (a' := 8) (b' := 8) ey156 (iv_add (a' := 16) (b' := 16) ey104 (iv_c 24 (a := 24) (b := 24) (by decide +kernel)) (iv_c _ (a := (-8)) (b := (-8)) (by decide +kernel)) (by decide +kernel)) (iv_c _ (a := (-8)) (b := (-8)) (by decide +kernel)) (by decide +kernel)) (iv_c _ (a := (-8)) (b := (-8)) (by decide +kernel)) (by decide +kernel)) (by decide +kernel)) c171
                    have nl24 := sg_nb1_le x1 24
                    have nl16 := sg_nb1_le x1 16
                    have nl8 := sg_nb1_le x1 8
                    have nl0 := sg_nb1_le x1 0
                    have hnb : sg_nb x1 = sg_nb1 x1 24 + sg_nb1 x1 16 + sg_nb1 x1 8 + sg_nb1 x1 0 := rfl
                    have hG := kv_weak (u' := (u + sg_nb x1)) hG (by omega)
                    exact sg_vret2 X hr hlk hS (fun t ht hW => sg_post hb hK hC hG hS ht hW) dX12_put_49
                  · exact ((iv_no (iv_le (b' := (-8)) (iv_ge_of c179) (iv_c 0 (a := 0) (b := 0) (by decide +kernel)) (iv_add (a' := (-8)) (b' := (-8)) ey178 (iv_add (a' := 0) (b' := 0) ey167 (iv_add (a' := 8) (b' := 8) ey156 (iv_add (a' := 16) (b' := 16) ey104 (iv_c 24 (a := 24) (b := 24) (by decide +kernel)) (iv_c _ (a := (-8)) (b := (-8)) (by decide +kernel)) (by decide +kernel)) (iv_c _ (a := (-8)) (b := (-8)) (by decide +kernel)) (by decide +kernel)) (iv_c _ (a := (-8)) (b := (-8)) (by decide +kernel)) (by decide +kernel)) (iv_c _ (a := (-8)) (b := (-8)) (by decide +kernel)) (by decide +kernel)) (by decide +kernel)) (by decide +kernel))).elim
                · refine lv_goto (tgt := 43) X.1 X.2.1 dX12_put_17 (by decide) ?_
                  obtain ⟨y180, ey180⟩ : ∃ y : Int32, y = y167 + Int32.ofInt (-8) := ⟨_, rfl⟩
                  refine lv_iinc (v := y180) (lv' := [(2, .int y180), (0, .ref a0), (1, .int x1)]) X.1 X.2.1 dX12_put_43 hl (k := 0) rfl ey180.symm (by decide) rfl (fun ls hl => ?_)
                  refine lv_goto (tgt := 3) X.1 X.2.1 dX12_put_46 (by decide) ?_
                  refine lv_iload_n X.1 X.2.1 dX12_put_3 rfl (lv_at hl 0 rfl) ?_
                  refine lv_if_lt (tgt := 49) X.1 X.2.1 dX12_put_4 (by decide) (fun c181 => ?_) (fun c181 => ?_)
                  · have nb24 := sg_nbp ef2 ef3 (sg_kc (24) (iv_c 24 (a := 24) (b := 24) (by decide +kernel)) (by decide +kernel)) c4
                    have nb16 := sg_nbp ef106 ef107 (sg_kc (16) (iv_add (a' := 16) (b' := 16) ey104 (iv_c 24 (a := 24) (b := 24) (by decide +kernel)) (iv_c _ (a := (-8)) (b := (-8)) (by decide +kernel)) (by decide +kernel)) (by decide +kernel)) c108
                    have nb8 := sg_nbq ef158 ef159 (sg_kc (8) (iv_add (a' := 8) (b' := 8) ey156 (iv_add (a' := 16) (b' := 16) ey104 (iv_c 24 (a := 24) (b := 24) (by decide +kernel)) (iv_c _ (a := (-8)) (b := (-8)) (by decide +kernel)) (by decide +kernel)) (iv_c _ (a := (-8)) (b := (-8)) (by decide +kernel)) (by decide +kernel)) (by decide +kernel)) c160
                    have nb0 := sg_nbp ef169 ef170 (sg_kc (0) (iv_add (a' := 0) (b' := 0) ey167 (iv_add (a' := 8) (b' := 8) ey156 (iv_add (a' := 16) (b' := 16) ey104 (iv_c 24 (a := 24) (b := 24) (by decide +kernel)) (iv_c _ (a := (-8)) (b := (-8)) (by decide +kernel)) (by decide +kernel)) (iv_c _ (a := (-8)) (b := (-8)) (by decide +kernel)) (by decide +kernel)) (iv_c _ (a := (-8)) (b := (-8)) (by decide +kernel)) (by decide +kernel)) (by decide +kernel)) c171
                    have nl24 := sg_nb1_le x1 24
                    have nl16 := sg_nb1_le x1 16
                    have nl8 := sg_nb1_le x1 8
                    have nl0 := sg_nb1_le x1 0
                    have hnb : sg_nb x1 = sg_nb1 x1 24 + sg_nb1 x1 16 + sg_nb1 x1 8 + sg_nb1 x1 0 := rfl
                    have hG := kv_weak (u' := (u + sg_nb x1)) hG (by omega)
                    exact sg_vret2 X hr hlk hS (fun t ht hW => sg_post hb hK hC hG hS ht hW) dX12_put_49
                  · exact ((iv_no (iv_le (b' := (-8)) (iv_ge_of c181) (iv_c 0 (a := 0) (b := 0) (by decide +kernel)) (iv_add (a' := (-8)) (b' := (-8)) ey180 (iv_add (a' := 0) (b' := 0) ey167 (iv_add (a' := 8) (b' := 8) ey156 (iv_add (a' := 16) (b' := 16) ey104 (iv_c 24 (a := 24) (b := 24) (by decide +kernel)) (iv_c _ (a := (-8)) (b := (-8)) (by decide +kernel)) (by decide +kernel)) (iv_c _ (a := (-8)) (b := (-8)) (by decide +kernel)) (by decide +kernel)) (iv_c _ (a := (-8)) (b := (-8)) (by decide +kernel)) (by decide +kernel)) (iv_c _ (a := (-8)) (b := (-8)) (by decide +kernel)) (by decide +kernel)) (by decide +kernel)) (by decide +kernel))).elim
            · refine lv_goto (tgt := 43) X.1 X.2.1 dX12_put_17 (by decide) ?_
              obtain ⟨y182, ey182⟩ : ∃ y : Int32, y = y156 + Int32.ofInt (-8) := ⟨_, rfl⟩
              refine lv_iinc (v := y182) (lv' := [(2, .int y182), (0, .ref a0), (1, .int x1)]) X.1 X.2.1 dX12_put_43 hl (k := 0) rfl ey182.symm (by decide) rfl (fun ls hl => ?_)
              refine lv_goto (tgt := 3) X.1 X.2.1 dX12_put_46 (by decide) ?_
              refine lv_iload_n X.1 X.2.1 dX12_put_3 rfl (lv_at hl 0 rfl) ?_
              refine lv_if_lt (tgt := 49) X.1 X.2.1 dX12_put_4 (by decide) (fun c183 => ?_) (fun c183 => ?_)
              · exact ((iv_no (iv_lt (b' := (-1)) c183 (iv_add (a' := 0) (b' := 0) ey182 (iv_add (a' := 8) (b' := 8) ey156 (iv_add (a' := 16) (b' := 16) ey104 (iv_c 24 (a := 24) (b := 24) (by decide +kernel)) (iv_c _ (a := (-8)) (b := (-8)) (by decide +kernel)) (by decide +kernel)) (iv_c _ (a := (-8)) (b := (-8)) (by decide +kernel)) (by decide +kernel)) (iv_c _ (a := (-8)) (b := (-8)) (by decide +kernel)) (by decide +kernel)) (iv_c 0 (a := 0) (b := 0) (by decide +kernel)) (by decide +kernel)) (by decide +kernel))).elim
              · refine lv_iload_n X.1 X.2.1 dX12_put_7 rfl (lv_at hl 2 rfl) ?_
                refine lv_iload_n X.1 X.2.1 dX12_put_8 rfl (lv_at hl 0 rfl) ?_
                refine lv_ishr X.1 X.2.1 dX12_put_9 ?_
                refine lv_topi (fun f184 ef184 => ?_)
                refine lv_sipush (v := 255) X.1 X.2.1 dX12_put_10 (by decide +kernel) ?_
                refine lv_iand X.1 X.2.1 dX12_put_13 ?_
                refine lv_topi (fun f185 ef185 => ?_)
                refine lv_if_ne (tgt := 20) X.1 X.2.1 dX12_put_14 (by decide) (fun c186 => ?_) (fun c186 => ?_)
                · refine lv_aload_n X.1 X.2.1 dX12_put_20 rfl (lv_at hl 1 rfl) ?_
                  refine gf_X12_1v X hK hG h0 wl_6_179 dX12_put_21 (fun q187 hq187 kq187 => ?_)
                  refine lv_aload_n X.1 X.2.1 dX12_put_24 rfl (lv_at hl 1 rfl) ?_
                  refine gf_X12_6v X hK hG h0 wl_6_184 dX12_put_25 (fun f188 hf188 kf188 => ?_)
                  have ⟨laf188, uaf188⟩ : 0 ≤ f188.toInt ∧ f188.toInt ≤ u := hf188
                  have nb24 := sg_nbp ef2 ef3 (sg_kc (24) (iv_c 24 (a := 24) (b := 24) (by decide +kernel)) (by decide +kernel)) c4
                  have nb16 := sg_nbp ef106 ef107 (sg_kc (16) (iv_add (a' := 16) (b' := 16) ey104 (iv_c 24 (a := 24) (b := 24) (by decide +kernel)) (iv_c _ (a := (-8)) (b := (-8)) (by decide +kernel)) (by decide +kernel)) (by decide +kernel)) c108
                  have nb8 := sg_nbp ef158 ef159 (sg_kc (8) (iv_add (a' := 8) (b' := 8) ey156 (iv_add (a' := 16) (b' := 16) ey104 (iv_c 24 (a := 24) (b := 24) (by decide +kernel)) (iv_c _ (a := (-8)) (b := (-8)) (by decide +kernel)) (by decide +kernel)) (iv_c _ (a := (-8)) (b := (-8)) (by decide +kernel)) (by decide +kernel)) (by decide +kernel)) c160
                  have nb0 := sg_nbq ef184 ef185 (sg_kc (0) (iv_add (a' := 0) (b' := 0) ey182 (iv_add (a' := 8) (b' := 8) ey156 (iv_add (a' := 16) (b' := 16) ey104 (iv_c 24 (a := 24) (b := 24) (by decide +kernel)) (iv_c _ (a := (-8)) (b := (-8)) (by decide +kernel)) (by decide +kernel)) (iv_c _ (a := (-8)) (b := (-8)) (by decide +kernel)) (by decide +kernel)) (iv_c _ (a := (-8)) (b := (-8)) (by decide +kernel)) (by decide +kernel)) (by decide +kernel)) c186
                  have nl24 := sg_nb1_le x1 24
                  have nl16 := sg_nb1_le x1 16
                  have nl8 := sg_nb1_le x1 8
                  have nl0 := sg_nb1_le x1 0
                  have hnb : sg_nb x1 = sg_nb1 x1 24 + sg_nb1 x1 16 + sg_nb1 x1 8 + sg_nb1 x1 0 := rfl
                  have hf188 : iv 0 239 f188 := ⟨by omega, by omega⟩
                  refine lv_iload_n X.1 X.2.1 dX12_put_28 rfl (lv_at hl 2 rfl) ?_
                  refine lv_iload_n X.1 X.2.1 dX12_put_29 rfl (lv_at hl 0 rfl) ?_
                  refine lv_ishr X.1 X.2.1 dX12_put_30 ?_
                  refine lv_topi (fun f189 ef189 => ?_)
                  obtain ⟨f190, ef190⟩ : ∃ y : Int32, y = (f189 : Int32).toInt8.toInt32 := ⟨_, rfl⟩
                  refine lv_i2b (v := f190) X.1 X.2.1 dX12_put_31 ef190.symm ?_
                  refine as_45v X hK hG hS hq187 (iv_vpin hf188 (by decide +kernel)) ⟨_, rfl, (iv_top _)⟩ dX12_put_32 (fun H locs hG hS ru191 => ?_)
                  refine lv_aload_n X.1 X.2.1 dX12_put_33 rfl (lv_at hl 1 rfl) ?_
                  refine lv_dup X.1 X.2.1 dX12_put_34 rfl ?_
                  refine gg_X12_6v X hK hG h0 wl_6_184 (ru191 _ _ _ _ _ _ _ h0 rfl rfl (by decide) (fun z => z.elim) kf188) dX12_put_35 ?_
                  refine lv_iconst (v := 1) X.1 X.2.1 dX12_put_38 (by decide +kernel) ?_
                  refine lv_iadd X.1 X.2.1 dX12_put_39 ?_
                  refine lv_topi (fun f192 ef192 => ?_)
                  have sf192 : f192.toInt = f188.toInt + 1 := sg_inc (k := 1) ef192 hf188 (by decide +kernel)
                  refine pf_X12_6V (u2 := (u + 1)) X hK hG hS h0 wl_6_184 ⟨_, rfl, by omega, by omega⟩ dX12_put_40 (fun H locs hG hS => ?_)
                  obtain ⟨y193, ey193⟩ : ∃ y : Int32, y = y182 + Int32.ofInt (-8) := ⟨_, rfl⟩
                  refine lv_iinc (v := y193) (lv' := [(2, .int y193), (0, .ref a0), (1, .int x1)]) X.1 X.2.1 dX12_put_43 hl (k := 0) rfl ey193.symm (by decide) rfl (fun ls hl => ?_)
                  refine lv_goto (tgt := 3) X.1 X.2.1 dX12_put_46 (by decide) ?_
                  refine lv_iload_n X.1 X.2.1 dX12_put_3 rfl (lv_at hl 0 rfl) ?_
                  refine lv_if_lt (tgt := 49) X.1 X.2.1 dX12_put_4 (by decide) (fun c194 => ?_) (fun c194 => ?_)
                  · have nb24 := sg_nbp ef2 ef3 (sg_kc (24) (iv_c 24 (a := 24) (b := 24) (by decide +kernel)) (by decide +kernel)) c4
                    have nb16 := sg_nbp ef106 ef107 (sg_kc (16) (iv_add (a' := 16) (b' := 16) ey104 (iv_c 24 (a := 24) (b := 24) (by decide +kernel)) (iv_c _ (a := (-8)) (b := (-8)) (by decide +kernel)) (by decide +kernel)) (by decide +kernel)) c108
                    have nb8 := sg_nbp ef158 ef159 (sg_kc (8) (iv_add (a' := 8) (b' := 8) ey156 (iv_add (a' := 16) (b' := 16) ey104 (iv_c 24 (a := 24) (b := 24) (by decide +kernel)) (iv_c _ (a := (-8)) (b := (-8)) (by decide +kernel)) (by decide +kernel)) (iv_c _ (a := (-8)) (b := (-8)) (by decide +kernel)) (by decide +kernel)) (by decide +kernel)) c160
                    have nb0 := sg_nbq ef184 ef185 (sg_kc (0) (iv_add (a' := 0) (b' := 0) ey182 (iv_add (a' := 8) (b' := 8) ey156 (iv_add (a' := 16) (b' := 16) ey104 (iv_c 24 (a := 24) (b := 24) (by decide +kernel)) (iv_c _ (a := (-8)) (b := (-8)) (by decide +kernel)) (by decide +kernel)) (iv_c _ (a := (-8)) (b := (-8)) (by decide +kernel)) (by decide +kernel)) (iv_c _ (a := (-8)) (b := (-8)) (by decide +kernel)) (by decide +kernel)) (by decide +kernel)) c186
                    have nl24 := sg_nb1_le x1 24
                    have nl16 := sg_nb1_le x1 16
                    have nl8 := sg_nb1_le x1 8
                    have nl0 := sg_nb1_le x1 0
                    have hnb : sg_nb x1 = sg_nb1 x1 24 + sg_nb1 x1 16 + sg_nb1 x1 8 + sg_nb1 x1 0 := rfl
                    have hG := kv_weak (u' := (u + sg_nb x1)) hG (by omega)
                    exact sg_vret2 X hr hlk hS (fun t ht hW => sg_post hb hK hC hG hS ht hW) dX12_put_49
                  · exact ((iv_no (iv_le (b' := (-8)) (iv_ge_of c194) (iv_c 0 (a := 0) (b := 0) (by decide +kernel)) (iv_add (a' := (-8)) (b' := (-8)) ey193 (iv_add (a' := 0) (b' := 0) ey182 (iv_add (a' := 8) (b' := 8) ey156 (iv_add (a' := 16) (b' := 16) ey104 (iv_c 24 (a := 24) (b := 24) (by decide +kernel)) (iv_c _ (a := (-8)) (b := (-8)) (by decide +kernel)) (by decide +kernel)) (iv_c _ (a := (-8)) (b := (-8)) (by decide +kernel)) (by decide +kernel)) (iv_c _ (a := (-8)) (b := (-8)) (by decide +kernel)) (by decide +kernel)) (iv_c _ (a := (-8)) (b := (-8)) (by decide +kernel)) (by decide +kernel)) (by decide +kernel)) (by decide +kernel))).elim
                · refine lv_goto (tgt := 43) X.1 X.2.1 dX12_put_17 (by decide) ?_
                  obtain ⟨y195, ey195⟩ : ∃ y : Int32, y = y182 + Int32.ofInt (-8) := ⟨_, rfl⟩
                  refine lv_iinc (v := y195) (lv' := [(2, .int y195), (0, .ref a0), (1, .int x1)]) X.1 X.2.1 dX12_put_43 hl (k := 0) rfl ey195.symm (by decide) rfl (fun ls hl => ?_)
                  refine lv_goto (tgt := 3) X.1 X.2.1 dX12_put_46 (by decide) ?_
                  refine lv_iload_n X.1 X.2.1 dX12_put_3 rfl (lv_at hl 0 rfl) ?_
                  refine lv_if_lt (tgt := 49) X.1 X.2.1 dX12_put_4 (by decide) (fun c196 => ?_) (fun c196 => ?_)
                  · have nb24 := sg_nbp ef2 ef3 (sg_kc (24) (iv_c 24 (a := 24) (b := 24) (by decide +kernel)) (by decide +kernel)) c4
                    have nb16 := sg_nbp ef106 ef107 (sg_kc (16) (iv_add (a' := 16) (b' := 16) ey104 (iv_c 24 (a := 24) (b := 24) (by decide +kernel)) (iv_c _ (a := (-8)) (b := (-8)) (by decide +kernel)) (by decide +kernel)) (by decide +kernel)) c108
                    have nb8 := sg_nbp ef158 ef159 (sg_kc (8) (iv_add (a' := 8) (b' := 8) ey156 (iv_add (a' := 16) (b' := 16) ey104 (iv_c 24 (a := 24) (b := 24) (by decide +kernel)) (iv_c _ (a := (-8)) (b := (-8)) (by decide +kernel)) (by decide +kernel)) (iv_c _ (a := (-8)) (b := (-8)) (by decide +kernel)) (by decide +kernel)) (by decide +kernel)) c160
                    have nb0 := sg_nbp ef184 ef185 (sg_kc (0) (iv_add (a' := 0) (b' := 0) ey182 (iv_add (a' := 8) (b' := 8) ey156 (iv_add (a' := 16) (b' := 16) ey104 (iv_c 24 (a := 24) (b := 24) (by decide +kernel)) (iv_c _ (a := (-8)) (b := (-8)) (by decide +kernel)) (by decide +kernel)) (iv_c _ (a := (-8)) (b := (-8)) (by decide +kernel)) (by decide +kernel)) (iv_c _ (a := (-8)) (b := (-8)) (by decide +kernel)) (by decide +kernel)) (by decide +kernel)) c186
                    have nl24 := sg_nb1_le x1 24
                    have nl16 := sg_nb1_le x1 16
                    have nl8 := sg_nb1_le x1 8
                    have nl0 := sg_nb1_le x1 0
                    have hnb : sg_nb x1 = sg_nb1 x1 24 + sg_nb1 x1 16 + sg_nb1 x1 8 + sg_nb1 x1 0 := rfl
                    have hG := kv_weak (u' := (u + sg_nb x1)) hG (by omega)
                    exact sg_vret2 X hr hlk hS (fun t ht hW => sg_post hb hK hC hG hS ht hW) dX12_put_49
                  · exact ((iv_no (iv_le (b' := (-8)) (iv_ge_of c196) (iv_c 0 (a := 0) (b := 0) (by decide +kernel)) (iv_add (a' := (-8)) (b' := (-8)) ey195 (iv_add (a' := 0) (b' := 0) ey182 (iv_add (a' := 8) (b' := 8) ey156 (iv_add (a' := 16) (b' := 16) ey104 (iv_c 24 (a := 24) (b := 24) (by decide +kernel)) (iv_c _ (a := (-8)) (b := (-8)) (by decide +kernel)) (by decide +kernel)) (iv_c _ (a := (-8)) (b := (-8)) (by decide +kernel)) (by decide +kernel)) (iv_c _ (a := (-8)) (b := (-8)) (by decide +kernel)) (by decide +kernel)) (iv_c _ (a := (-8)) (b := (-8)) (by decide +kernel)) (by decide +kernel)) (by decide +kernel)) (by decide +kernel))).elim

theorem ca_X12_put  {u : Int}  (X : CallFix p m c cc nL s args sg_tbl own) (hK : va_K D vwCl tys s) (hG : sgG (KV u P) D vwCl (fun q : Nat => base ≤ q) tys ad ks H) (hC : sgC base s) (hS : va_S (fun q : Nat => base ≤ q) s.heap H locs) (hb : base ≤ s.heap.size) (a0 : Nat) (h0 : isK ad ks 12 a0) (x1 : Int32) (hu : 0 ≤ u ∧ u + sg_nb x1 ≤ 240) (hl : Cond.methodLink own index yX12_put ∈ sg_tbl) (hsize : ls.size = nL) (hst : st0 = [.int x1].reverse ++ .ref a0 :: rest) (hW : (rest.map fun v => v.category).sum ≤ 8) (hR : 1 ≤ R.frames ∧ 22 ≤ R.locals) (hf : cells ≤ R.cells ∧ slots ≤ R.slots) (hdg : decode cc pc = .ok (.invokevirtual index, 3)) (kk : ∀ (t : State) (H1 : Heap) (locs1 : List Loc), t.heap = H1 → (sgB (KV (u + sg_nb x1) P) D vwCl base tys ad ks t) → va_S (fun q : Nat => base ≤ q) s.heap H1 locs1 → W p l e R s m args below meth c H1 locs1 cells slots Q (F0 m (pc + 3) ls rest)) : W p l e R s m args below meth c H locs cells slots Q (F0 m pc ls st0) :=
  sg_callV2v X hK hG hC hS hb (m_X12_put l a0 h0 x1 hu) h0 (k := 12) (ci := 12) rfl (C := RX12) (T := TX12) (N := 53) rfl wl_7_109 wl_1_13 wl_7_108 wl_0_48 (n := 1) (by decide +kernel) rfl rfl rfl hl hsize hst hW hR hf hdg kk
end
