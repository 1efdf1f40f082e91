abbrev cX12_layPart : ByteArray := prog_14_method_105_code
def yX12_layPart : MethodName := ⟨RX12, "layPart", "(I)V"⟩
theorem dX12_layPart_0 : decode cX12_layPart 0 = .ok (.aload_n 0, 1) := by decide +kernel
theorem dX12_layPart_1 : decode cX12_layPart 1 = .ok (.iconst 0, 1) := by decide +kernel
theorem dX12_layPart_2 : decode cX12_layPart 2 = .ok (.putfield 496, 3) := by decide +kernel
theorem dX12_layPart_5 : decode cX12_layPart 5 = .ok (.iconst 0, 1) := by decide +kernel
theorem dX12_layPart_6 : decode cX12_layPart 6 = .ok (.istore_n 2, 1) := by decide +kernel
theorem dX12_layPart_7 : decode cX12_layPart 7 = .ok (.iload_n 2, 1) := by decide +kernel
theorem dX12_layPart_8 : decode cX12_layPart 8 = .ok (.aload_n 0, 1) := by decide +kernel
theorem dX12_layPart_9 : decode cX12_layPart 9 = .ok (.getfield 302, 3) := by decide +kernel
theorem dX12_layPart_12 : decode cX12_layPart 12 = .ok (.if_icmp .ge 40, 3) := by decide +kernel
theorem dX12_layPart_15 : decode cX12_layPart 15 = .ok (.iload_n 1, 1) := by decide +kernel
theorem dX12_layPart_16 : decode cX12_layPart 16 = .ok (.iload_n 2, 1) := by decide +kernel
theorem dX12_layPart_17 : decode cX12_layPart 17 = .ok (.invokestatic 227, 3) := by decide +kernel
theorem dX12_layPart_20 : decode cX12_layPart 20 = .ok (.ifCond .ne 6, 3) := by decide +kernel
theorem dX12_layPart_23 : decode cX12_layPart 23 = .ok (.goto 23, 3) := by decide +kernel
theorem dX12_layPart_26 : decode cX12_layPart 26 = .ok (.aload_n 0, 1) := by decide +kernel
theorem dX12_layPart_27 : decode cX12_layPart 27 = .ok (.getfield 75, 3) := by decide +kernel
theorem dX12_layPart_30 : decode cX12_layPart 30 = .ok (.aload_n 0, 1) := by decide +kernel
theorem dX12_layPart_31 : decode cX12_layPart 31 = .ok (.getfield 496, 3) := by decide +kernel
theorem dX12_layPart_34 : decode cX12_layPart 34 = .ok (.iload_n 2, 1) := by decide +kernel
theorem dX12_layPart_35 : decode cX12_layPart 35 = .ok (.iastore, 1) := by decide +kernel
theorem dX12_layPart_36 : decode cX12_layPart 36 = .ok (.aload_n 0, 1) := by decide +kernel
theorem dX12_layPart_37 : decode cX12_layPart 37 = .ok (.dup, 1) := by decide +kernel
theorem dX12_layPart_38 : decode cX12_layPart 38 = .ok (.getfield 496, 3) := by decide +kernel
theorem dX12_layPart_41 : decode cX12_layPart 41 = .ok (.iconst 1, 1) := by decide +kernel
theorem dX12_layPart_42 : decode cX12_layPart 42 = .ok (.iadd, 1) := by decide +kernel
theorem dX12_layPart_43 : decode cX12_layPart 43 = .ok (.putfield 496, 3) := by decide +kernel
theorem dX12_layPart_46 : decode cX12_layPart 46 = .ok (.iinc 2 1, 3) := by decide +kernel
theorem dX12_layPart_49 : decode cX12_layPart 49 = .ok (.goto (-42), 3) := by decide +kernel
theorem dX12_layPart_52 : decode cX12_layPart 52 = .ok (.iconst 0, 1) := by decide +kernel
theorem dX12_layPart_53 : decode cX12_layPart 53 = .ok (.istore_n 2, 1) := by decide +kernel
theorem dX12_layPart_54 : decode cX12_layPart 54 = .ok (.iload_n 2, 1) := by decide +kernel
theorem dX12_layPart_55 : decode cX12_layPart 55 = .ok (.iconst 1, 1) := by decide +kernel
theorem dX12_layPart_56 : decode cX12_layPart 56 = .ok (.aload_n 0, 1) := by decide +kernel
theorem dX12_layPart_57 : decode cX12_layPart 57 = .ok (.getfield 496, 3) := by decide +kernel
theorem dX12_layPart_60 : decode cX12_layPart 60 = .ok (.ishl, 1) := by decide +kernel
theorem dX12_layPart_61 : decode cX12_layPart 61 = .ok (.if_icmp .ge 14, 3) := by decide +kernel
theorem dX12_layPart_64 : decode cX12_layPart 64 = .ok (.aload_n 0, 1) := by decide +kernel
theorem dX12_layPart_65 : decode cX12_layPart 65 = .ok (.iload_n 2, 1) := by decide +kernel
theorem dX12_layPart_66 : decode cX12_layPart 66 = .ok (.invokevirtual 499, 3) := by decide +kernel
theorem dX12_layPart_69 : decode cX12_layPart 69 = .ok (.iinc 2 1, 3) := by decide +kernel
theorem dX12_layPart_72 : decode cX12_layPart 72 = .ok (.goto (-18), 3) := by decide +kernel
theorem dX12_layPart_75 : decode cX12_layPart 75 = .ok (.return_, 1) := by decide +kernel
theorem wl_9_59 : (.methodLink RX12 499 yX12_laySet : Cond) ∈ sg_tbl := tb_9 _ (List.mem_of_getElem? (i := 59) (by decide +kernel)) (by decide +kernel)
theorem wl_9_58 : (.code yX12_layPart cX12_layPart 3 none : Cond) ∈ sg_tbl := tb_9 _ (List.mem_of_getElem? (i := 58) (by decide +kernel)) (by decide +kernel)
theorem wl_9_57 : (.instanceMethod yX12_layPart : Cond) ∈ sg_tbl := tb_9 _ (List.mem_of_getElem? (i := 57) (by decide +kernel)) (by decide +kernel)
theorem wl_0_103 : (.selects RX12 yX12_layPart yX12_layPart : Cond) ∈ sg_tbl := tb_0 _ (List.mem_of_getElem? (i := 103) (by decide +kernel)) (by decide +kernel)
section
variable {p : Program} {l : Launch} {e : Env} {R : Room} {s : State} {m : MethodId} {args : Array Value} {below : List Frame} {meth : Method} {c : Code} {H : Heap} {locs : List Loc} {cells slots : Nat} {Q : State → Prop} {cc : ByteArray} {nL pc : Nat} {ls : Array Slot} {rest : List Value} {own : String} {D : va_G} {A : Nat → Prop} {tys : List (ClassId × FieldType)} {ad ks : List Nat} {P : sgPm} {H0 : Heap} {index : Nat} {base : Nat} {st0 : List Value} {a : Nat}
theorem pf_X12_47  {x : Int32}  (X : CallFix p m c cc nL s args sg_tbl own) (hK : va_K D vwCl tys s) (hG : sgG (KT P) D vwCl A tys ad ks H) (hS : va_S A H0 H locs) (ha : isK ad ks 12 a) (hl : Cond.fieldLink own index "LawnAheadModel" "cellMany" "I" ∈ sg_tbl) (hv : okV ad ks (.inl (0, 12)) (.int x)) (hdg : decode cc pc = .ok (.putfield index, 3)) (kk : ∀ (H1 : Heap) (locs1 : List Loc), sgG (KT P) D vwCl A tys ad ks H1 → va_S A H0 H1 locs1 → fld D H1 12 a 47 (.int x) → sgFr (KT P) D vwCl ad ks H H1 (fun a' j' => a' = a ∧ j' = 47) → W p l e R s m args below meth c H1 locs1 cells slots Q (F0 m (pc + 3) ls rest)) : W p l e R s m args below meth c H locs cells slots Q (F0 m pc ls (.int x :: .ref a :: rest)) :=
  sg_put X hK hG hS ha (k := 12) (ci := 12) rfl (C := RX12) (T := TX12) (N := 53) rfl inL_X12 tyX12 tyX12_ok nmX12 47 (by decide) rfl hl (fun _ h => h) rfl (ty := .int) rfl rfl rfl hv hdg kk
theorem as_60  {i : Int32} {x : Int32}  (X : CallFix p m c cc nL s args sg_tbl own) (hK : va_K D vwCl tys s) (hG : sgG (KT P) D vwCl A tys ad ks H) (hS : va_S A H0 H locs) (ha : isK ad ks 60 a) (hin : vp_in i 12) (hv : okV ad ks (.inl ((-2147483648), 2147483647)) (.int x)) (hdg : decode cc pc = .ok (.iastore, 1)) (kk : ∀ (H1 : Heap) (locs1 : List Loc), sgG (KT P) D vwCl A tys ad ks H1 → va_S A H0 H1 locs1 → sgFr (KT P) D vwCl ad ks H H1 (fun _ _ => False) → W p l e R s m args below meth c H1 locs1 cells slots Q (F0 m (pc + 1) ls rest)) : W p l e R s m args below meth c H locs cells slots Q (F0 m pc ls (.int x :: .int i :: .ref a :: rest)) :=
  sg_iast X hK hG hS ha (k := 60) rfl hin hv hdg kk
set_option maxHeartbeats 8000000 in
set_option maxRecDepth 100000 in
theorem m_X12_layPart_1 (l : Launch) {D : va_G} {base : Nat} {tys : List (ClassId × FieldType)} {ad ks : List Nat} {P : sgPm} (hp4 : P.2.2.2.2.1 = true) (a0 : Nat) (h0 : isK ad ks 12 a0) (x1 : Int32) (hpp : sg_pc 32 x1.toBitVec.toNat ≤ 12) : sgMv l (KT P) D vwCl base tys ad ks yX12_layPart cX12_layPart 3 none ({ frames := 4, cells := 0, slots := 0, locals := 105 }) [.ref a0, .int x1] := by
  refine sg_ofW (by decide +kernel) (Nat.le_of_ble_eq_true rfl) (fun p e s m below meth c X hr hlk hb hK hC hG ls hl => ?_)
  have hS : va_S (fun q : Nat => base ≤ q) s.heap s.heap [] := va_S.rf
  have hl : lv_has ls 3 [(0, .ref a0), (1, .int x1)] := hl
  refine lv_aload_n X.1 X.2.1 dX12_layPart_0 rfl (lv_at hl 0 rfl) ?_
  refine lv_iconst (v := 0) X.1 X.2.1 dX12_layPart_1 (by decide +kernel) ?_
  refine pf_X12_47 X hK hG hS h0 wl_6_225 ⟨_, rfl, (iv_of (iv_c 0 (a := 0) (b := 0) (by decide +kernel)) (a' := 0) (b' := 12) (by decide +kernel))⟩ dX12_layPart_2 (fun H locs hG hS ku1 ru1 => ?_)
  refine lv_iconst (v := 0) X.1 X.2.1 dX12_layPart_5 (by decide +kernel) ?_
  refine lv_istore_n (lv' := [(2, .int 0), (0, .ref a0), (1, .int x1)]) X.1 X.2.1 dX12_layPart_6 rfl hl (by decide) rfl (fun ls hl => ?_)
  have B2_7 : ∀ (N : Nat) (H : Heap) (locs : List Loc) (ls : Array Slot) (z2_2 : Int32) (v2_0_47 : Int32), sgG (KT P) D vwCl (fun q : Nat => base ≤ q) tys ad ks H → va_S (fun q : Nat => base ≤ q) s.heap H locs → lv_has ls 3 [(0, .ref a0), (1, .int x1), (2, .int z2_2)] → iv 0 30 z2_2 → iv 0 12 v2_0_47 → fld D H 12 a0 47 (.int v2_0_47) → v2_0_47.toInt ≤ (sg_pc z2_2.toInt.toNat x1.toBitVec.toNat : Int) → (31 - z2_2.toInt).toNat ≤ N → W p l e (headSpec (Cond.code yX12_layPart cX12_layPart 3 none :: sg_tbl) ({ frames := 4, cells := 0, slots := 0, locals := 105 })).room s m #[.ref a0, .int x1] below meth c H locs 0 0 (MQ below (va_Qv (fun (_ : Unit) => True) (fun _ => sgB (KT P) D vwCl base tys ad ks) (fun q : Nat => base ≤ q)) #[.ref a0, .int x1] s 0 0 (fun q : Nat => base ≤ q)) (F0 m 7 ls []) := by
    intro N; induction N with
    | zero =>
      intro H locs ls z2_2 v2_0_47 hG hS hl hz2_2 hv2_0_47 hkv2_0_47 xf2 hN
      exact absurd hN (by have := iv_up hz2_2; omega)
    | succ N ih2 =>
      intro H locs ls z2_2 v2_0_47 hG hS hl hz2_2 hv2_0_47 hkv2_0_47 xf2 hN2
      refine lv_iload_n X.1 X.2.1 dX12_layPart_7 rfl (lv_at hl 2 rfl) ?_
      refine lv_aload_n X.1 X.2.1 dX12_layPart_8 rfl (lv_at hl 0 rfl) ?_
      refine gf_X12_23s X hK hG h0 hp4 wl_6_201 dX12_layPart_9 (fun f3 hf3 kf3 => ?_)
      refine lv_icmp_ge (tgt := 52) X.1 X.2.1 dX12_layPart_12 (by decide) (fun c4 => ?_) (fun c4 => ?_)
      · refine lv_iconst (v := 0) X.1 X.2.1 dX12_layPart_52 (by decide +kernel) ?_
        refine lv_istore_n (lv' := [(2, .int 0), (0, .ref a0), (1, .int x1)]) X.1 X.2.1 dX12_layPart_53 rfl hl (by decide) rfl (fun ls hl => ?_)
        have B5_54 : ∀ (N : Nat) (H : Heap) (locs : List Loc) (ls : Array Slot) (z5_2 : Int32), sgG (KT P) D vwCl (fun q : Nat => base ≤ q) tys ad ks H → va_S (fun q : Nat => base ≤ q) s.heap H locs → lv_has ls 3 [(0, .ref a0), (2, .int z5_2)] → iv 0 4096 z5_2 → (4097 - z5_2.toInt).toNat ≤ N → W p l e (headSpec (Cond.code yX12_layPart cX12_layPart 3 none :: sg_tbl) ({ frames := 4, cells := 0, slots := 0, locals := 105 })).room s m #[.ref a0, .int x1] below meth c H locs 0 0 (MQ below (va_Qv (fun (_ : Unit) => True) (fun _ => sgB (KT P) D vwCl base tys ad ks) (fun q : Nat => base ≤ q)) #[.ref a0, .int x1] s 0 0 (fun q : Nat => base ≤ q)) (F0 m 54 ls []) := by
          intro N; induction N with
          | zero =>
            intro H locs ls z5_2 hG hS hl hz5_2 hN
            exact absurd hN (by have := iv_up hz5_2; omega)
          | succ N ih5 =>
            intro H locs ls z5_2 hG hS hl hz5_2 hN5
            refine lv_iload_n X.1 X.2.1 dX12_layPart_54 rfl (lv_at hl 1 rfl) ?_
            refine lv_iconst (v := 1) X.1 X.2.1 dX12_layPart_55 (by decide +kernel) ?_
            refine lv_aload_n X.1 X.2.1 dX12_layPart_56 rfl (lv_at hl 0 rfl) ?_
            refine gf_X12_47 X hK hG h0 wl_6_225 dX12_layPart_57 (fun f6 hf6 kf6 => ?_)
            refine lv_ishl X.1 X.2.1 dX12_layPart_60 ?_
            refine lv_topi (fun f7 ef7 => ?_)
            refine lv_icmp_ge (tgt := 75) X.1 X.2.1 dX12_layPart_61 (by decide) (fun c8 => ?_) (fun c8 => ?_)
            · exact sg_vret X hr hlk hb hK hC hG hS dX12_layPart_75
            · refine lv_aload_n X.1 X.2.1 dX12_layPart_64 rfl (lv_at hl 0 rfl) ?_
              refine lv_iload_n X.1 X.2.1 dX12_layPart_65 rfl (lv_at hl 1 rfl) ?_
              refine ca_X12_laySet_1 X hK hG hC hS hb hp4 a0 h0 z5_2 (iv_lt (b' := 4095) (iv_gt_of c8) hz5_2 (sg_shl1 ef7 hf6 (by decide +kernel)) (by decide +kernel)) wl_9_59 hl.1 (rest := []) rfl (Nat.le_of_ble_eq_true rfl) ⟨Nat.le_of_ble_eq_true rfl, Nat.le_of_ble_eq_true rfl⟩ ⟨Nat.le_of_ble_eq_true rfl, Nat.le_of_ble_eq_true rfl⟩ dX12_layPart_66 (fun H locs hG hS => ?_)
              obtain ⟨y10, ey10⟩ : ∃ y : Int32, y = z5_2 + Int32.ofInt 1 := ⟨_, rfl⟩
              refine lv_iinc (v := y10) (lv' := [(2, .int y10), (0, .ref a0)]) X.1 X.2.1 dX12_layPart_69 hl (k := 1) rfl ey10.symm (by decide) rfl (fun ls hl => ?_)
              refine lv_goto (tgt := 54) X.1 X.2.1 dX12_layPart_72 (by decide) ?_
              exact ih5 H _ _ y10 hG hS (lv_sub hl [1, 0] rfl) (iv_of (iv_add (a' := 1) (b' := 4096) ey10 (iv_lt (b' := 4095) (iv_gt_of c8) hz5_2 (sg_shl1 ef7 hf6 (by decide +kernel)) (by decide +kernel)) (iv_c _ (a := 1) (b := 1) (by decide +kernel)) (by decide +kernel)) (a' := 0) (b' := 4096) (by decide +kernel)) (iv_stepU ey10 (iv_lt (b' := 4095) (iv_gt_of c8) hz5_2 (sg_shl1 ef7 hf6 (by decide +kernel)) (by decide +kernel)) (by decide +kernel) hN5)
        exact B5_54 _ H _ _ 0 hG hS (lv_sub hl [1, 0] rfl) (iv_of (iv_c 0 (a := 0) (b := 0) (by decide +kernel)) (a' := 0) (b' := 4096) (by decide +kernel)) (Nat.le_refl _)
      · refine lv_iload_n X.1 X.2.1 dX12_layPart_15 rfl (lv_at hl 1 rfl) ?_
        refine lv_iload_n X.1 X.2.1 dX12_layPart_16 rfl (lv_at hl 2 rfl) ?_
        refine ca_X12_has_h X hK hG hC (fun _ h => h) hS hb x1 z2_2 wl_7_174 hl.1 (rest := []) rfl (Nat.le_of_ble_eq_true rfl) ⟨Nat.le_of_ble_eq_true rfl, Nat.le_of_ble_eq_true rfl⟩ ⟨Nat.le_of_ble_eq_true rfl, Nat.le_of_ble_eq_true rfl⟩ dX12_layPart_17 (fun f11 locs hf11 hS => ?_)
        refine lv_if_ne (tgt := 26) X.1 X.2.1 dX12_layPart_20 (by decide) (fun c12 => ?_) (fun c12 => ?_)
        · have hsq13 : sgHas x1 z2_2 := sg_hast hf11.1 hf11.2 c12
          refine lv_aload_n X.1 X.2.1 dX12_layPart_26 rfl (lv_at hl 0 rfl) ?_
          refine gf_X12_44 X hK hG h0 wl_6_222 dX12_layPart_27 (fun q15 hq15 kq15 => ?_)
          refine lv_aload_n X.1 X.2.1 dX12_layPart_30 rfl (lv_at hl 0 rfl) ?_
          refine gg_X12_47 X hK hG h0 wl_6_225 hkv2_0_47 dX12_layPart_31 ?_
          have hc3 := pc_succ_has (x := x1) (c := z2_2) (iv_of (iv_lt (b' := 29) (iv_gt_of c4) hz2_2 hf3 (by decide +kernel)) (a' := 0) (b' := 31) (by decide +kernel)) (by assumption)
          have hc4 := sg_pc_mono x1.toBitVec.toNat (show z2_2.toInt.toNat + 1 ≤ 32 by have := ((iv_lt (b' := 29) (iv_gt_of c4) hz2_2 hf3 (by decide +kernel))).2; omega)
          have hm11 : iv 0 11 v2_0_47 := ⟨(hv2_0_47).1, by omega⟩
          refine lv_iload_n X.1 X.2.1 dX12_layPart_34 rfl (lv_at hl 2 rfl) ?_
          refine as_60 X hK hG hS hq15 (iv_vpin hm11 (by decide +kernel)) ⟨_, rfl, (iv_top _)⟩ dX12_layPart_35 (fun H locs hG hS ru16 => ?_)
          refine lv_aload_n X.1 X.2.1 dX12_layPart_36 rfl (lv_at hl 0 rfl) ?_
          refine lv_dup X.1 X.2.1 dX12_layPart_37 rfl ?_
          refine gg_X12_47 X hK hG h0 wl_6_225 (ru16 _ _ _ _ _ _ _ h0 rfl rfl (by decide) (fun z => z.elim) hkv2_0_47) dX12_layPart_38 ?_
          refine lv_iconst (v := 1) X.1 X.2.1 dX12_layPart_41 (by decide +kernel) ?_
          refine lv_iadd X.1 X.2.1 dX12_layPart_42 ?_
          refine lv_topi (fun f17 ef17 => ?_)
          refine pf_X12_47 X hK hG hS h0 wl_6_225 ⟨_, rfl, (iv_of (iv_add (a' := 1) (b' := 12) ef17 hm11 (iv_c 1 (a := 1) (b := 1) (by decide +kernel)) (by decide +kernel)) (a' := 0) (b' := 12) (by decide +kernel))⟩ dX12_layPart_43 (fun H locs hG hS ku18 ru18 => ?_)
          obtain ⟨y19, ey19⟩ : ∃ y : Int32, y = z2_2 + Int32.ofInt 1 := ⟨_, rfl⟩
          refine lv_iinc (v := y19) (lv' := [(2, .int y19), (0, .ref a0), (1, .int x1)]) X.1 X.2.1 dX12_layPart_46 hl (k := 2) rfl ey19.symm (by decide) rfl (fun ls hl => ?_)
          refine lv_goto (tgt := 7) X.1 X.2.1 dX12_layPart_49 (by decide) ?_
          have bq20 : 0 ≤ z2_2.toInt ∧ z2_2.toInt ≤ 29 := (iv_lt (b' := 29) (iv_gt_of c4) hz2_2 hf3 (by decide +kernel))
          have xy19 : y19.toInt = z2_2.toInt + 1 := sg_inc (k := 1) ey19 (iv_lt (b' := 29) (iv_gt_of c4) hz2_2 hf3 (by decide +kernel)) (by decide +kernel)
          have bq21 : 0 ≤ v2_0_47.toInt ∧ v2_0_47.toInt ≤ 11 := hm11
          have xf17 : f17.toInt = v2_0_47.toInt + 1 := sg_inc (k := 1) ef17 hm11 (by decide +kernel)
          have hc1 : y19.toInt.toNat = z2_2.toInt.toNat + 1 := by have := ((iv_lt (b' := 29) (iv_gt_of c4) hz2_2 hf3 (by decide +kernel))).1; omega
          have hc2 := pc_succ_has (x := x1) (c := z2_2) (iv_of (iv_lt (b' := 29) (iv_gt_of c4) hz2_2 hf3 (by decide +kernel)) (a' := 0) (b' := 31) (by decide +kernel)) (by assumption)
          rw [← hc1] at hc2
          exact ih2 H _ _ y19 f17 hG hS (lv_sub hl [1, 2, 0] rfl) (iv_of (iv_add (a' := 1) (b' := 30) ey19 (iv_lt (b' := 29) (iv_gt_of c4) hz2_2 hf3 (by decide +kernel)) (iv_c _ (a := 1) (b := 1) (by decide +kernel)) (by decide +kernel)) (a' := 0) (b' := 30) (by decide +kernel)) (iv_of (iv_add (a' := 1) (b' := 12) ef17 hm11 (iv_c 1 (a := 1) (b := 1) (by decide +kernel)) (by decide +kernel)) (a' := 0) (b' := 12) (by decide +kernel)) ku18 (by omega) (iv_stepU ey19 (iv_lt (b' := 29) (iv_gt_of c4) hz2_2 hf3 (by decide +kernel)) (by decide +kernel) hN2)
        · have hsq14 : ¬ sgHas x1 z2_2 := sg_hasf hf11.1 hf11.2 c12
          refine lv_goto (tgt := 46) X.1 X.2.1 dX12_layPart_23 (by decide) ?_
          obtain ⟨y22, ey22⟩ : ∃ y : Int32, y = z2_2 + Int32.ofInt 1 := ⟨_, rfl⟩
          refine lv_iinc (v := y22) (lv' := [(2, .int y22), (0, .ref a0), (1, .int x1)]) X.1 X.2.1 dX12_layPart_46 hl (k := 2) rfl ey22.symm (by decide) rfl (fun ls hl => ?_)
          refine lv_goto (tgt := 7) X.1 X.2.1 dX12_layPart_49 (by decide) ?_
          have bq23 : 0 ≤ z2_2.toInt ∧ z2_2.toInt ≤ 29 := (iv_lt (b' := 29) (iv_gt_of c4) hz2_2 hf3 (by decide +kernel))
          have xy22 : y22.toInt = z2_2.toInt + 1 := sg_inc (k := 1) ey22 (iv_lt (b' := 29) (iv_gt_of c4) hz2_2 hf3 (by decide +kernel)) (by decide +kernel)
          have bq24 : 0 ≤ v2_0_47.toInt ∧ v2_0_47.toInt ≤ 12 := hv2_0_47
          have hc1 : y22.toInt.toNat = z2_2.toInt.toNat + 1 := by have := ((iv_lt (b' := 29) (iv_gt_of c4) hz2_2 hf3 (by decide +kernel))).1; omega
          have hc2 := pc_succ_le x1.toBitVec.toNat z2_2.toInt.toNat
          rw [← hc1] at hc2
          exact ih2 H _ _ y22 v2_0_47 hG hS (lv_sub hl [1, 2, 0] rfl) (iv_of (iv_add (a' := 1) (b' := 30) ey22 (iv_lt (b' := 29) (iv_gt_of c4) hz2_2 hf3 (by decide +kernel)) (iv_c _ (a := 1) (b := 1) (by decide +kernel)) (by decide +kernel)) (a' := 0) (b' := 30) (by decide +kernel)) hv2_0_47 hkv2_0_47 (by omega) (iv_stepU ey22 (iv_lt (b' := 29) (iv_gt_of c4) hz2_2 hf3 (by decide +kernel)) (by decide +kernel) hN2)
  have cq25 : (0 : Int32).toInt = 0 := by decide +kernel
  exact B2_7 _ H _ _ 0 0 hG hS (lv_sub hl [1, 2, 0] rfl) (iv_of (iv_c 0 (a := 0) (b := 0) (by decide +kernel)) (a' := 0) (b' := 30) (by decide +kernel)) (iv_of (iv_c 0 (a := 0) (b := 0) (by decide +kernel)) (a' := 0) (b' := 12) (by decide +kernel)) ku1 (by omega) (Nat.le_refl _)

theorem ca_X12_layPart_1   (X : CallFix p m c cc nL s args sg_tbl own) (hK : va_K D vwCl tys s) (hG : sgG (KT P) D vwCl (fun q : Nat => base ≤ q) tys ad ks H) (hC : sgC base s) (hS : va_S (fun q : Nat => base ≤ q) s.heap H locs) (hb : base ≤ s.heap.size) (hp4 : P.2.2.2.2.1 = true) (a0 : Nat) (h0 : isK ad ks 12 a0) (x1 : Int32) (hpp : sg_pc 32 x1.toBitVec.toNat ≤ 12) (hl : Cond.methodLink own index yX12_layPart ∈ sg_tbl) (hsize : ls.size = nL) (hst : st0 = [.int x1].reverse ++ .ref a0 :: rest) (hW : (rest.map fun v => v.category).sum ≤ 8) (hR : 5 ≤ R.frames ∧ 127 ≤ R.locals) (hf : cells ≤ R.cells ∧ slots ≤ R.slots) (hdg : decode cc pc = .ok (.invokevirtual index, 3)) (kk : ∀ (H1 : Heap) (locs1 : List Loc), sgG (KT P) D vwCl (fun q : Nat => base ≤ q) tys ad ks H1 → va_S (fun q : Nat => base ≤ q) s.heap H1 locs1 → W p l e R s m args below meth c H1 locs1 cells slots Q (F0 m (pc + 3) ls rest)) : W p l e R s m args below meth c H locs cells slots Q (F0 m pc ls st0) :=
  sg_callVv X hK hG hC hS hb (m_X12_layPart_1 l hp4 a0 h0 x1 hpp) h0 (k := 12) (ci := 12) rfl (C := RX12) (T := TX12) (N := 53) rfl wl_9_58 wl_1_13 wl_9_57 wl_0_103 (n := 1) (by decide +kernel) rfl rfl rfl hl hsize hst hW hR hf hdg kk
end
