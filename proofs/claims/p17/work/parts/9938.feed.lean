abbrev cX11_feed : ByteArray := prog_1_method_2_code
def yX11_feed : MethodName := ⟨RX11, "feed", "(IIIII)I"⟩
abbrev cX12_feed : ByteArray := prog_14_method_8_code
def yX12_feed : MethodName := ⟨RX12, "feed", "(IIIII)I"⟩
abbrev cX12_put : ByteArray := prog_14_method_7_code
def yX12_put : MethodName := ⟨RX12, "put", "(I)V"⟩
theorem dX11_feed_0 : decode cX11_feed 0 = .ok (.iload_n 1, 1) := by decide +kernel
theorem dX11_feed_1 : decode cX11_feed 1 = .ok (.invokestatic 97, 3) := by decide +kernel
theorem dX11_feed_4 : decode cX11_feed 4 = .ok (.iload_n 2, 1) := by decide +kernel
theorem dX11_feed_5 : decode cX11_feed 5 = .ok (.invokestatic 97, 3) := by decide +kernel
theorem dX11_feed_8 : decode cX11_feed 8 = .ok (.iadd, 1) := by decide +kernel
theorem dX11_feed_9 : decode cX11_feed 9 = .ok (.iload_n 3, 1) := by decide +kernel
theorem dX11_feed_10 : decode cX11_feed 10 = .ok (.invokestatic 97, 3) := by decide +kernel
theorem dX11_feed_13 : decode cX11_feed 13 = .ok (.iadd, 1) := by decide +kernel
theorem dX11_feed_14 : decode cX11_feed 14 = .ok (.iload 4, 2) := by decide +kernel
theorem dX11_feed_16 : decode cX11_feed 16 = .ok (.invokestatic 97, 3) := by decide +kernel
theorem dX11_feed_19 : decode cX11_feed 19 = .ok (.iadd, 1) := by decide +kernel
theorem dX11_feed_20 : decode cX11_feed 20 = .ok (.iload 5, 2) := by decide +kernel
theorem dX11_feed_22 : decode cX11_feed 22 = .ok (.invokestatic 97, 3) := by decide +kernel
theorem dX11_feed_25 : decode cX11_feed 25 = .ok (.iadd, 1) := by decide +kernel
theorem dX11_feed_26 : decode cX11_feed 26 = .ok (.istore 6, 2) := by decide +kernel
theorem dX11_feed_28 : decode cX11_feed 28 = .ok (.aload_n 0, 1) := by decide +kernel
theorem dX11_feed_29 : decode cX11_feed 29 = .ok (.getfield 10, 3) := by decide +kernel
theorem dX11_feed_32 : decode cX11_feed 32 = .ok (.getfield 101, 3) := by decide +kernel
theorem dX11_feed_35 : decode cX11_feed 35 = .ok (.iload 6, 2) := by decide +kernel
theorem dX11_feed_37 : decode cX11_feed 37 = .ok (.iadd, 1) := by decide +kernel
theorem dX11_feed_38 : decode cX11_feed 38 = .ok (.sipush 240, 3) := by decide +kernel
theorem dX11_feed_41 : decode cX11_feed 41 = .ok (.if_icmp .le 5, 3) := by decide +kernel
theorem dX11_feed_44 : decode cX11_feed 44 = .ok (.iconst (-1), 1) := by decide +kernel
theorem dX11_feed_45 : decode cX11_feed 45 = .ok (.ireturn, 1) := by decide +kernel
theorem dX11_feed_46 : decode cX11_feed 46 = .ok (.aload_n 0, 1) := by decide +kernel
theorem dX11_feed_47 : decode cX11_feed 47 = .ok (.getfield 10, 3) := by decide +kernel
theorem dX11_feed_50 : decode cX11_feed 50 = .ok (.iload_n 1, 1) := by decide +kernel
theorem dX11_feed_51 : decode cX11_feed 51 = .ok (.invokevirtual 104, 3) := by decide +kernel
theorem dX11_feed_54 : decode cX11_feed 54 = .ok (.aload_n 0, 1) := by decide +kernel
theorem dX11_feed_55 : decode cX11_feed 55 = .ok (.getfield 10, 3) := by decide +kernel
theorem dX11_feed_58 : decode cX11_feed 58 = .ok (.iload_n 2, 1) := by decide +kernel
theorem dX11_feed_59 : decode cX11_feed 59 = .ok (.invokevirtual 104, 3) := by decide +kernel
theorem dX11_feed_62 : decode cX11_feed 62 = .ok (.aload_n 0, 1) := by decide +kernel
theorem dX11_feed_63 : decode cX11_feed 63 = .ok (.getfield 10, 3) := by decide +kernel
theorem dX11_feed_66 : decode cX11_feed 66 = .ok (.iload_n 3, 1) := by decide +kernel
theorem dX11_feed_67 : decode cX11_feed 67 = .ok (.invokevirtual 104, 3) := by decide +kernel
theorem dX11_feed_70 : decode cX11_feed 70 = .ok (.aload_n 0, 1) := by decide +kernel
theorem dX11_feed_71 : decode cX11_feed 71 = .ok (.getfield 10, 3) := by decide +kernel
theorem dX11_feed_74 : decode cX11_feed 74 = .ok (.iload 4, 2) := by decide +kernel
theorem dX11_feed_76 : decode cX11_feed 76 = .ok (.invokevirtual 104, 3) := by decide +kernel
theorem dX11_feed_79 : decode cX11_feed 79 = .ok (.aload_n 0, 1) := by decide +kernel
theorem dX11_feed_80 : decode cX11_feed 80 = .ok (.getfield 10, 3) := by decide +kernel
theorem dX11_feed_83 : decode cX11_feed 83 = .ok (.iload 5, 2) := by decide +kernel
theorem dX11_feed_85 : decode cX11_feed 85 = .ok (.invokevirtual 104, 3) := by decide +kernel
theorem dX11_feed_88 : decode cX11_feed 88 = .ok (.aload_n 0, 1) := by decide +kernel
theorem dX11_feed_89 : decode cX11_feed 89 = .ok (.getfield 10, 3) := by decide +kernel
theorem dX11_feed_92 : decode cX11_feed 92 = .ok (.getfield 101, 3) := by decide +kernel
theorem dX11_feed_95 : decode cX11_feed 95 = .ok (.ireturn, 1) := by decide +kernel
theorem dX12_feed_0 : decode cX12_feed 0 = .ok (.aload_n 0, 1) := by decide +kernel
theorem dX12_feed_1 : decode cX12_feed 1 = .ok (.iconst 0, 1) := by decide +kernel
theorem dX12_feed_2 : decode cX12_feed 2 = .ok (.putfield 94, 3) := by decide +kernel
theorem dX12_feed_5 : decode cX12_feed 5 = .ok (.aload_n 0, 1) := by decide +kernel
theorem dX12_feed_6 : decode cX12_feed 6 = .ok (.getfield 107, 3) := by decide +kernel
theorem dX12_feed_9 : decode cX12_feed 9 = .ok (.iload_n 1, 1) := by decide +kernel
theorem dX12_feed_10 : decode cX12_feed 10 = .ok (.invokestatic 109, 3) := by decide +kernel
theorem dX12_feed_13 : decode cX12_feed 13 = .ok (.iadd, 1) := by decide +kernel
theorem dX12_feed_14 : decode cX12_feed 14 = .ok (.iload_n 2, 1) := by decide +kernel
theorem dX12_feed_15 : decode cX12_feed 15 = .ok (.invokestatic 109, 3) := by decide +kernel
theorem dX12_feed_18 : decode cX12_feed 18 = .ok (.iadd, 1) := by decide +kernel
theorem dX12_feed_19 : decode cX12_feed 19 = .ok (.iload_n 3, 1) := by decide +kernel
theorem dX12_feed_20 : decode cX12_feed 20 = .ok (.invokestatic 109, 3) := by decide +kernel
theorem dX12_feed_23 : decode cX12_feed 23 = .ok (.iadd, 1) := by decide +kernel
theorem dX12_feed_24 : decode cX12_feed 24 = .ok (.iload 4, 2) := by decide +kernel
theorem dX12_feed_26 : decode cX12_feed 26 = .ok (.invokestatic 109, 3) := by decide +kernel
theorem dX12_feed_29 : decode cX12_feed 29 = .ok (.iadd, 1) := by decide +kernel
theorem dX12_feed_30 : decode cX12_feed 30 = .ok (.iload 5, 2) := by decide +kernel
theorem dX12_feed_32 : decode cX12_feed 32 = .ok (.invokestatic 109, 3) := by decide +kernel
theorem dX12_feed_35 : decode cX12_feed 35 = .ok (.iadd, 1) := by decide +kernel
theorem dX12_feed_36 : decode cX12_feed 36 = .ok (.sipush 240, 3) := by decide +kernel
theorem dX12_feed_39 : decode cX12_feed 39 = .ok (.if_icmp .le 5, 3) := by decide +kernel
theorem dX12_feed_42 : decode cX12_feed 42 = .ok (.iconst (-1), 1) := by decide +kernel
theorem dX12_feed_43 : decode cX12_feed 43 = .ok (.ireturn, 1) := by decide +kernel
theorem dX12_feed_44 : decode cX12_feed 44 = .ok (.aload_n 0, 1) := by decide +kernel
theorem dX12_feed_45 : decode cX12_feed 45 = .ok (.iload_n 1, 1) := by decide +kernel
theorem dX12_feed_46 : decode cX12_feed 46 = .ok (.invokevirtual 113, 3) := by decide +kernel
theorem dX12_feed_49 : decode cX12_feed 49 = .ok (.aload_n 0, 1) := by decide +kernel
theorem dX12_feed_50 : decode cX12_feed 50 = .ok (.iload_n 2, 1) := by decide +kernel
theorem dX12_feed_51 : decode cX12_feed 51 = .ok (.invokevirtual 113, 3) := by decide +kernel
theorem dX12_feed_54 : decode cX12_feed 54 = .ok (.aload_n 0, 1) := by decide +kernel
theorem dX12_feed_55 : decode cX12_feed 55 = .ok (.iload_n 3, 1) := by decide +kernel
theorem dX12_feed_56 : decode cX12_feed 56 = .ok (.invokevirtual 113, 3) := by decide +kernel
theorem dX12_feed_59 : decode cX12_feed 59 = .ok (.aload_n 0, 1) := by decide +kernel
theorem dX12_feed_60 : decode cX12_feed 60 = .ok (.iload 4, 2) := by decide +kernel
theorem dX12_feed_62 : decode cX12_feed 62 = .ok (.invokevirtual 113, 3) := by decide +kernel
theorem dX12_feed_65 : decode cX12_feed 65 = .ok (.aload_n 0, 1) := by decide +kernel
theorem dX12_feed_66 : decode cX12_feed 66 = .ok (.iload 5, 2) := by decide +kernel
theorem dX12_feed_68 : decode cX12_feed 68 = .ok (.invokevirtual 113, 3) := by decide +kernel
theorem dX12_feed_71 : decode cX12_feed 71 = .ok (.aload_n 0, 1) := by decide +kernel
theorem dX12_feed_72 : decode cX12_feed 72 = .ok (.getfield 107, 3) := by decide +kernel
theorem dX12_feed_75 : decode cX12_feed 75 = .ok (.ireturn, 1) := by decide +kernel
theorem dX12_put_0 : decode cX12_put 0 = .ok (.bipush 24, 2) := by decide +kernel
theorem dX12_put_2 : decode cX12_put 2 = .ok (.istore_n 2, 1) := by decide +kernel
theorem dX12_put_3 : decode cX12_put 3 = .ok (.iload_n 2, 1) := by decide +kernel
theorem dX12_put_4 : decode cX12_put 4 = .ok (.ifCond .lt 45, 3) := by decide +kernel
theorem dX12_put_7 : decode cX12_put 7 = .ok (.iload_n 1, 1) := by decide +kernel
theorem dX12_put_8 : decode cX12_put 8 = .ok (.iload_n 2, 1) := by decide +kernel
theorem dX12_put_9 : decode cX12_put 9 = .ok (.ishr, 1) := by decide +kernel
theorem dX12_put_10 : decode cX12_put 10 = .ok (.sipush 255, 3) := by decide +kernel
theorem dX12_put_13 : decode cX12_put 13 = .ok (.iand, 1) := by decide +kernel
theorem dX12_put_14 : decode cX12_put 14 = .ok (.ifCond .ne 6, 3) := by decide +kernel
theorem dX12_put_17 : decode cX12_put 17 = .ok (.goto 26, 3) := by decide +kernel
theorem dX12_put_20 : decode cX12_put 20 = .ok (.aload_n 0, 1) := by decide +kernel
theorem dX12_put_21 : decode cX12_put 21 = .ok (.getfield 9, 3) := by decide +kernel
theorem dX12_put_24 : decode cX12_put 24 = .ok (.aload_n 0, 1) := by decide +kernel
theorem dX12_put_25 : decode cX12_put 25 = .ok (.getfield 107, 3) := by decide +kernel
theorem dX12_put_28 : decode cX12_put 28 = .ok (.iload_n 1, 1) := by decide +kernel
theorem dX12_put_29 : decode cX12_put 29 = .ok (.iload_n 2, 1) := by decide +kernel
theorem dX12_put_30 : decode cX12_put 30 = .ok (.ishr, 1) := by decide +kernel
theorem dX12_put_31 : decode cX12_put 31 = .ok (.i2b, 1) := by decide +kernel
theorem dX12_put_32 : decode cX12_put 32 = .ok (.bastore, 1) := by decide +kernel
theorem dX12_put_33 : decode cX12_put 33 = .ok (.aload_n 0, 1) := by decide +kernel
theorem dX12_put_34 : decode cX12_put 34 = .ok (.dup, 1) := by decide +kernel
theorem dX12_put_35 : decode cX12_put 35 = .ok (.getfield 107, 3) := by decide +kernel
theorem dX12_put_38 : decode cX12_put 38 = .ok (.iconst 1, 1) := by decide +kernel
theorem dX12_put_39 : decode cX12_put 39 = .ok (.iadd, 1) := by decide +kernel
theorem dX12_put_40 : decode cX12_put 40 = .ok (.putfield 107, 3) := by decide +kernel
theorem dX12_put_43 : decode cX12_put 43 = .ok (.iinc 2 (-8), 3) := by decide +kernel
theorem dX12_put_46 : decode cX12_put 46 = .ok (.goto (-43), 3) := by decide +kernel
theorem dX12_put_49 : decode cX12_put 49 = .ok (.return_, 1) := by decide +kernel
theorem wl_3_11 : (.methodLink RX11 97 yX10_fullBytes : Cond) ∈ sg_tbl := tb_3 _ (List.mem_of_getElem? (i := 11) (by decide +kernel)) (by decide +kernel)
theorem wl_3_14 : (.methodLink RX11 104 yX10_append : Cond) ∈ sg_tbl := tb_3 _ (List.mem_of_getElem? (i := 14) (by decide +kernel)) (by decide +kernel)
theorem wl_7_103 : (.methodLink RX12 109 yX12_bytesIn : Cond) ∈ sg_tbl := tb_7 _ (List.mem_of_getElem? (i := 103) (by decide +kernel)) (by decide +kernel)
theorem wl_7_106 : (.methodLink RX12 113 yX12_put : Cond) ∈ sg_tbl := tb_7 _ (List.mem_of_getElem? (i := 106) (by decide +kernel)) (by decide +kernel)
theorem wl_7_109 : (.code yX12_put cX12_put 3 none : Cond) ∈ sg_tbl := tb_7 _ (List.mem_of_getElem? (i := 109) (by decide +kernel)) (by decide +kernel)
theorem wl_7_108 : (.instanceMethod yX12_put : Cond) ∈ sg_tbl := tb_7 _ (List.mem_of_getElem? (i := 108) (by decide +kernel)) (by decide +kernel)
theorem wl_0_48 : (.selects RX12 yX12_put yX12_put : Cond) ∈ sg_tbl := tb_0 _ (List.mem_of_getElem? (i := 48) (by decide +kernel)) (by decide +kernel)
theorem wl_3_10 : (.code yX11_feed cX11_feed 7 (some .int) : Cond) ∈ sg_tbl := tb_3 _ (List.mem_of_getElem? (i := 10) (by decide +kernel)) (by decide +kernel)
theorem wl_3_8 : (.instanceMethod yX11_feed : Cond) ∈ sg_tbl := tb_3 _ (List.mem_of_getElem? (i := 8) (by decide +kernel)) (by decide +kernel)
theorem wl_3_9 : (.selects RX11 yX11_feed yX11_feed : Cond) ∈ sg_tbl := tb_3 _ (List.mem_of_getElem? (i := 9) (by decide +kernel)) (by decide +kernel)
theorem wl_7_102 : (.code yX12_feed cX12_feed 6 (some .int) : Cond) ∈ sg_tbl := tb_7 _ (List.mem_of_getElem? (i := 102) (by decide +kernel)) (by decide +kernel)
theorem wl_7_100 : (.instanceMethod yX12_feed : Cond) ∈ sg_tbl := tb_7 _ (List.mem_of_getElem? (i := 100) (by decide +kernel)) (by decide +kernel)
theorem wl_7_101 : (.selects RX12 yX12_feed yX12_feed : Cond) ∈ sg_tbl := tb_7 _ (List.mem_of_getElem? (i := 101) (by decide +kernel)) (by decide +kernel)
section
variable {p : Program} {l : Launch} {e : Env} {R : Room} {s : State} {m : MethodId} {args : Array Value} {below : List Frame} {meth : Method} {c : Code} {H : Heap} {locs : List Loc} {cells slots : Nat} {Q : State → Prop} {cc : ByteArray} {nL pc : Nat} {ls : Array Slot} {rest : List Value} {own : String} {D : va_G} {A : Nat → Prop} {tys : List (ClassId × FieldType)} {ad ks : List Nat} {P : sgPm} {H0 : Heap} {index : Nat} {base : Nat} {st0 : List Value} {a : Nat}

set_option maxHeartbeats 8000000 in
set_option maxRecDepth 100000 in
theorem m_X12_put_q (l : Launch) {D : va_G} {base : Nat} {tys : List (ClassId × FieldType)} {ad ks : List Nat} {P : sgPm} (a0 : Nat) (h0 : isK ad ks 12 a0) (x1 : Int32) (hl0 : 0 ≤ sgL2 P ∧ sgL2 P + sg_nb x1 ≤ 240) : Met l yX12_put (Cond.code yX12_put cX12_put 3 none :: sg_tbl) ({ frames := 0, cells := 0, slots := 0, locals := 0 }) (va_Pc [.ref a0, .int x1] (sgB (KT P) D vwCl base tys ad ks)) (va_Qv (fun (_ : Unit) => True) (fun _ => fun t => sgB (KT (sgSt P (sgT1 P) (sgL1 P) (sgAp2 x1 (sgT2 P, sgL2 P)).1 (sgAp2 x1 (sgT2 P, sgL2 P)).2)) D vwCl base tys ad ks t) (fun q : Nat => base ≤ q)) 0 0 (fun q : Nat => base ≤ q) := by
  refine sg_ofW (by decide +kernel) (Nat.le_of_ble_eq_true rfl) (fun p e s m below meth c X hr hlk hb hK hC hG ls hl => ?_)
  have hS : va_S (fun q : Nat => base ≤ q) s.heap s.heap [] := va_S.rf
  have hl : lv_has ls 3 [(0, .ref a0), (1, .int x1)] := hl
  refine lv_bipush (v := 24) X.1 X.2.1 dX12_put_0 (by decide +kernel) ?_
  refine lv_istore_n (lv' := [(2, .int 24), (0, .ref a0), (1, .int x1)]) X.1 X.2.1 dX12_put_2 rfl hl (by decide) rfl (fun ls hl => ?_)
  refine lv_iload_n X.1 X.2.1 dX12_put_3 rfl (lv_at hl 0 rfl) ?_
  refine lv_if_lt (tgt := 49) X.1 X.2.1 dX12_put_4 (by decide) (fun c1 => ?_) (fun c1 => ?_)
  · exact ((iv_no (iv_lt (b' := (-1)) c1 (iv_c 24 (a := 24) (b := 24) (by decide +kernel)) (iv_c 0 (a := 0) (b := 0) (by decide +kernel)) (by decide +kernel)) (by decide +kernel))).elim
  · refine lv_iload_n X.1 X.2.1 dX12_put_7 rfl (lv_at hl 2 rfl) ?_
    refine lv_iload_n X.1 X.2.1 dX12_put_8 rfl (lv_at hl 0 rfl) ?_
    refine lv_ishr X.1 X.2.1 dX12_put_9 ?_
    refine lv_topi (fun f2 ef2 => ?_)
    refine lv_sipush (v := 255) X.1 X.2.1 dX12_put_10 (by decide +kernel) ?_
    refine lv_iand X.1 X.2.1 dX12_put_13 ?_
    refine lv_topi (fun f3 ef3 => ?_)
    refine lv_if_ne (tgt := 20) X.1 X.2.1 dX12_put_14 (by decide) (fun c4 => ?_) (fun c4 => ?_)
    · refine lv_aload_n X.1 X.2.1 dX12_put_20 rfl (lv_at hl 1 rfl) ?_
      refine gf_X12_1 X hK hG h0 wl_6_179 dX12_put_21 (fun q5 hq5 kq5 => ?_)
      refine lv_aload_n X.1 X.2.1 dX12_put_24 rfl (lv_at hl 1 rfl) ?_
      refine gf_X12_6 X hK hG h0 wl_6_184 dX12_put_25 (fun f6 hf6 pf6 kf6 => ?_)
      have hG := sg_st hG
      have nb24 := sg_nbq ef2 ef3 (sg_kc (24) (iv_c 24 (a := 24) (b := 24) (by decide +kernel)) (by decide +kernel)) c4
      have nl24 := sg_nb1_le x1 24
      have nl16 := sg_nb1_le x1 16
      have nl8 := sg_nb1_le x1 8
      have nl0 := sg_nb1_le x1 0
      have hnb : sg_nb x1 = sg_nb1 x1 24 + sg_nb1 x1 16 + sg_nb1 x1 8 + sg_nb1 x1 0 := rfl
      have hx28 : f6.toInt = (sgL2 P) := sgC240_eq (l := (sgL2 P)) pf6 (by omega) (by omega)
      have hy28 : iv 0 239 f6 := ⟨by omega, by omega⟩
      refine lv_iload_n X.1 X.2.1 dX12_put_28 rfl (lv_at hl 2 rfl) ?_
      refine lv_iload_n X.1 X.2.1 dX12_put_29 rfl (lv_at hl 0 rfl) ?_
      refine lv_ishr X.1 X.2.1 dX12_put_30 ?_
      refine lv_topi (fun f7 ef7 => ?_)
      obtain ⟨f8, ef8⟩ : ∃ y : Int32, y = (f7 : Int32).toInt8.toInt32 := ⟨_, rfl⟩
      refine lv_i2b (v := f8) X.1 X.2.1 dX12_put_31 ef8.symm ?_
      refine as_45q X hK hG hS hq5 (iv_vpin hy28 (by decide +kernel)) dX12_put_32 (fun H locs hG hS => ?_)
      rw [sgC240_ix (l := (sgL2 P)) pf6 (by omega) (by omega), sgB2_of ef7 ef8 (sg_kc (24) (iv_c 24 (a := 24) (b := 24) (by decide +kernel)) (by decide +kernel))] at hG
      refine lv_aload_n X.1 X.2.1 dX12_put_33 rfl (lv_at hl 1 rfl) ?_
      refine lv_dup X.1 X.2.1 dX12_put_34 rfl ?_
      refine gf_X12_6 X hK hG h0 wl_6_184 dX12_put_35 (fun f9 hf9 pf9 kf9 => ?_)
      refine lv_iconst (v := 1) X.1 X.2.1 dX12_put_38 (by decide +kernel) ?_
      refine lv_iadd X.1 X.2.1 dX12_put_39 ?_
      refine lv_topi (fun f10 ef10 => ?_)
      have nb24 := sg_nbq ef2 ef3 (sg_kc (24) (iv_c 24 (a := 24) (b := 24) (by decide +kernel)) (by decide +kernel)) c4
      have nl24 := sg_nb1_le x1 24
      have nl16 := sg_nb1_le x1 16
      have nl8 := sg_nb1_le x1 8
      have nl0 := sg_nb1_le x1 0
      have hnb : sg_nb x1 = sg_nb1 x1 24 + sg_nb1 x1 16 + sg_nb1 x1 8 + sg_nb1 x1 0 := rfl
      have hx40 : f9.toInt = (sgL2 P) := sgC240_eq (l := (sgL2 P)) pf9 (by omega) (by omega)
      have hz40 : f10.toInt = (sgL2 P) + 1 := by rw [sg_inc (k := 1) ef10 hf9 (by decide +kernel), hx40]
      have hy40 : iv 1 240 f10 := ⟨by omega, by omega⟩
      refine pf_X12_6q X hK hG hS h0 wl_6_184 (iv_of hy40 (a' := 0) (b' := 240) (by decide +kernel)) dX12_put_40 (fun H locs hG hS => ?_)
      have hl43 : f10.toInt = (sgL2 P) + 1 := by rw [sg_inc (k := 1) ef10 hf9 (by decide +kernel), sgC240_eq (l := (sgL2 P)) pf9 (by omega) (by omega)]
      rw [hl43] at hG
      obtain ⟨y11, ey11⟩ : ∃ y : Int32, y = 24 + Int32.ofInt (-8) := ⟨_, rfl⟩
      refine lv_iinc (v := y11) (lv' := [(2, .int y11), (0, .ref a0), (1, .int x1)]) X.1 X.2.1 dX12_put_43 hl (k := 0) rfl ey11.symm (by decide) rfl (fun ls hl => ?_)
      refine lv_goto (tgt := 3) X.1 X.2.1 dX12_put_46 (by decide) ?_
      refine lv_iload_n X.1 X.2.1 dX12_put_3 rfl (lv_at hl 0 rfl) ?_
      refine lv_if_lt (tgt := 49) X.1 X.2.1 dX12_put_4 (by decide) (fun c12 => ?_) (fun c12 => ?_)
      · exact ((iv_no (iv_lt (b' := (-1)) c12 (iv_add (a' := 16) (b' := 16) ey11 (iv_c 24 (a := 24) (b := 24) (by decide +kernel)) (iv_c _ (a := (-8)) (b := (-8)) (by decide +kernel)) (by decide +kernel)) (iv_c 0 (a := 0) (b := 0) (by decide +kernel)) (by decide +kernel)) (by decide +kernel))).elim
      · refine lv_iload_n X.1 X.2.1 dX12_put_7 rfl (lv_at hl 2 rfl) ?_
        refine lv_iload_n X.1 X.2.1 dX12_put_8 rfl (lv_at hl 0 rfl) ?_
        refine lv_ishr X.1 X.2.1 dX12_put_9 ?_
        refine lv_topi (fun f13 ef13 => ?_)
        refine lv_sipush (v := 255) X.1 X.2.1 dX12_put_10 (by decide +kernel) ?_
        refine lv_iand X.1 X.2.1 dX12_put_13 ?_
        refine lv_topi (fun f14 ef14 => ?_)
        refine lv_if_ne (tgt := 20) X.1 X.2.1 dX12_put_14 (by decide) (fun c15 => ?_) (fun c15 => ?_)
        · refine lv_aload_n X.1 X.2.1 dX12_put_20 rfl (lv_at hl 1 rfl) ?_
          refine gf_X12_1 X hK hG h0 wl_6_179 dX12_put_21 (fun q16 hq16 kq16 => ?_)
          refine lv_aload_n X.1 X.2.1 dX12_put_24 rfl (lv_at hl 1 rfl) ?_
          refine gf_X12_6 X hK hG h0 wl_6_184 dX12_put_25 (fun f17 hf17 pf17 kf17 => ?_)
          have nb24 := sg_nbq ef2 ef3 (sg_kc (24) (iv_c 24 (a := 24) (b := 24) (by decide +kernel)) (by decide +kernel)) c4
          have nb16 := sg_nbq ef13 ef14 (sg_kc (16) (iv_add (a' := 16) (b' := 16) ey11 (iv_c 24 (a := 24) (b := 24) (by decide +kernel)) (iv_c _ (a := (-8)) (b := (-8)) (by decide +kernel)) (by decide +kernel)) (by decide +kernel)) c15
          have nl24 := sg_nb1_le x1 24
          have nl16 := sg_nb1_le x1 16
          have nl8 := sg_nb1_le x1 8
          have nl0 := sg_nb1_le x1 0
          have hnb : sg_nb x1 = sg_nb1 x1 24 + sg_nb1 x1 16 + sg_nb1 x1 8 + sg_nb1 x1 0 := rfl
          have hx28 : f17.toInt = ((sgL2 P) + 1) := sgC240_eq (l := ((sgL2 P) + 1)) pf17 (by omega) (by omega)
          have hy28 : iv 0 239 f17 := ⟨by omega, by omega⟩
          refine lv_iload_n X.1 X.2.1 dX12_put_28 rfl (lv_at hl 2 rfl) ?_
          refine lv_iload_n X.1 X.2.1 dX12_put_29 rfl (lv_at hl 0 rfl) ?_
          refine lv_ishr X.1 X.2.1 dX12_put_30 ?_
          refine lv_topi (fun f18 ef18 => ?_)
          obtain ⟨f19, ef19⟩ : ∃ y : Int32, y = (f18 : Int32).toInt8.toInt32 := ⟨_, rfl⟩
          refine lv_i2b (v := f19) X.1 X.2.1 dX12_put_31 ef19.symm ?_
          refine as_45q X hK hG hS hq16 (iv_vpin hy28 (by decide +kernel)) dX12_put_32 (fun H locs hG hS => ?_)
          rw [sgC240_ix (l := ((sgL2 P) + 1)) pf17 (by omega) (by omega), sgB2_of ef18 ef19 (sg_kc (16) (iv_add (a' := 16) (b' := 16) ey11 (iv_c 24 (a := 24) (b := 24) (by decide +kernel)) (iv_c _ (a := (-8)) (b := (-8)) (by decide +kernel)) (by decide +kernel)) (by decide +kernel))] at hG
          refine lv_aload_n X.1 X.2.1 dX12_put_33 rfl (lv_at hl 1 rfl) ?_
          refine lv_dup X.1 X.2.1 dX12_put_34 rfl ?_
          refine gf_X12_6 X hK hG h0 wl_6_184 dX12_put_35 (fun f20 hf20 pf20 kf20 => ?_)
          refine lv_iconst (v := 1) X.1 X.2.1 dX12_put_38 (by decide +kernel) ?_
          refine lv_iadd X.1 X.2.1 dX12_put_39 ?_
          refine lv_topi (fun f21 ef21 => ?_)
          have nb24 := sg_nbq ef2 ef3 (sg_kc (24) (iv_c 24 (a := 24) (b := 24) (by decide +kernel)) (by decide +kernel)) c4
          have nb16 := sg_nbq ef13 ef14 (sg_kc (16) (iv_add (a' := 16) (b' := 16) ey11 (iv_c 24 (a := 24) (b := 24) (by decide +kernel)) (iv_c _ (a := (-8)) (b := (-8)) (by decide +kernel)) (by decide +kernel)) (by decide +kernel)) c15
          have nl24 := sg_nb1_le x1 24
          have nl16 := sg_nb1_le x1 16
          have nl8 := sg_nb1_le x1 8
          have nl0 := sg_nb1_le x1 0
          have hnb : sg_nb x1 = sg_nb1 x1 24 + sg_nb1 x1 16 + sg_nb1 x1 8 + sg_nb1 x1 0 := rfl
          have hx40 : f20.toInt = ((sgL2 P) + 1) := sgC240_eq (l := ((sgL2 P) + 1)) pf20 (by omega) (by omega)
          have hz40 : f21.toInt = ((sgL2 P) + 1) + 1 := by rw [sg_inc (k := 1) ef21 hf20 (by decide +kernel), hx40]
          have hy40 : iv 1 240 f21 := ⟨by omega, by omega⟩
          refine pf_X12_6q X hK hG hS h0 wl_6_184 (iv_of hy40 (a' := 0) (b' := 240) (by decide +kernel)) dX12_put_40 (fun H locs hG hS => ?_)
          have hl43 : f21.toInt = ((sgL2 P) + 1) + 1 := by rw [sg_inc (k := 1) ef21 hf20 (by decide +kernel), sgC240_eq (l := ((sgL2 P) + 1)) pf20 (by omega) (by omega)]
          rw [hl43] at hG
          obtain ⟨y22, ey22⟩ : ∃ y : Int32, y = y11 + Int32.ofInt (-8) := ⟨_, rfl⟩
          refine lv_iinc (v := y22) (lv' := [(2, .int y22), (0, .ref a0), (1, .int x1)]) X.1 X.2.1 dX12_put_43 hl (k := 0) rfl ey22.symm (by decide) rfl (fun ls hl => ?_)
          refine lv_goto (tgt := 3) X.1 X.2.1 dX12_put_46 (by decide) ?_
          refine lv_iload_n X.1 X.2.1 dX12_put_3 rfl (lv_at hl 0 rfl) ?_
          refine lv_if_lt (tgt := 49) X.1 X.2.1 dX12_put_4 (by decide) (fun c23 => ?_) (fun c23 => ?_)
          · exact ((iv_no (iv_lt (b' := (-1)) c23 (iv_add (a' := 8) (b' := 8) ey22 (iv_add (a' := 16) (b' := 16) ey11 (iv_c 24 (a := 24) (b := 24) (by decide +kernel)) (iv_c _ (a := (-8)) (b := (-8)) (by decide +kernel)) (by decide +kernel)) (iv_c _ (a := (-8)) (b := (-8)) (by decide +kernel)) (by decide +kernel)) (iv_c 0 (a := 0) (b := 0) (by decide +kernel)) (by decide +kernel)) (by decide +kernel))).elim
          · refine lv_iload_n X.1 X.2.1 dX12_put_7 rfl (lv_at hl 2 rfl) ?_
            refine lv_iload_n X.1 X.2.1 dX12_put_8 rfl (lv_at hl 0 rfl) ?_
            refine lv_ishr X.1 X.2.1 dX12_put_9 ?_
            refine lv_topi (fun f24 ef24 => ?_)
            refine lv_sipush (v := 255) X.1 X.2.1 dX12_put_10 (by decide +kernel) ?_
            refine lv_iand X.1 X.2.1 dX12_put_13 ?_
            refine lv_topi (fun f25 ef25 => ?_)
            refine lv_if_ne (tgt := 20) X.1 X.2.1 dX12_put_14 (by decide) (fun c26 => ?_) (fun c26 => ?_)
            · refine lv_aload_n X.1 X.2.1 dX12_put_20 rfl (lv_at hl 1 rfl) ?_
              refine gf_X12_1 X hK hG h0 wl_6_179 dX12_put_21 (fun q27 hq27 kq27 => ?_)
              refine lv_aload_n X.1 X.2.1 dX12_put_24 rfl (lv_at hl 1 rfl) ?_
              refine gf_X12_6 X hK hG h0 wl_6_184 dX12_put_25 (fun f28 hf28 pf28 kf28 => ?_)
              have nb24 := sg_nbq ef2 ef3 (sg_kc (24) (iv_c 24 (a := 24) (b := 24) (by decide +kernel)) (by decide +kernel)) c4
              have nb16 := sg_nbq ef13 ef14 (sg_kc (16) (iv_add (a' := 16) (b' := 16) ey11 (iv_c 24 (a := 24) (b := 24) (by decide +kernel)) (iv_c _ (a := (-8)) (b := (-8)) (by decide +kernel)) (by decide +kernel)) (by decide +kernel)) c15
              have nb8 := sg_nbq ef24 ef25 (sg_kc (8) (iv_add (a' := 8) (b' := 8) ey22 (iv_add (a' := 16) (b' := 16) ey11 (iv_c 24 (a := 24) (b := 24) (by decide +kernel)) (iv_c _ (a := (-8)) (b := (-8)) (by decide +kernel)) (by decide +kernel)) (iv_c _ (a := (-8)) (b := (-8)) (by decide +kernel)) (by decide +kernel)) (by decide +kernel)) c26
              have nl24 := sg_nb1_le x1 24
              have nl16 := sg_nb1_le x1 16
              have nl8 := sg_nb1_le x1 8
              have nl0 := sg_nb1_le x1 0
              have hnb : sg_nb x1 = sg_nb1 x1 24 + sg_nb1 x1 16 + sg_nb1 x1 8 + sg_nb1 x1 0 := rfl
              have hx28 : f28.toInt = (((sgL2 P) + 1) + 1) := sgC240_eq (l := (((sgL2 P) + 1) + 1)) pf28 (by omega) (by omega)
              have hy28 : iv 0 239 f28 := ⟨by omega, by omega⟩
              refine lv_iload_n X.1 X.2.1 dX12_put_28 rfl (lv_at hl 2 rfl) ?_
              refine lv_iload_n X.1 X.2.1 dX12_put_29 rfl (lv_at hl 0 rfl) ?_
              refine lv_ishr X.1 X.2.1 dX12_put_30 ?_
              refine lv_topi (fun f29 ef29 => ?_)
              obtain ⟨f30, ef30⟩ : ∃ y : Int32, y = (f29 : Int32).toInt8.toInt32 := ⟨_, rfl⟩
              refine lv_i2b (v := f30) X.1 X.2.1 dX12_put_31 ef30.symm ?_
              refine as_45q X hK hG hS hq27 (iv_vpin hy28 (by decide +kernel)) dX12_put_32 (fun H locs hG hS => ?_)
              rw [sgC240_ix (l := (((sgL2 P) + 1) + 1)) pf28 (by omega) (by omega), sgB2_of ef29 ef30 (sg_kc (8) (iv_add (a' := 8) (b' := 8) ey22 (iv_add (a' := 16) (b' := 16) ey11 (iv_c 24 (a := 24) (b := 24) (by decide +kernel)) (iv_c _ (a := (-8)) (b := (-8)) (by decide +kernel)) (by decide +kernel)) (iv_c _ (a := (-8)) (b := (-8)) (by decide +kernel)) (by decide +kernel)) (by decide +kernel))] at hG
              refine lv_aload_n X.1 X.2.1 dX12_put_33 rfl (lv_at hl 1 rfl) ?_
              refine lv_dup X.1 X.2.1 dX12_put_34 rfl ?_
              refine gf_X12_6 X hK hG h0 wl_6_184 dX12_put_35 (fun f31 hf31 pf31 kf31 => ?_)
              refine lv_iconst (v := 1) X.1 X.2.1 dX12_put_38 (by decide +kernel) ?_
              refine lv_iadd X.1 X.2.1 dX12_put_39 ?_
              refine lv_topi (fun f32 ef32 => ?_)
              have nb24 := sg_nbq ef2 ef3 (sg_kc (24) (iv_c 24 (a := 24) (b := 24) (by decide +kernel)) (by decide +kernel)) c4
              have nb16 := sg_nbq ef13 ef14 (sg_kc (16) (iv_add (a' := 16) (b' := 16) ey11 (iv_c 24 (a := 24) (b := 24) (by decide +kernel)) (iv_c _ (a := (-8)) (b := (-8)) (by decide +kernel)) (by decide +kernel)) (by decide +kernel)) c15
              have nb8 := sg_nbq ef24 ef25 (sg_kc (8) (iv_add (a' := 8) (b' := 8) ey22 (iv_add (a' := 16) (b' := 16) ey11 (iv_c 24 (a := 24) (b := 24) (by decide +kernel)) (iv_c _ (a := (-8)) (b := (-8)) (by decide +kernel)) (by decide +kernel)) (iv_c _ (a := (-8)) (b := (-8)) (by decide +kernel)) (by decide +kernel)) (by decide +kernel)) c26
              have nl24 := sg_nb1_le x1 24
              have nl16 := sg_nb1_le x1 16
              have nl8 := sg_nb1_le x1 8
              have nl0 := sg_nb1_le x1 0
              have hnb : sg_nb x1 = sg_nb1 x1 24 + sg_nb1 x1 16 + sg_nb1 x1 8 + sg_nb1 x1 0 := rfl
              have hx40 : f31.toInt = (((sgL2 P) + 1) + 1) := sgC240_eq (l := (((sgL2 P) + 1) + 1)) pf31 (by omega) (by omega)
              have hz40 : f32.toInt = (((sgL2 P) + 1) + 1) + 1 := by rw [sg_inc (k := 1) ef32 hf31 (by decide +kernel), hx40]
              have hy40 : iv 1 240 f32 := ⟨by omega, by omega⟩
              refine pf_X12_6q X hK hG hS h0 wl_6_184 (iv_of hy40 (a' := 0) (b' := 240) (by decide +kernel)) dX12_put_40 (fun H locs hG hS => ?_)
              have hl43 : f32.toInt = (((sgL2 P) + 1) + 1) + 1 := by rw [sg_inc (k := 1) ef32 hf31 (by decide +kernel), sgC240_eq (l := (((sgL2 P) + 1) + 1)) pf31 (by omega) (by omega)]
              rw [hl43] at hG
              obtain ⟨y33, ey33⟩ : ∃ y : Int32, y = y22 + Int32.ofInt (-8) := ⟨_, rfl⟩
              refine lv_iinc (v := y33) (lv' := [(2, .int y33), (0, .ref a0), (1, .int x1)]) X.1 X.2.1 dX12_put_43 hl (k := 0) rfl ey33.symm (by decide) rfl (fun ls hl => ?_)
              refine lv_goto (tgt := 3) X.1 X.2.1 dX12_put_46 (by decide) ?_
              refine lv_iload_n X.1 X.2.1 dX12_put_3 rfl (lv_at hl 0 rfl) ?_
              refine lv_if_lt (tgt := 49) X.1 X.2.1 dX12_put_4 (by decide) (fun c34 => ?_) (fun c34 => ?_)
              · exact ((iv_no (iv_lt (b' := (-1)) c34 (iv_add (a' := 0) (b' := 0) ey33 (iv_add (a' := 8) (b' := 8) ey22 (iv_add (a' := 16) (b' := 16) ey11 (iv_c 24 (a := 24) (b := 24) (by decide +kernel)) (iv_c _ (a := (-8)) (b := (-8)) (by decide +kernel)) (by decide +kernel)) (iv_c _ (a := (-8)) (b := (-8)) (by decide +kernel)) (by decide +kernel)) (iv_c _ (a := (-8)) (b := (-8)) (by decide +kernel)) (by decide +kernel)) (iv_c 0 (a := 0) (b := 0) (by decide +kernel)) (by decide +kernel)) (by decide +kernel))).elim
              · refine lv_iload_n X.1 X.2.1 dX12_put_7 rfl (lv_at hl 2 rfl) ?_
                refine lv_iload_n X.1 X.2.1 dX12_put_8 rfl (lv_at hl 0 rfl) ?_
                refine lv_ishr X.1 X.2.1 dX12_put_9 ?_
                refine lv_topi (fun f35 ef35 => ?_)
                refine lv_sipush (v := 255) X.1 X.2.1 dX12_put_10 (by decide +kernel) ?_
                refine lv_iand X.1 X.2.1 dX12_put_13 ?_
                refine lv_topi (fun f36 ef36 => ?_)
                refine lv_if_ne (tgt := 20) X.1 X.2.1 dX12_put_14 (by decide) (fun c37 => ?_) (fun c37 => ?_)
                · refine lv_aload_n X.1 X.2.1 dX12_put_20 rfl (lv_at hl 1 rfl) ?_
                  refine gf_X12_1 X hK hG h0 wl_6_179 dX12_put_21 (fun q38 hq38 kq38 => ?_)
                  refine lv_aload_n X.1 X.2.1 dX12_put_24 rfl (lv_at hl 1 rfl) ?_
                  refine gf_X12_6 X hK hG h0 wl_6_184 dX12_put_25 (fun f39 hf39 pf39 kf39 => ?_)
                  have nb24 := sg_nbq ef2 ef3 (sg_kc (24) (iv_c 24 (a := 24) (b := 24) (by decide +kernel)) (by decide +kernel)) c4
                  have nb16 := sg_nbq ef13 ef14 (sg_kc (16) (iv_add (a' := 16) (b' := 16) ey11 (iv_c 24 (a := 24) (b := 24) (by decide +kernel)) (iv_c _ (a := (-8)) (b := (-8)) (by decide +kernel)) (by decide +kernel)) (by decide +kernel)) c15
                  have nb8 := sg_nbq ef24 ef25 (sg_kc (8) (iv_add (a' := 8) (b' := 8) ey22 (iv_add (a' := 16) (b' := 16) ey11 (iv_c 24 (a := 24) (b := 24) (by decide +kernel)) (iv_c _ (a := (-8)) (b := (-8)) (by decide +kernel)) (by decide +kernel)) (iv_c _ (a := (-8)) (b := (-8)) (by decide +kernel)) (by decide +kernel)) (by decide +kernel)) c26
                  have nb0 := sg_nbq ef35 ef36 (sg_kc (0) (iv_add (a' := 0) (b' := 0) ey33 (iv_add (a' := 8) (b' := 8) ey22 (iv_add (a' := 16) (b' := 16) ey11 (iv_c 24 (a := 24) (b := 24) (by decide +kernel)) (iv_c _ (a := (-8)) (b := (-8)) (by decide +kernel)) (by decide +kernel)) (iv_c _ (a := (-8)) (b := (-8)) (by decide +kernel)) (by decide +kernel)) (iv_c _ (a := (-8)) (b := (-8)) (by decide +kernel)) (by decide +kernel)) (by decide +kernel)) c37
                  have nl24 := sg_nb1_le x1 24
                  have nl16 := sg_nb1_le x1 16
                  have nl8 := sg_nb1_le x1 8
                  have nl0 := sg_nb1_le x1 0
                  have hnb : sg_nb x1 = sg_nb1 x1 24 + sg_nb1 x1 16 + sg_nb1 x1 8 + sg_nb1 x1 0 := rfl
                  have hx28 : f39.toInt = ((((sgL2 P) + 1) + 1) + 1) := sgC240_eq (l := ((((sgL2 P) + 1) + 1) + 1)) pf39 (by omega) (by omega)
                  have hy28 : iv 0 239 f39 := ⟨by omega, by omega⟩
                  refine lv_iload_n X.1 X.2.1 dX12_put_28 rfl (lv_at hl 2 rfl) ?_
                  refine lv_iload_n X.1 X.2.1 dX12_put_29 rfl (lv_at hl 0 rfl) ?_
                  refine lv_ishr X.1 X.2.1 dX12_put_30 ?_
                  refine lv_topi (fun f40 ef40 => ?_)
                  obtain ⟨f41, ef41⟩ : ∃ y : Int32, y = (f40 : Int32).toInt8.toInt32 := ⟨_, rfl⟩
                  refine lv_i2b (v := f41) X.1 X.2.1 dX12_put_31 ef41.symm ?_
                  refine as_45q X hK hG hS hq38 (iv_vpin hy28 (by decide +kernel)) dX12_put_32 (fun H locs hG hS => ?_)
                  rw [sgC240_ix (l := ((((sgL2 P) + 1) + 1) + 1)) pf39 (by omega) (by omega), sgB2_of ef40 ef41 (sg_kc (0) (iv_add (a' := 0) (b' := 0) ey33 (iv_add (a' := 8) (b' := 8) ey22 (iv_add (a' := 16) (b' := 16) ey11 (iv_c 24 (a := 24) (b := 24) (by decide +kernel)) (iv_c _ (a := (-8)) (b := (-8)) (by decide +kernel)) (by decide +kernel)) (iv_c _ (a := (-8)) (b := (-8)) (by decide +kernel)) (by decide +kernel)) (iv_c _ (a := (-8)) (b := (-8)) (by decide +kernel)) (by decide +kernel)) (by decide +kernel))] at hG
                  refine lv_aload_n X.1 X.2.1 dX12_put_33 rfl (lv_at hl 1 rfl) ?_
                  refine lv_dup X.1 X.2.1 dX12_put_34 rfl ?_
                  refine gf_X12_6 X hK hG h0 wl_6_184 dX12_put_35 (fun f42 hf42 pf42 kf42 => ?_)
                  refine lv_iconst (v := 1) X.1 X.2.1 dX12_put_38 (by decide +kernel) ?_
                  refine lv_iadd X.1 X.2.1 dX12_put_39 ?_
                  refine lv_topi (fun f43 ef43 => ?_)
                  have nb24 := sg_nbq ef2 ef3 (sg_kc (24) (iv_c 24 (a := 24) (b := 24) (by decide +kernel)) (by decide +kernel)) c4
                  have nb16 := sg_nbq ef13 ef14 (sg_kc (16) (iv_add (a' := 16) (b' := 16) ey11 (iv_c 24 (a := 24) (b := 24) (by decide +kernel)) (iv_c _ (a := (-8)) (b := (-8)) (by decide +kernel)) (by decide +kernel)) (by decide +kernel)) c15
                  have nb8 := sg_nbq ef24 ef25 (sg_kc (8) (iv_add (a' := 8) (b' := 8) ey22 (iv_add (a' := 16) (b' := 16) ey11 (iv_c 24 (a := 24) (b := 24) (by decide +kernel)) (iv_c _ (a := (-8)) (b := (-8)) (by decide +kernel)) (by decide +kernel)) (iv_c _ (a := (-8)) (b := (-8)) (by decide +kernel)) (by decide +kernel)) (by decide +kernel)) c26
                  have nb0 := sg_nbq ef35 ef36 (sg_kc (0) (iv_add (a' := 0) (b' := 0) ey33 (iv_add (a' := 8) (b' := 8) ey22 (iv_add (a' := 16) (b' := 16) ey11 (iv_c 24 (a := 24) (b := 24) (by decide +kernel)) (iv_c _ (a := (-8)) (b := (-8)) (by decide +kernel)) (by decide +kernel)) (iv_c _ (a := (-8)) (b := (-8)) (by decide +kernel)) (by decide +kernel)) (iv_c _ (a := (-8)) (b := (-8)) (by decide +kernel)) (by decide +kernel)) (by decide +kernel)) c37
                  have nl24 := sg_nb1_le x1 24
                  have nl16 := sg_nb1_le x1 16
                  have nl8 := sg_nb1_le x1 8
                  have nl0 := sg_nb1_le x1 0
                  have hnb : sg_nb x1 = sg_nb1 x1 24 + sg_nb1 x1 16 + sg_nb1 x1 8 + sg_nb1 x1 0 := rfl
                  have hx40 : f42.toInt = ((((sgL2 P) + 1) + 1) + 1) := sgC240_eq (l := ((((sgL2 P) + 1) + 1) + 1)) pf42 (by omega) (by omega)
                  have hz40 : f43.toInt = ((((sgL2 P) + 1) + 1) + 1) + 1 := by rw [sg_inc (k := 1) ef43 hf42 (by decide +kernel), hx40]
                  have hy40 : iv 1 240 f43 := ⟨by omega, by omega⟩
                  refine pf_X12_6q X hK hG hS h0 wl_6_184 (iv_of hy40 (a' := 0) (b' := 240) (by decide +kernel)) dX12_put_40 (fun H locs hG hS => ?_)
                  have hl43 : f43.toInt = ((((sgL2 P) + 1) + 1) + 1) + 1 := by rw [sg_inc (k := 1) ef43 hf42 (by decide +kernel), sgC240_eq (l := ((((sgL2 P) + 1) + 1) + 1)) pf42 (by omega) (by omega)]
                  rw [hl43] at hG
                  obtain ⟨y44, ey44⟩ : ∃ y : Int32, y = y33 + Int32.ofInt (-8) := ⟨_, rfl⟩
                  refine lv_iinc (v := y44) (lv' := [(2, .int y44), (0, .ref a0), (1, .int x1)]) X.1 X.2.1 dX12_put_43 hl (k := 0) rfl ey44.symm (by decide) rfl (fun ls hl => ?_)
                  refine lv_goto (tgt := 3) X.1 X.2.1 dX12_put_46 (by decide) ?_
                  refine lv_iload_n X.1 X.2.1 dX12_put_3 rfl (lv_at hl 0 rfl) ?_
                  refine lv_if_lt (tgt := 49) X.1 X.2.1 dX12_put_4 (by decide) (fun c45 => ?_) (fun c45 => ?_)
                  · have hap : sgAp2 x1 (sgT2 P, sgL2 P) = ((sgUp (sgUp (sgUp (sgUp (sgT2 P) ((sgL2 P)).toNat (sgB2 x1 24)) (((sgL2 P) + 1)).toNat (sgB2 x1 16)) ((((sgL2 P) + 1) + 1)).toNat (sgB2 x1 8)) (((((sgL2 P) + 1) + 1) + 1)).toNat (sgB2 x1 0)), (((((sgL2 P) + 1) + 1) + 1) + 1)) := by unfold sgAp2; rw [sgA2_1 ef2 ef3 (sg_kc (24) (iv_c 24 (a := 24) (b := 24) (by decide +kernel)) (by decide +kernel)) c4, sgA2_1 ef13 ef14 (sg_kc (16) (iv_add (a' := 16) (b' := 16) ey11 (iv_c 24 (a := 24) (b := 24) (by decide +kernel)) (iv_c _ (a := (-8)) (b := (-8)) (by decide +kernel)) (by decide +kernel)) (by decide +kernel)) c15, sgA2_1 ef24 ef25 (sg_kc (8) (iv_add (a' := 8) (b' := 8) ey22 (iv_add (a' := 16) (b' := 16) ey11 (iv_c 24 (a := 24) (b := 24) (by decide +kernel)) (iv_c _ (a := (-8)) (b := (-8)) (by decide +kernel)) (by decide +kernel)) (iv_c _ (a := (-8)) (b := (-8)) (by decide +kernel)) (by decide +kernel)) (by decide +kernel)) c26, sgA2_1 ef35 ef36 (sg_kc (0) (iv_add (a' := 0) (b' := 0) ey33 (iv_add (a' := 8) (b' := 8) ey22 (iv_add (a' := 16) (b' := 16) ey11 (iv_c 24 (a := 24) (b := 24) (by decide +kernel)) (iv_c _ (a := (-8)) (b := (-8)) (by decide +kernel)) (by decide +kernel)) (iv_c _ (a := (-8)) (b := (-8)) (by decide +kernel)) (by decide +kernel)) (iv_c _ (a := (-8)) (b := (-8)) (by decide +kernel)) (by decide +kernel)) (by decide +kernel)) c37]
                    exact sg_vret2 X hr hlk hS (fun t ht hW => (by rw [hap]; exact sg_post hb hK hC hG hS ht hW)) dX12_put_49
                  · exact ((iv_no (iv_le (b' := (-8)) (iv_ge_of c45) (iv_c 0 (a := 0) (b := 0) (by decide +kernel)) (iv_add (a' := (-8)) (b' := (-8)) ey44 (iv_add (a' := 0) (b' := 0) ey33 (iv_add (a' := 8) (b' := 8) ey22 (iv_add (a' := 16) (b' := 16) ey11 (iv_c 24 (a := 24) (b := 24) (by decide +kernel)) (iv_c _ (a := (-8)) (b := (-8)) (by decide +kernel)) (by decide +kernel)) (iv_c _ (a := (-8)) (b := (-8)) (by decide +kernel)) (by decide +kernel)) (iv_c _ (a := (-8)) (b := (-8)) (by decide +kernel)) (by decide +kernel)) (iv_c _ (a := (-8)) (b := (-8)) (by decide +kernel)) (by decide +kernel)) (by decide +kernel)) (by decide +kernel))).elim
                · refine lv_goto (tgt := 43) X.1 X.2.1 dX12_put_17 (by decide) ?_
                  obtain ⟨y46, ey46⟩ : ∃ y : Int32, y = y33 + Int32.ofInt (-8) := ⟨_, rfl⟩
                  refine lv_iinc (v := y46) (lv' := [(2, .int y46), (0, .ref a0), (1, .int x1)]) X.1 X.2.1 dX12_put_43 hl (k := 0) rfl ey46.symm (by decide) rfl (fun ls hl => ?_)
                  refine lv_goto (tgt := 3) X.1 X.2.1 dX12_put_46 (by decide) ?_
                  refine lv_iload_n X.1 X.2.1 dX12_put_3 rfl (lv_at hl 0 rfl) ?_
                  refine lv_if_lt (tgt := 49) X.1 X.2.1 dX12_put_4 (by decide) (fun c47 => ?_) (fun c47 => ?_)
                  · have hap : sgAp2 x1 (sgT2 P, sgL2 P) = ((sgUp (sgUp (sgUp (sgT2 P) ((sgL2 P)).toNat (sgB2 x1 24)) (((sgL2 P) + 1)).toNat (sgB2 x1 16)) ((((sgL2 P) + 1) + 1)).toNat (sgB2 x1 8)), ((((sgL2 P) + 1) + 1) + 1)) := by unfold sgAp2; rw [sgA2_1 ef2 ef3 (sg_kc (24) (iv_c 24 (a := 24) (b := 24) (by decide +kernel)) (by decide +kernel)) c4, sgA2_1 ef13 ef14 (sg_kc (16) (iv_add (a' := 16) (b' := 16) ey11 (iv_c 24 (a := 24) (b := 24) (by decide +kernel)) (iv_c _ (a := (-8)) (b := (-8)) (by decide +kernel)) (by decide +kernel)) (by decide +kernel)) c15, sgA2_1 ef24 ef25 (sg_kc (8) (iv_add (a' := 8) (b' := 8) ey22 (iv_add (a' := 16) (b' := 16) ey11 (iv_c 24 (a := 24) (b := 24) (by decide +kernel)) (iv_c _ (a := (-8)) (b := (-8)) (by decide +kernel)) (by decide +kernel)) (iv_c _ (a := (-8)) (b := (-8)) (by decide +kernel)) (by decide +kernel)) (by decide +kernel)) c26, sgA2_0 ef35 ef36 (sg_kc (0) (iv_add (a' := 0) (b' := 0) ey33 (iv_add (a' := 8) (b' := 8) ey22 (iv_add (a' := 16) (b' := 16) ey11 (iv_c 24 (a := 24) (b := 24) (by decide +kernel)) (iv_c _ (a := (-8)) (b := (-8)) (by decide +kernel)) (by decide +kernel)) (iv_c _ (a := (-8)) (b := (-8)) (by decide +kernel)) (by decide +kernel)) (iv_c _ (a := (-8)) (b := (-8)) (by decide +kernel)) (by decide +kernel)) (by decide +kernel)) c37]
                    exact sg_vret2 X hr hlk hS (fun t ht hW => (by rw [hap]; exact sg_post hb hK hC hG hS ht hW)) dX12_put_49
                  · exact ((iv_no (iv_le (b' := (-8)) (iv_ge_of c47) (iv_c 0 (a := 0) (b := 0) (by decide +kernel)) (iv_add (a' := (-8)) (b' := (-8)) ey46 (iv_add (a' := 0) (b' := 0) ey33 (iv_add (a' := 8) (b' := 8) ey22 (iv_add (a' := 16) (b' := 16) ey11 (iv_c 24 (a := 24) (b := 24) (by decide +kernel)) (iv_c _ (a := (-8)) (b := (-8)) (by decide +kernel)) (by decide +kernel)) (iv_c _ (a := (-8)) (b := (-8)) (by decide +kernel)) (by decide +kernel)) (iv_c _ (a := (-8)) (b := (-8)) (by decide +kernel)) (by decide +kernel)) (iv_c _ (a := (-8)) (b := (-8)) (by decide +kernel)) (by decide +kernel)) (by decide +kernel)) (by decide +kernel))).elim
            · refine lv_goto (tgt := 43) X.1 X.2.1 dX12_put_17 (by decide) ?_
              obtain ⟨y48, ey48⟩ : ∃ y : Int32, y = y22 + Int32.ofInt (-8) := ⟨_, rfl⟩
              refine lv_iinc (v := y48) (lv' := [(2, .int y48), (0, .ref a0), (1, .int x1)]) X.1 X.2.1 dX12_put_43 hl (k := 0) rfl ey48.symm (by decide) rfl (fun ls hl => ?_)
              refine lv_goto (tgt := 3) X.1 X.2.1 dX12_put_46 (by decide) ?_
              refine lv_iload_n X.1 X.2.1 dX12_put_3 rfl (lv_at hl 0 rfl) ?_
              refine lv_if_lt (tgt := 49) X.1 X.2.1 dX12_put_4 (by decide) (fun c49 => ?_) (fun c49 => ?_)
              · exact ((iv_no (iv_lt (b' := (-1)) c49 (iv_add (a' := 0) (b' := 0) ey48 (iv_add (a' := 8) (b' := 8) ey22 (iv_add (a' := 16) (b' := 16) ey11 (iv_c 24 (a := 24) (b := 24) (by decide +kernel)) (iv_c _ (a := (-8)) (b := (-8)) (by decide +kernel)) (by decide +kernel)) (iv_c _ (a := (-8)) (b := (-8)) (by decide +kernel)) (by decide +kernel)) (iv_c _ (a := (-8)) (b := (-8)) (by decide +kernel)) (by decide +kernel)) (iv_c 0 (a := 0) (b := 0) (by decide +kernel)) (by decide +kernel)) (by decide +kernel))).elim
              · refine lv_iload_n X.1 X.2.1 dX12_put_7 rfl (lv_at hl 2 rfl) ?_
                refine lv_iload_n X.1 X.2.1 dX12_put_8 rfl (lv_at hl 0 rfl) ?_
                refine lv_ishr X.1 X.2.1 dX12_put_9 ?_
                refine lv_topi (fun f50 ef50 => ?_)
                refine lv_sipush (v := 255) X.1 X.2.1 dX12_put_10 (by decide +kernel) ?_
                refine lv_iand X.1 X.2.1 dX12_put_13 ?_
                refine lv_topi (fun f51 ef51 => ?_)
                refine lv_if_ne (tgt := 20) X.1 X.2.1 dX12_put_14 (by decide) (fun c52 => ?_) (fun c52 => ?_)
                · refine lv_aload_n X.1 X.2.1 dX12_put_20 rfl (lv_at hl 1 rfl) ?_
                  refine gf_X12_1 X hK hG h0 wl_6_179 dX12_put_21 (fun q53 hq53 kq53 => ?_)
                  refine lv_aload_n X.1 X.2.1 dX12_put_24 rfl (lv_at hl 1 rfl) ?_
                  refine gf_X12_6 X hK hG h0 wl_6_184 dX12_put_25 (fun f54 hf54 pf54 kf54 => ?_)
                  have nb24 := sg_nbq ef2 ef3 (sg_kc (24) (iv_c 24 (a := 24) (b := 24) (by decide +kernel)) (by decide +kernel)) c4
                  have nb16 := sg_nbq ef13 ef14 (sg_kc (16) (iv_add (a' := 16) (b' := 16) ey11 (iv_c 24 (a := 24) (b := 24) (by decide +kernel)) (iv_c _ (a := (-8)) (b := (-8)) (by decide +kernel)) (by decide +kernel)) (by decide +kernel)) c15
                  have nb8 := sg_nbp ef24 ef25 (sg_kc (8) (iv_add (a' := 8) (b' := 8) ey22 (iv_add (a' := 16) (b' := 16) ey11 (iv_c 24 (a := 24) (b := 24) (by decide +kernel)) (iv_c _ (a := (-8)) (b := (-8)) (by decide +kernel)) (by decide +kernel)) (iv_c _ (a := (-8)) (b := (-8)) (by decide +kernel)) (by decide +kernel)) (by decide +kernel)) c26
                  have nb0 := sg_nbq ef50 ef51 (sg_kc (0) (iv_add (a' := 0) (b' := 0) ey48 (iv_add (a' := 8) (b' := 8) ey22 (iv_add (a' := 16) (b' := 16) ey11 (iv_c 24 (a := 24) (b := 24) (by decide +kernel)) (iv_c _ (a := (-8)) (b := (-8)) (by decide +kernel)) (by decide +kernel)) (iv_c _ (a := (-8)) (b := (-8)) (by decide +kernel)) (by decide +kernel)) (iv_c _ (a := (-8)) (b := (-8)) (by decide +kernel)) (by decide +kernel)) (by decide +kernel)) c52
                  have nl24 := sg_nb1_le x1 24
                  have nl16 := sg_nb1_le x1 16
                  have nl8 := sg_nb1_le x1 8
                  have nl0 := sg_nb1_le x1 0
                  have hnb : sg_nb x1 = sg_nb1 x1 24 + sg_nb1 x1 16 + sg_nb1 x1 8 + sg_nb1 x1 0 := rfl
                  have hx28 : f54.toInt = (((sgL2 P) + 1) + 1) := sgC240_eq (l := (((sgL2 P) + 1) + 1)) pf54 (by omega) (by omega)
                  have hy28 : iv 0 239 f54 := ⟨by omega, by omega⟩
                  refine lv_iload_n X.1 X.2.1 dX12_put_28 rfl (lv_at hl 2 rfl) ?_
                  refine lv_iload_n X.1 X.2.1 dX12_put_29 rfl (lv_at hl 0 rfl) ?_
                  refine lv_ishr X.1 X.2.1 dX12_put_30 ?_
                  refine lv_topi (fun f55 ef55 => ?_)
                  obtain ⟨f56, ef56⟩ : ∃ y : Int32, y = (f55 : Int32).toInt8.toInt32 := ⟨_, rfl⟩
                  refine lv_i2b (v := f56) X.1 X.2.1 dX12_put_31 ef56.symm ?_
                  refine as_45q X hK hG hS hq53 (iv_vpin hy28 (by decide +kernel)) dX12_put_32 (fun H locs hG hS => ?_)
                  rw [sgC240_ix (l := (((sgL2 P) + 1) + 1)) pf54 (by omega) (by omega), sgB2_of ef55 ef56 (sg_kc (0) (iv_add (a' := 0) (b' := 0) ey48 (iv_add (a' := 8) (b' := 8) ey22 (iv_add (a' := 16) (b' := 16) ey11 (iv_c 24 (a := 24) (b := 24) (by decide +kernel)) (iv_c _ (a := (-8)) (b := (-8)) (by decide +kernel)) (by decide +kernel)) (iv_c _ (a := (-8)) (b := (-8)) (by decide +kernel)) (by decide +kernel)) (iv_c _ (a := (-8)) (b := (-8)) (by decide +kernel)) (by decide +kernel)) (by decide +kernel))] at hG
                  refine lv_aload_n X.1 X.2.1 dX12_put_33 rfl (lv_at hl 1 rfl) ?_
                  refine lv_dup X.1 X.2.1 dX12_put_34 rfl ?_
                  refine gf_X12_6 X hK hG h0 wl_6_184 dX12_put_35 (fun f57 hf57 pf57 kf57 => ?_)
                  refine lv_iconst (v := 1) X.1 X.2.1 dX12_put_38 (by decide +kernel) ?_
                  refine lv_iadd X.1 X.2.1 dX12_put_39 ?_
                  refine lv_topi (fun f58 ef58 => ?_)
                  have nb24 := sg_nbq ef2 ef3 (sg_kc (24) (iv_c 24 (a := 24) (b := 24) (by decide +kernel)) (by decide +kernel)) c4
                  have nb16 := sg_nbq ef13 ef14 (sg_kc (16) (iv_add (a' := 16) (b' := 16) ey11 (iv_c 24 (a := 24) (b := 24) (by decide +kernel)) (iv_c _ (a := (-8)) (b := (-8)) (by decide +kernel)) (by decide +kernel)) (by decide +kernel)) c15
                  have nb8 := sg_nbp ef24 ef25 (sg_kc (8) (iv_add (a' := 8) (b' := 8) ey22 (iv_add (a' := 16) (b' := 16) ey11 (iv_c 24 (a := 24) (b := 24) (by decide +kernel)) (iv_c _ (a := (-8)) (b := (-8)) (by decide +kernel)) (by decide +kernel)) (iv_c _ (a := (-8)) (b := (-8)) (by decide +kernel)) (by decide +kernel)) (by decide +kernel)) c26
                  have nb0 := sg_nbq ef50 ef51 (sg_kc (0) (iv_add (a' := 0) (b' := 0) ey48 (iv_add (a' := 8) (b' := 8) ey22 (iv_add (a' := 16) (b' := 16) ey11 (iv_c 24 (a := 24) (b := 24) (by decide +kernel)) (iv_c _ (a := (-8)) (b := (-8)) (by decide +kernel)) (by decide +kernel)) (iv_c _ (a := (-8)) (b := (-8)) (by decide +kernel)) (by decide +kernel)) (iv_c _ (a := (-8)) (b := (-8)) (by decide +kernel)) (by decide +kernel)) (by decide +kernel)) c52
                  have nl24 := sg_nb1_le x1 24
                  have nl16 := sg_nb1_le x1 16
                  have nl8 := sg_nb1_le x1 8
                  have nl0 := sg_nb1_le x1 0
                  have hnb : sg_nb x1 = sg_nb1 x1 24 + sg_nb1 x1 16 + sg_nb1 x1 8 + sg_nb1 x1 0 := rfl
                  have hx40 : f57.toInt = (((sgL2 P) + 1) + 1) := sgC240_eq (l := (((sgL2 P) + 1) + 1)) pf57 (by omega) (by omega)
                  have hz40 : f58.toInt = (((sgL2 P) + 1) + 1) + 1 := by rw [sg_inc (k := 1) ef58 hf57 (by decide +kernel), hx40]
                  have hy40 : iv 1 240 f58 := ⟨by omega, by omega⟩
                  refine pf_X12_6q X hK hG hS h0 wl_6_184 (iv_of hy40 (a' := 0) (b' := 240) (by decide +kernel)) dX12_put_40 (fun H locs hG hS => ?_)
                  have hl43 : f58.toInt = (((sgL2 P) + 1) + 1) + 1 := by rw [sg_inc (k := 1) ef58 hf57 (by decide +kernel), sgC240_eq (l := (((sgL2 P) + 1) + 1)) pf57 (by omega) (by omega)]
                  rw [hl43] at hG
                  obtain ⟨y59, ey59⟩ : ∃ y : Int32, y = y48 + Int32.ofInt (-8) := ⟨_, rfl⟩
                  refine lv_iinc (v := y59) (lv' := [(2, .int y59), (0, .ref a0), (1, .int x1)]) X.1 X.2.1 dX12_put_43 hl (k := 0) rfl ey59.symm (by decide) rfl (fun ls hl => ?_)
                  refine lv_goto (tgt := 3) X.1 X.2.1 dX12_put_46 (by decide) ?_
                  refine lv_iload_n X.1 X.2.1 dX12_put_3 rfl (lv_at hl 0 rfl) ?_
                  refine lv_if_lt (tgt := 49) X.1 X.2.1 dX12_put_4 (by decide) (fun c60 => ?_) (fun c60 => ?_)
                  · have hap : sgAp2 x1 (sgT2 P, sgL2 P) = ((sgUp (sgUp (sgUp (sgT2 P) ((sgL2 P)).toNat (sgB2 x1 24)) (((sgL2 P) + 1)).toNat (sgB2 x1 16)) ((((sgL2 P) + 1) + 1)).toNat (sgB2 x1 0)), ((((sgL2 P) + 1) + 1) + 1)) := by unfold sgAp2; rw [sgA2_1 ef2 ef3 (sg_kc (24) (iv_c 24 (a := 24) (b := 24) (by decide +kernel)) (by decide +kernel)) c4, sgA2_1 ef13 ef14 (sg_kc (16) (iv_add (a' := 16) (b' := 16) ey11 (iv_c 24 (a := 24) (b := 24) (by decide +kernel)) (iv_c _ (a := (-8)) (b := (-8)) (by decide +kernel)) (by decide +kernel)) (by decide +kernel)) c15, sgA2_0 ef24 ef25 (sg_kc (8) (iv_add (a' := 8) (b' := 8) ey22 (iv_add (a' := 16) (b' := 16) ey11 (iv_c 24 (a := 24) (b := 24) (by decide +kernel)) (iv_c _ (a := (-8)) (b := (-8)) (by decide +kernel)) (by decide +kernel)) (iv_c _ (a := (-8)) (b := (-8)) (by decide +kernel)) (by decide +kernel)) (by decide +kernel)) c26, sgA2_1 ef50 ef51 (sg_kc (0) (iv_add (a' := 0) (b' := 0) ey48 (iv_add (a' := 8) (b' := 8) ey22 (iv_add (a' := 16) (b' := 16) ey11 (iv_c 24 (a := 24) (b := 24) (by decide +kernel)) (iv_c _ (a := (-8)) (b := (-8)) (by decide +kernel)) (by decide +kernel)) (iv_c _ (a := (-8)) (b := (-8)) (by decide +kernel)) (by decide +kernel)) (iv_c _ (a := (-8)) (b := (-8)) (by decide +kernel)) (by decide +kernel)) (by decide +kernel)) c52]
                    exact sg_vret2 X hr hlk hS (fun t ht hW => (by rw [hap]; exact sg_post hb hK hC hG hS ht hW)) dX12_put_49
                  · exact ((iv_no (iv_le (b' := (-8)) (iv_ge_of c60) (iv_c 0 (a := 0) (b := 0) (by decide +kernel)) (iv_add (a' := (-8)) (b' := (-8)) ey59 (iv_add (a' := 0) (b' := 0) ey48 (iv_add (a' := 8) (b' := 8) ey22 (iv_add (a' := 16) (b' := 16) ey11 (iv_c 24 (a := 24) (b := 24) (by decide +kernel)) (iv_c _ (a := (-8)) (b := (-8)) (by decide +kernel)) (by decide +kernel)) (iv_c _ (a := (-8)) (b := (-8)) (by decide +kernel)) (by decide +kernel)) (iv_c _ (a := (-8)) (b := (-8)) (by decide +kernel)) (by decide +kernel)) (iv_c _ (a := (-8)) (b := (-8)) (by decide +kernel)) (by decide +kernel)) (by decide +kernel)) (by decide +kernel))).elim
                · refine lv_goto (tgt := 43) X.1 X.2.1 dX12_put_17 (by decide) ?_
                  obtain ⟨y61, ey61⟩ : ∃ y : Int32, y = y48 + Int32.ofInt (-8) := ⟨_, rfl⟩
                  refine lv_iinc (v := y61) (lv' := [(2, .int y61), (0, .ref a0), (1, .int x1)]) X.1 X.2.1 dX12_put_43 hl (k := 0) rfl ey61.symm (by decide) rfl (fun ls hl => ?_)
                  refine lv_goto (tgt := 3) X.1 X.2.1 dX12_put_46 (by decide) ?_
                  refine lv_iload_n X.1 X.2.1 dX12_put_3 rfl (lv_at hl 0 rfl) ?_
                  refine lv_if_lt (tgt := 49) X.1 X.2.1 dX12_put_4 (by decide) (fun c62 => ?_) (fun c62 => ?_)
                  · have hap : sgAp2 x1 (sgT2 P, sgL2 P) = ((sgUp (sgUp (sgT2 P) ((sgL2 P)).toNat (sgB2 x1 24)) (((sgL2 P) + 1)).toNat (sgB2 x1 16)), (((sgL2 P) + 1) + 1)) := by unfold sgAp2; rw [sgA2_1 ef2 ef3 (sg_kc (24) (iv_c 24 (a := 24) (b := 24) (by decide +kernel)) (by decide +kernel)) c4, sgA2_1 ef13 ef14 (sg_kc (16) (iv_add (a' := 16) (b' := 16) ey11 (iv_c 24 (a := 24) (b := 24) (by decide +kernel)) (iv_c _ (a := (-8)) (b := (-8)) (by decide +kernel)) (by decide +kernel)) (by decide +kernel)) c15, sgA2_0 ef24 ef25 (sg_kc (8) (iv_add (a' := 8) (b' := 8) ey22 (iv_add (a' := 16) (b' := 16) ey11 (iv_c 24 (a := 24) (b := 24) (by decide +kernel)) (iv_c _ (a := (-8)) (b := (-8)) (by decide +kernel)) (by decide +kernel)) (iv_c _ (a := (-8)) (b := (-8)) (by decide +kernel)) (by decide +kernel)) (by decide +kernel)) c26, sgA2_0 ef50 ef51 (sg_kc (0) (iv_add (a' := 0) (b' := 0) ey48 (iv_add (a' := 8) (b' := 8) ey22 (iv_add (a' := 16) (b' := 16) ey11 (iv_c 24 (a := 24) (b := 24) (by decide +kernel)) (iv_c _ (a := (-8)) (b := (-8)) (by decide +kernel)) (by decide +kernel)) (iv_c _ (a := (-8)) (b := (-8)) (by decide +kernel)) (by decide +kernel)) (iv_c _ (a := (-8)) (b := (-8)) (by decide +kernel)) (by decide +kernel)) (by decide +kernel)) c52]
                    exact sg_vret2 X hr hlk hS (fun t ht hW => (by rw [hap]; exact sg_post hb hK hC hG hS ht hW)) dX12_put_49
                  · exact ((iv_no (iv_le (b' := (-8)) (iv_ge_of c62) (iv_c 0 (a := 0) (b := 0) (by decide +kernel)) (iv_add (a' := (-8)) (b' := (-8)) ey61 (iv_add (a' := 0) (b' := 0) ey48 (iv_add (a' := 8) (b' := 8) ey22 (iv_add (a' := 16) (b' := 16) ey11 (iv_c 24 (a := 24) (b := 24) (by decide +kernel)) (iv_c _ (a := (-8)) (b := (-8)) (by decide +kernel)) (by decide +kernel)) (iv_c _ (a := (-8)) (b := (-8)) (by decide +kernel)) (by decide +kernel)) (iv_c _ (a := (-8)) (b := (-8)) (by decide +kernel)) (by decide +kernel)) (iv_c _ (a := (-8)) (b := (-8)) (by decide +kernel)) (by decide +kernel)) (by decide +kernel)) (by decide +kernel))).elim
        · refine lv_goto (tgt := 43) X.1 X.2.1 dX12_put_17 (by decide) ?_
          obtain ⟨y63, ey63⟩ : ∃ y : Int32, y = y11 + Int32.ofInt (-8) := ⟨_, rfl⟩
          refine lv_iinc (v := y63) (lv' := [(2, .int y63), (0, .ref a0), (1, .int x1)]) X.1 X.2.1 dX12_put_43 hl (k := 0) rfl ey63.symm (by decide) rfl (fun ls hl => ?_)
          refine lv_goto (tgt := 3) X.1 X.2.1 dX12_put_46 (by decide) ?_
          refine lv_iload_n X.1 X.2.1 dX12_put_3 rfl (lv_at hl 0 rfl) ?_
          refine lv_if_lt (tgt := 49) X.1 X.2.1 dX12_put_4 (by decide) (fun c64 => ?_) (fun c64 => ?_)
          · exact ((iv_no (iv_lt (b' := (-1)) c64 (iv_add (a' := 8) (b' := 8) ey63 (iv_add (a' := 16) (b' := 16) ey11 (iv_c 24 (a := 24) (b := 24) (by decide +kernel)) (iv_c _ (a := (-8)) (b := (-8)) (by decide +kernel)) (by decide +kernel)) (iv_c _ (a := (-8)) (b := (-8)) (by decide +kernel)) (by decide +kernel)) (iv_c 0 (a := 0) (b := 0) (by decide +kernel)) (by decide +kernel)) (by decide +kernel))).elim
          · refine lv_iload_n X.1 X.2.1 dX12_put_7 rfl (lv_at hl 2 rfl) ?_
            refine lv_iload_n X.1 X.2.1 dX12_put_8 rfl (lv_at hl 0 rfl) ?_
            refine lv_ishr X.1 X.2.1 dX12_put_9 ?_
            refine lv_topi (fun f65 ef65 => ?_)
            refine lv_sipush (v := 255) X.1 X.2.1 dX12_put_10 (by decide +kernel) ?_
            refine lv_iand X.1 X.2.1 dX12_put_13 ?_
            refine lv_topi (fun f66 ef66 => ?_)
            refine lv_if_ne (tgt := 20) X.1 X.2.1 dX12_put_14 (by decide) (fun c67 => ?_) (fun c67 => ?_)
            · refine lv_aload_n X.1 X.2.1 dX12_put_20 rfl (lv_at hl 1 rfl) ?_
              refine gf_X12_1 X hK hG h0 wl_6_179 dX12_put_21 (fun q68 hq68 kq68 => ?_)
              refine lv_aload_n X.1 X.2.1 dX12_put_24 rfl (lv_at hl 1 rfl) ?_
              refine gf_X12_6 X hK hG h0 wl_6_184 dX12_put_25 (fun f69 hf69 pf69 kf69 => ?_)
              have nb24 := sg_nbq ef2 ef3 (sg_kc (24) (iv_c 24 (a := 24) (b := 24) (by decide +kernel)) (by decide +kernel)) c4
              have nb16 := sg_nbp ef13 ef14 (sg_kc (16) (iv_add (a' := 16) (b' := 16) ey11 (iv_c 24 (a := 24) (b := 24) (by decide +kernel)) (iv_c _ (a := (-8)) (b := (-8)) (by decide +kernel)) (by decide +kernel)) (by decide +kernel)) c15
              have nb8 := sg_nbq ef65 ef66 (sg_kc (8) (iv_add (a' := 8) (b' := 8) ey63 (iv_add (a' := 16) (b' := 16) ey11 (iv_c 24 (a := 24) (b := 24) (by decide +kernel)) (iv_c _ (a := (-8)) (b := (-8)) (by decide +kernel)) (by decide +kernel)) (iv_c _ (a := (-8)) (b := (-8)) (by decide +kernel)) (by decide +kernel)) (by decide +kernel)) c67
              have nl24 := sg_nb1_le x1 24
              have nl16 := sg_nb1_le x1 16
              have nl8 := sg_nb1_le x1 8
              have nl0 := sg_nb1_le x1 0
              have hnb : sg_nb x1 = sg_nb1 x1 24 + sg_nb1 x1 16 + sg_nb1 x1 8 + sg_nb1 x1 0 := rfl
              have hx28 : f69.toInt = ((sgL2 P) + 1) := sgC240_eq (l := ((sgL2 P) + 1)) pf69 (by omega) (by omega)
              have hy28 : iv 0 239 f69 := ⟨by omega, by omega⟩
              refine lv_iload_n X.1 X.2.1 dX12_put_28 rfl (lv_at hl 2 rfl) ?_
              refine lv_iload_n X.1 X.2.1 dX12_put_29 rfl (lv_at hl 0 rfl) ?_
              refine lv_ishr X.1 X.2.1 dX12_put_30 ?_
              refine lv_topi (fun f70 ef70 => ?_)
              obtain ⟨f71, ef71⟩ : ∃ y : Int32, y = (f70 : Int32).toInt8.toInt32 := ⟨_, rfl⟩
              refine lv_i2b (v := f71) X.1 X.2.1 dX12_put_31 ef71.symm ?_
              refine as_45q X hK hG hS hq68 (iv_vpin hy28 (by decide +kernel)) dX12_put_32 (fun H locs hG hS => ?_)
              rw [sgC240_ix (l := ((sgL2 P) + 1)) pf69 (by omega) (by omega), sgB2_of ef70 ef71 (sg_kc (8) (iv_add (a' := 8) (b' := 8) ey63 (iv_add (a' := 16) (b' := 16) ey11 (iv_c 24 (a := 24) (b := 24) (by decide +kernel)) (iv_c _ (a := (-8)) (b := (-8)) (by decide +kernel)) (by decide +kernel)) (iv_c _ (a := (-8)) (b := (-8)) (by decide +kernel)) (by decide +kernel)) (by decide +kernel))] at hG
              refine lv_aload_n X.1 X.2.1 dX12_put_33 rfl (lv_at hl 1 rfl) ?_
              refine lv_dup X.1 X.2.1 dX12_put_34 rfl ?_
              refine gf_X12_6 X hK hG h0 wl_6_184 dX12_put_35 (fun f72 hf72 pf72 kf72 => ?_)
              refine lv_iconst (v := 1) X.1 X.2.1 dX12_put_38 (by decide +kernel) ?_
              refine lv_iadd X.1 X.2.1 dX12_put_39 ?_
              refine lv_topi (fun f73 ef73 => ?_)
              have nb24 := sg_nbq ef2 ef3 (sg_kc (24) (iv_c 24 (a := 24) (b := 24) (by decide +kernel)) (by decide +kernel)) c4
              have nb16 := sg_nbp ef13 ef14 (sg_kc (16) (iv_add (a' := 16) (b' := 16) ey11 (iv_c 24 (a := 24) (b := 24) (by decide +kernel)) (iv_c _ (a := (-8)) (b := (-8)) (by decide +kernel)) (by decide +kernel)) (by decide +kernel)) c15
              have nb8 := sg_nbq ef65 ef66 (sg_kc (8) (iv_add (a' := 8) (b' := 8) ey63 (iv_add (a' := 16) (b' := 16) ey11 (iv_c 24 (a := 24) (b := 24) (by decide +kernel)) (iv_c _ (a := (-8)) (b := (-8)) (by decide +kernel)) (by decide +kernel)) (iv_c _ (a := (-8)) (b := (-8)) (by decide +kernel)) (by decide +kernel)) (by decide +kernel)) c67
              have nl24 := sg_nb1_le x1 24
              have nl16 := sg_nb1_le x1 16
              have nl8 := sg_nb1_le x1 8
              have nl0 := sg_nb1_le x1 0
              have hnb : sg_nb x1 = sg_nb1 x1 24 + sg_nb1 x1 16 + sg_nb1 x1 8 + sg_nb1 x1 0 := rfl
              have hx40 : f72.toInt = ((sgL2 P) + 1) := sgC240_eq (l := ((sgL2 P) + 1)) pf72 (by omega) (by omega)
              have hz40 : f73.toInt = ((sgL2 P) + 1) + 1 := by rw [sg_inc (k := 1) ef73 hf72 (by decide +kernel), hx40]
              have hy40 : iv 1 240 f73 := ⟨by omega, by omega⟩
              refine pf_X12_6q X hK hG hS h0 wl_6_184 (iv_of hy40 (a' := 0) (b' := 240) (by decide +kernel)) dX12_put_40 (fun H locs hG hS => ?_)
              have hl43 : f73.toInt = ((sgL2 P) + 1) + 1 := by rw [sg_inc (k := 1) ef73 hf72 (by decide +kernel), sgC240_eq (l := ((sgL2 P) + 1)) pf72 (by omega) (by omega)]
              rw [hl43] at hG
              obtain ⟨y74, ey74⟩ : ∃ y : Int32, y = y63 + Int32.ofInt (-8) := ⟨_, rfl⟩
              refine lv_iinc (v := y74) (lv' := [(2, .int y74), (0, .ref a0), (1, .int x1)]) X.1 X.2.1 dX12_put_43 hl (k := 0) rfl ey74.symm (by decide) rfl (fun ls hl => ?_)
              refine lv_goto (tgt := 3) X.1 X.2.1 dX12_put_46 (by decide) ?_
              refine lv_iload_n X.1 X.2.1 dX12_put_3 rfl (lv_at hl 0 rfl) ?_
              refine lv_if_lt (tgt := 49) X.1 X.2.1 dX12_put_4 (by decide) (fun c75 => ?_) (fun c75 => ?_)
              · exact ((iv_no (iv_lt (b' := (-1)) c75 (iv_add (a' := 0) (b' := 0) ey74 (iv_add (a' := 8) (b' := 8) ey63 (iv_add (a' := 16) (b' := 16) ey11 (iv_c 24 (a := 24) (b := 24) (by decide +kernel)) (iv_c _ (a := (-8)) (b := (-8)) (by decide +kernel)) (by decide +kernel)) (iv_c _ (a := (-8)) (b := (-8)) (by decide +kernel)) (by decide +kernel)) (iv_c _ (a := (-8)) (b := (-8)) (by decide +kernel)) (by decide +kernel)) (iv_c 0 (a := 0) (b := 0) (by decide +kernel)) (by decide +kernel)) (by decide +kernel))).elim
              · refine lv_iload_n X.1 X.2.1 dX12_put_7 rfl (lv_at hl 2 rfl) ?_
                refine lv_iload_n X.1 X.2.1 dX12_put_8 rfl (lv_at hl 0 rfl) ?_
                refine lv_ishr X.1 X.2.1 dX12_put_9 ?_
                refine lv_topi (fun f76 ef76 => ?_)
                refine lv_sipush (v := 255) X.1 X.2.1 dX12_put_10 (by decide +kernel) ?_
                refine lv_iand X.1 X.2.1 dX12_put_13 ?_
                refine lv_topi (fun f77 ef77 => ?_)
                refine lv_if_ne (tgt := 20) X.1 X.2.1 dX12_put_14 (by decide) (fun c78 => ?_) (fun c78 => ?_)
                · refine lv_aload_n X.1 X.2.1 dX12_put_20 rfl (lv_at hl 1 rfl) ?_
                  refine gf_X12_1 X hK hG h0 wl_6_179 dX12_put_21 (fun q79 hq79 kq79 => ?_)
                  refine lv_aload_n X.1 X.2.1 dX12_put_24 rfl (lv_at hl 1 rfl) ?_
                  refine gf_X12_6 X hK hG h0 wl_6_184 dX12_put_25 (fun f80 hf80 pf80 kf80 => ?_)
                  have nb24 := sg_nbq ef2 ef3 (sg_kc (24) (iv_c 24 (a := 24) (b := 24) (by decide +kernel)) (by decide +kernel)) c4
                  have nb16 := sg_nbp ef13 ef14 (sg_kc (16) (iv_add (a' := 16) (b' := 16) ey11 (iv_c 24 (a := 24) (b := 24) (by decide +kernel)) (iv_c _ (a := (-8)) (b := (-8)) (by decide +kernel)) (by decide +kernel)) (by decide +kernel)) c15
                  have nb8 := sg_nbq ef65 ef66 (sg_kc (8) (iv_add (a' := 8) (b' := 8) ey63 (iv_add (a' := 16) (b' := 16) ey11 (iv_c 24 (a := 24) (b := 24) (by decide +kernel)) (iv_c _ (a := (-8)) (b := (-8)) (by decide +kernel)) (by decide +kernel)) (iv_c _ (a := (-8)) (b := (-8)) (by decide +kernel)) (by decide +kernel)) (by decide +kernel)) c67
                  have nb0 := sg_nbq ef76 ef77 (sg_kc (0) (iv_add (a' := 0) (b' := 0) ey74 (iv_add (a' := 8) (b' := 8) ey63 (iv_add (a' := 16) (b' := 16) ey11 (iv_c 24 (a := 24) (b := 24) (by decide +kernel)) (iv_c _ (a := (-8)) (b := (-8)) (by decide +kernel)) (by decide +kernel)) (iv_c _ (a := (-8)) (b := (-8)) (by decide +kernel)) (by decide +kernel)) (iv_c _ (a := (-8)) (b := (-8)) (by decide +kernel)) (by decide +kernel)) (by decide +kernel)) c78
                  have nl24 := sg_nb1_le x1 24
                  have nl16 := sg_nb1_le x1 16
                  have nl8 := sg_nb1_le x1 8
                  have nl0 := sg_nb1_le x1 0
                  have hnb : sg_nb x1 = sg_nb1 x1 24 + sg_nb1 x1 16 + sg_nb1 x1 8 + sg_nb1 x1 0 := rfl
                  have hx28 : f80.toInt = (((sgL2 P) + 1) + 1) := sgC240_eq (l := (((sgL2 P) + 1) + 1)) pf80 (by omega) (by omega)
                  have hy28 : iv 0 239 f80 := ⟨by omega, by omega⟩
                  refine lv_iload_n X.1 X.2.1 dX12_put_28 rfl (lv_at hl 2 rfl) ?_
                  refine lv_iload_n X.1 X.2.1 dX12_put_29 rfl (lv_at hl 0 rfl) ?_
                  refine lv_ishr X.1 X.2.1 dX12_put_30 ?_
                  refine lv_topi (fun f81 ef81 => ?_)
                  obtain ⟨f82, ef82⟩ : ∃ y : Int32, y = (f81 : Int32).toInt8.toInt32 := ⟨_, rfl⟩
                  refine lv_i2b (v := f82) X.1 X.2.1 dX12_put_31 ef82.symm ?_
                  refine as_45q X hK hG hS hq79 (iv_vpin hy28 (by decide +kernel)) dX12_put_32 (fun H locs hG hS => ?_)
                  rw [sgC240_ix (l := (((sgL2 P) + 1) + 1)) pf80 (by omega) (by omega), sgB2_of ef81 ef82 (sg_kc (0) (iv_add (a' := 0) (b' := 0) ey74 (iv_add (a' := 8) (b' := 8) ey63 (iv_add (a' := 16) (b' := 16) ey11 (iv_c 24 (a := 24) (b := 24) (by decide +kernel)) (iv_c _ (a := (-8)) (b := (-8)) (by decide +kernel)) (by decide +kernel)) (iv_c _ (a := (-8)) (b := (-8)) (by decide +kernel)) (by decide +kernel)) (iv_c _ (a := (-8)) (b := (-8)) (by decide +kernel)) (by decide +kernel)) (by decide +kernel))] at hG
                  refine lv_aload_n X.1 X.2.1 dX12_put_33 rfl (lv_at hl 1 rfl) ?_
                  refine lv_dup X.1 X.2.1 dX12_put_34 rfl ?_
                  refine gf_X12_6 X hK hG h0 wl_6_184 dX12_put_35 (fun f83 hf83 pf83 kf83 => ?_)
                  refine lv_iconst (v := 1) X.1 X.2.1 dX12_put_38 (by decide +kernel) ?_
                  refine lv_iadd X.1 X.2.1 dX12_put_39 ?_
                  refine lv_topi (fun f84 ef84 => ?_)
                  have nb24 := sg_nbq ef2 ef3 (sg_kc (24) (iv_c 24 (a := 24) (b := 24) (by decide +kernel)) (by decide +kernel)) c4
                  have nb16 := sg_nbp ef13 ef14 (sg_kc (16) (iv_add (a' := 16) (b' := 16) ey11 (iv_c 24 (a := 24) (b := 24) (by decide +kernel)) (iv_c _ (a := (-8)) (b := (-8)) (by decide +kernel)) (by decide +kernel)) (by decide +kernel)) c15
                  have nb8 := sg_nbq ef65 ef66 (sg_kc (8) (iv_add (a' := 8) (b' := 8) ey63 (iv_add (a' := 16) (b' := 16) ey11 (iv_c 24 (a := 24) (b := 24) (by decide +kernel)) (iv_c _ (a := (-8)) (b := (-8)) (by decide +kernel)) (by decide +kernel)) (iv_c _ (a := (-8)) (b := (-8)) (by decide +kernel)) (by decide +kernel)) (by decide +kernel)) c67
                  have nb0 := sg_nbq ef76 ef77 (sg_kc (0) (iv_add (a' := 0) (b' := 0) ey74 (iv_add (a' := 8) (b' := 8) ey63 (iv_add (a' := 16) (b' := 16) ey11 (iv_c 24 (a := 24) (b := 24) (by decide +kernel)) (iv_c _ (a := (-8)) (b := (-8)) (by decide +kernel)) (by decide +kernel)) (iv_c _ (a := (-8)) (b := (-8)) (by decide +kernel)) (by decide +kernel)) (iv_c _ (a := (-8)) (b := (-8)) (by decide +kernel)) (by decide +kernel)) (by decide +kernel)) c78
                  have nl24 := sg_nb1_le x1 24
                  have nl16 := sg_nb1_le x1 16
                  have nl8 := sg_nb1_le x1 8
                  have nl0 := sg_nb1_le x1 0
                  have hnb : sg_nb x1 = sg_nb1 x1 24 + sg_nb1 x1 16 + sg_nb1 x1 8 + sg_nb1 x1 0 := rfl
                  have hx40 : f83.toInt = (((sgL2 P) + 1) + 1) := sgC240_eq (l := (((sgL2 P) + 1) + 1)) pf83 (by omega) (by omega)
                  have hz40 : f84.toInt = (((sgL2 P) + 1) + 1) + 1 := by rw [sg_inc (k := 1) ef84 hf83 (by decide +kernel), hx40]
                  have hy40 : iv 1 240 f84 := ⟨by omega, by omega⟩
                  refine pf_X12_6q X hK hG hS h0 wl_6_184 (iv_of hy40 (a' := 0) (b' := 240) (by decide +kernel)) dX12_put_40 (fun H locs hG hS => ?_)
                  have hl43 : f84.toInt = (((sgL2 P) + 1) + 1) + 1 := by rw [sg_inc (k := 1) ef84 hf83 (by decide +kernel), sgC240_eq (l := (((sgL2 P) + 1) + 1)) pf83 (by omega) (by omega)]
                  rw [hl43] at hG
                  obtain ⟨y85, ey85⟩ : ∃ y : Int32, y = y74 + Int32.ofInt (-8) := ⟨_, rfl⟩
                  refine lv_iinc (v := y85) (lv' := [(2, .int y85), (0, .ref a0), (1, .int x1)]) X.1 X.2.1 dX12_put_43 hl (k := 0) rfl ey85.symm (by decide) rfl (fun ls hl => ?_)
                  refine lv_goto (tgt := 3) X.1 X.2.1 dX12_put_46 (by decide) ?_
                  refine lv_iload_n X.1 X.2.1 dX12_put_3 rfl (lv_at hl 0 rfl) ?_
                  refine lv_if_lt (tgt := 49) X.1 X.2.1 dX12_put_4 (by decide) (fun c86 => ?_) (fun c86 => ?_)
                  · have hap : sgAp2 x1 (sgT2 P, sgL2 P) = ((sgUp (sgUp (sgUp (sgT2 P) ((sgL2 P)).toNat (sgB2 x1 24)) (((sgL2 P) + 1)).toNat (sgB2 x1 8)) ((((sgL2 P) + 1) + 1)).toNat (sgB2 x1 0)), ((((sgL2 P) + 1) + 1) + 1)) := by unfold sgAp2; rw [sgA2_1 ef2 ef3 (sg_kc (24) (iv_c 24 (a := 24) (b := 24) (by decide +kernel)) (by decide +kernel)) c4, sgA2_0 ef13 ef14 (sg_kc (16) (iv_add (a' := 16) (b' := 16) ey11 (iv_c 24 (a := 24) (b := 24) (by decide +kernel)) (iv_c _ (a := (-8)) (b := (-8)) (by decide +kernel)) (by decide +kernel)) (by decide +kernel)) c15, sgA2_1 ef65 ef66 (sg_kc (8) (iv_add (a' := 8) (b' := 8) ey63 (iv_add (a' := 16) (b' := 16) ey11 (iv_c 24 (a := 24) (b := 24) (by decide +kernel)) (iv_c _ (a := (-8)) (b := (-8)) (by decide +kernel)) (by decide +kernel)) (iv_c _ (a := (-8)) (b := (-8)) (by decide +kernel)) (by decide +kernel)) (by decide +kernel)) c67, sgA2_1 ef76 ef77 (sg_kc (0) (iv_add (a' := 0) (b' := 0) ey74 (iv_add (a' := 8) (b' := 8) ey63 (iv_add (a' := 16) (b' := 16) ey11 (iv_c 24 (a := 24) (b := 24) (by decide +kernel)) (iv_c _ (a := (-8)) (b := (-8)) (by decide +kernel)) (by decide +kernel)) (iv_c _ (a := (-8)) (b := (-8)) (by decide +kernel)) (by decide +kernel)) (iv_c _ (a := (-8)) (b := (-8)) (by decide +kernel)) (by decide +kernel)) (by decide +kernel)) c78]
                    exact sg_vret2 X hr hlk hS (fun t ht hW => (by rw [hap]; exact sg_post hb hK hC hG hS ht hW)) dX12_put_49
                  · exact ((iv_no (iv_le (b' := (-8)) (iv_ge_of c86) (iv_c 0 (a := 0) (b := 0) (by decide +kernel)) (iv_add (a' := (-8)) (b' := (-8)) ey85 (iv_add (a' := 0) (b' := 0) ey74 (iv_add (a' := 8) (b' := 8) ey63 (iv_add (a' := 16) (b' := 16) ey11 (iv_c 24 (a := 24) (b := 24) (by decide +kernel)) (iv_c _ (a := (-8)) (b := (-8)) (by decide +kernel)) (by decide +kernel)) (iv_c _ (a := (-8)) (b := (-8)) (by decide +kernel)) (by decide +kernel)) (iv_c _ (a := (-8)) (b := (-8)) (by decide +kernel)) (by decide +kernel)) (iv_c _ (a := (-8)) (b := (-8)) (by decide +kernel)) (by decide +kernel)) (by decide +kernel)) (by decide +kernel))).elim
                · refine lv_goto (tgt := 43) X.1 X.2.1 dX12_put_17 (by decide) ?_
                  obtain ⟨y87, ey87⟩ : ∃ y : Int32, y = y74 + Int32.ofInt (-8) := ⟨_, rfl⟩
                  refine lv_iinc (v := y87) (lv' := [(2, .int y87), (0, .ref a0), (1, .int x1)]) X.1 X.2.1 dX12_put_43 hl (k := 0) rfl ey87.symm (by decide) rfl (fun ls hl => ?_)
                  refine lv_goto (tgt := 3) X.1 X.2.1 dX12_put_46 (by decide) ?_
                  refine lv_iload_n X.1 X.2.1 dX12_put_3 rfl (lv_at hl 0 rfl) ?_
                  refine lv_if_lt (tgt := 49) X.1 X.2.1 dX12_put_4 (by decide) (fun c88 => ?_) (fun c88 => ?_)
                  · have hap : sgAp2 x1 (sgT2 P, sgL2 P) = ((sgUp (sgUp (sgT2 P) ((sgL2 P)).toNat (sgB2 x1 24)) (((sgL2 P) + 1)).toNat (sgB2 x1 8)), (((sgL2 P) + 1) + 1)) := by unfold sgAp2; rw [sgA2_1 ef2 ef3 (sg_kc (24) (iv_c 24 (a := 24) (b := 24) (by decide +kernel)) (by decide +kernel)) c4, sgA2_0 ef13 ef14 (sg_kc (16) (iv_add (a' := 16) (b' := 16) ey11 (iv_c 24 (a := 24) (b := 24) (by decide +kernel)) (iv_c _ (a := (-8)) (b := (-8)) (by decide +kernel)) (by decide +kernel)) (by decide +kernel)) c15, sgA2_1 ef65 ef66 (sg_kc (8) (iv_add (a' := 8) (b' := 8) ey63 (iv_add (a' := 16) (b' := 16) ey11 (iv_c 24 (a := 24) (b := 24) (by decide +kernel)) (iv_c _ (a := (-8)) (b := (-8)) (by decide +kernel)) (by decide +kernel)) (iv_c _ (a := (-8)) (b := (-8)) (by decide +kernel)) (by decide +kernel)) (by decide +kernel)) c67, sgA2_0 ef76 ef77 (sg_kc (0) (iv_add (a' := 0) (b' := 0) ey74 (iv_add (a' := 8) (b' := 8) ey63 (iv_add (a' := 16) (b' := 16) ey11 (iv_c 24 (a := 24) (b := 24) (by decide +kernel)) (iv_c _ (a := (-8)) (b := (-8)) (by decide +kernel)) (by decide +kernel)) (iv_c _ (a := (-8)) (b := (-8)) (by decide +kernel)) (by decide +kernel)) (iv_c _ (a := (-8)) (b := (-8)) (by decide +kernel)) (by decide +kernel)) (by decide +kernel)) c78]
                    exact sg_vret2 X hr hlk hS (fun t ht hW => (by rw [hap]; exact sg_post hb hK hC hG hS ht hW)) dX12_put_49
                  · exact ((iv_no (iv_le (b' := (-8)) (iv_ge_of c88) (iv_c 0 (a := 0) (b := 0) (by decide +kernel)) (iv_add (a' := (-8)) (b' := (-8)) ey87 (iv_add (a' := 0) (b' := 0) ey74 (iv_add (a' := 8) (b' := 8) ey63 (iv_add (a' := 16) (b' := 16) ey11 (iv_c 24 (a := 24) (b := 24) (by decide +kernel)) (iv_c _ (a := (-8)) (b := (-8)) (by decide +kernel)) (by decide +kernel)) (iv_c _ (a := (-8)) (b := (-8)) (by decide +kernel)) (by decide +kernel)) (iv_c _ (a := (-8)) (b := (-8)) (by decide +kernel)) (by decide +kernel)) (iv_c _ (a := (-8)) (b := (-8)) (by decide +kernel)) (by decide +kernel)) (by decide +kernel)) (by decide +kernel))).elim
            · refine lv_goto (tgt := 43) X.1 X.2.1 dX12_put_17 (by decide) ?_
              obtain ⟨y89, ey89⟩ : ∃ y : Int32, y = y63 + Int32.ofInt (-8) := ⟨_, rfl⟩
              refine lv_iinc (v := y89) (lv' := [(2, .int y89), (0, .ref a0), (1, .int x1)]) X.1 X.2.1 dX12_put_43 hl (k := 0) rfl ey89.symm (by decide) rfl (fun ls hl => ?_)
              refine lv_goto (tgt := 3) X.1 X.2.1 dX12_put_46 (by decide) ?_
              refine lv_iload_n X.1 X.2.1 dX12_put_3 rfl (lv_at hl 0 rfl) ?_
              refine lv_if_lt (tgt := 49) X.1 X.2.1 dX12_put_4 (by decide) (fun c90 => ?_) (fun c90 => ?_)
              · exact ((iv_no (iv_lt (b' := (-1)) c90 (iv_add (a' := 0) (b' := 0) ey89 (iv_add (a' := 8) (b' := 8) ey63 (iv_add (a' := 16) (b' := 16) ey11 (iv_c 24 (a := 24) (b := 24) (by decide +kernel)) (iv_c _ (a := (-8)) (b := (-8)) (by decide +kernel)) (by decide +kernel)) (iv_c _ (a := (-8)) (b := (-8)) (by decide +kernel)) (by decide +kernel)) (iv_c _ (a := (-8)) (b := (-8)) (by decide +kernel)) (by decide +kernel)) (iv_c 0 (a := 0) (b := 0) (by decide +kernel)) (by decide +kernel)) (by decide +kernel))).elim
              · refine lv_iload_n X.1 X.2.1 dX12_put_7 rfl (lv_at hl 2 rfl) ?_
                refine lv_iload_n X.1 X.2.1 dX12_put_8 rfl (lv_at hl 0 rfl) ?_
                refine lv_ishr X.1 X.2.1 dX12_put_9 ?_
                refine lv_topi (fun f91 ef91 => ?_)
                refine lv_sipush (v := 255) X.1 X.2.1 dX12_put_10 (by decide +kernel) ?_
                refine lv_iand X.1 X.2.1 dX12_put_13 ?_
                refine lv_topi (fun f92 ef92 => ?_)
                refine lv_if_ne (tgt := 20) X.1 X.2.1 dX12_put_14 (by decide) (fun c93 => ?_) (fun c93 => ?_)
                · refine lv_aload_n X.1 X.2.1 dX12_put_20 rfl (lv_at hl 1 rfl) ?_
                  refine gf_X12_1 X hK hG h0 wl_6_179 dX12_put_21 (fun q94 hq94 kq94 => ?_)
                  refine lv_aload_n X.1 X.2.1 dX12_put_24 rfl (lv_at hl 1 rfl) ?_
                  refine gf_X12_6 X hK hG h0 wl_6_184 dX12_put_25 (fun f95 hf95 pf95 kf95 => ?_)
                  have nb24 := sg_nbq ef2 ef3 (sg_kc (24) (iv_c 24 (a := 24) (b := 24) (by decide +kernel)) (by decide +kernel)) c4
                  have nb16 := sg_nbp ef13 ef14 (sg_kc (16) (iv_add (a' := 16) (b' := 16) ey11 (iv_c 24 (a := 24) (b := 24) (by decide +kernel)) (iv_c _ (a := (-8)) (b := (-8)) (by decide +kernel)) (by decide +kernel)) (by decide +kernel)) c15
                  have nb8 := sg_nbp ef65 ef66 (sg_kc (8) (iv_add (a' := 8) (b' := 8) ey63 (iv_add (a' := 16) (b' := 16) ey11 (iv_c 24 (a := 24) (b := 24) (by decide +kernel)) (iv_c _ (a := (-8)) (b := (-8)) (by decide +kernel)) (by decide +kernel)) (iv_c _ (a := (-8)) (b := (-8)) (by decide +kernel)) (by decide +kernel)) (by decide +kernel)) c67
                  have nb0 := sg_nbq ef91 ef92 (sg_kc (0) (iv_add (a' := 0) (b' := 0) ey89 (iv_add (a' := 8) (b' := 8) ey63 (iv_add (a' := 16) (b' := 16) ey11 (iv_c 24 (a := 24) (b := 24) (by decide +kernel)) (iv_c _ (a := (-8)) (b := (-8)) (by decide +kernel)) (by decide +kernel)) (iv_c _ (a := (-8)) (b := (-8)) (by decide +kernel)) (by decide +kernel)) (iv_c _ (a := (-8)) (b := (-8)) (by decide +kernel)) (by decide +kernel)) (by decide +kernel)) c93
                  have nl24 := sg_nb1_le x1 24
                  have nl16 := sg_nb1_le x1 16
                  have nl8 := sg_nb1_le x1 8
                  have nl0 := sg_nb1_le x1 0
                  have hnb : sg_nb x1 = sg_nb1 x1 24 + sg_nb1 x1 16 + sg_nb1 x1 8 + sg_nb1 x1 0 := rfl
                  have hx28 : f95.toInt = ((sgL2 P) + 1) := sgC240_eq (l := ((sgL2 P) + 1)) pf95 (by omega) (by omega)
                  have hy28 : iv 0 239 f95 := ⟨by omega, by omega⟩
                  refine lv_iload_n X.1 X.2.1 dX12_put_28 rfl (lv_at hl 2 rfl) ?_
                  refine lv_iload_n X.1 X.2.1 dX12_put_29 rfl (lv_at hl 0 rfl) ?_
                  refine lv_ishr X.1 X.2.1 dX12_put_30 ?_
                  refine lv_topi (fun f96 ef96 => ?_)
                  obtain ⟨f97, ef97⟩ : ∃ y : Int32, y = (f96 : Int32).toInt8.toInt32 := ⟨_, rfl⟩
                  refine lv_i2b (v := f97) X.1 X.2.1 dX12_put_31 ef97.symm ?_
                  refine as_45q X hK hG hS hq94 (iv_vpin hy28 (by decide +kernel)) dX12_put_32 (fun H locs hG hS => ?_)
                  rw [sgC240_ix (l := ((sgL2 P) + 1)) pf95 (by omega) (by omega), sgB2_of ef96 ef97 (sg_kc (0) (iv_add (a' := 0) (b' := 0) ey89 (iv_add (a' := 8) (b' := 8) ey63 (iv_add (a' := 16) (b' := 16) ey11 (iv_c 24 (a := 24) (b := 24) (by decide +kernel)) (iv_c _ (a := (-8)) (b := (-8)) (by decide +kernel)) (by decide +kernel)) (iv_c _ (a := (-8)) (b := (-8)) (by decide +kernel)) (by decide +kernel)) (iv_c _ (a := (-8)) (b := (-8)) (by decide +kernel)) (by decide +kernel)) (by decide +kernel))] at hG
                  refine lv_aload_n X.1 X.2.1 dX12_put_33 rfl (lv_at hl 1 rfl) ?_
                  refine lv_dup X.1 X.2.1 dX12_put_34 rfl ?_
                  refine gf_X12_6 X hK hG h0 wl_6_184 dX12_put_35 (fun f98 hf98 pf98 kf98 => ?_)
                  refine lv_iconst (v := 1) X.1 X.2.1 dX12_put_38 (by decide +kernel) ?_
                  refine lv_iadd X.1 X.2.1 dX12_put_39 ?_
                  refine lv_topi (fun f99 ef99 => ?_)
                  have nb24 := sg_nbq ef2 ef3 (sg_kc (24) (iv_c 24 (a := 24) (b := 24) (by decide +kernel)) (by decide +kernel)) c4
                  have nb16 := sg_nbp ef13 ef14 (sg_kc (16) (iv_add (a' := 16) (b' := 16) ey11 (iv_c 24 (a := 24) (b := 24) (by decide +kernel)) (iv_c _ (a := (-8)) (b := (-8)) (by decide +kernel)) (by decide +kernel)) (by decide +kernel)) c15
                  have nb8 := sg_nbp ef65 ef66 (sg_kc (8) (iv_add (a' := 8) (b' := 8) ey63 (iv_add (a' := 16) (b' := 16) ey11 (iv_c 24 (a := 24) (b := 24) (by decide +kernel)) (iv_c _ (a := (-8)) (b := (-8)) (by decide +kernel)) (by decide +kernel)) (iv_c _ (a := (-8)) (b := (-8)) (by decide +kernel)) (by decide +kernel)) (by decide +kernel)) c67
                  have nb0 := sg_nbq ef91 ef92 (sg_kc (0) (iv_add (a' := 0) (b' := 0) ey89 (iv_add (a' := 8) (b' := 8) ey63 (iv_add (a' := 16) (b' := 16) ey11 (iv_c 24 (a := 24) (b := 24) (by decide +kernel)) (iv_c _ (a := (-8)) (b := (-8)) (by decide +kernel)) (by decide +kernel)) (iv_c _ (a := (-8)) (b := (-8)) (by decide +kernel)) (by decide +kernel)) (iv_c _ (a := (-8)) (b := (-8)) (by decide +kernel)) (by decide +kernel)) (by decide +kernel)) c93
                  have nl24 := sg_nb1_le x1 24
                  have nl16 := sg_nb1_le x1 16
                  have nl8 := sg_nb1_le x1 8
                  have nl0 := sg_nb1_le x1 0
                  have hnb : sg_nb x1 = sg_nb1 x1 24 + sg_nb1 x1 16 + sg_nb1 x1 8 + sg_nb1 x1 0 := rfl
                  have hx40 : f98.toInt = ((sgL2 P) + 1) := sgC240_eq (l := ((sgL2 P) + 1)) pf98 (by omega) (by omega)
                  have hz40 : f99.toInt = ((sgL2 P) + 1) + 1 := by rw [sg_inc (k := 1) ef99 hf98 (by decide +kernel), hx40]
                  have hy40 : iv 1 240 f99 := ⟨by omega, by omega⟩
                  refine pf_X12_6q X hK hG hS h0 wl_6_184 (iv_of hy40 (a' := 0) (b' := 240) (by decide +kernel)) dX12_put_40 (fun H locs hG hS => ?_)
                  have hl43 : f99.toInt = ((sgL2 P) + 1) + 1 := by rw [sg_inc (k := 1) ef99 hf98 (by decide +kernel), sgC240_eq (l := ((sgL2 P) + 1)) pf98 (by omega) (by omega)]
                  rw [hl43] at hG
                  obtain ⟨y100, ey100⟩ : ∃ y : Int32, y = y89 + Int32.ofInt (-8) := ⟨_, rfl⟩
                  refine lv_iinc (v := y100) (lv' := [(2, .int y100), (0, .ref a0), (1, .int x1)]) X.1 X.2.1 dX12_put_43 hl (k := 0) rfl ey100.symm (by decide) rfl (fun ls hl => ?_)
                  refine lv_goto (tgt := 3) X.1 X.2.1 dX12_put_46 (by decide) ?_
                  refine lv_iload_n X.1 X.2.1 dX12_put_3 rfl (lv_at hl 0 rfl) ?_
                  refine lv_if_lt (tgt := 49) X.1 X.2.1 dX12_put_4 (by decide) (fun c101 => ?_) (fun c101 => ?_)
                  · have hap : sgAp2 x1 (sgT2 P, sgL2 P) = ((sgUp (sgUp (sgT2 P) ((sgL2 P)).toNat (sgB2 x1 24)) (((sgL2 P) + 1)).toNat (sgB2 x1 0)), (((sgL2 P) + 1) + 1)) := by unfold sgAp2; rw [sgA2_1 ef2 ef3 (sg_kc (24) (iv_c 24 (a := 24) (b := 24) (by decide +kernel)) (by decide +kernel)) c4, sgA2_0 ef13 ef14 (sg_kc (16) (iv_add (a' := 16) (b' := 16) ey11 (iv_c 24 (a := 24) (b := 24) (by decide +kernel)) (iv_c _ (a := (-8)) (b := (-8)) (by decide +kernel)) (by decide +kernel)) (by decide +kernel)) c15, sgA2_0 ef65 ef66 (sg_kc (8) (iv_add (a' := 8) (b' := 8) ey63 (iv_add (a' := 16) (b' := 16) ey11 (iv_c 24 (a := 24) (b := 24) (by decide +kernel)) (iv_c _ (a := (-8)) (b := (-8)) (by decide +kernel)) (by decide +kernel)) (iv_c _ (a := (-8)) (b := (-8)) (by decide +kernel)) (by decide +kernel)) (by decide +kernel)) c67, sgA2_1 ef91 ef92 (sg_kc (0) (iv_add (a' := 0) (b' := 0) ey89 (iv_add (a' := 8) (b' := 8) ey63 (iv_add (a' := 16) (b' := 16) ey11 (iv_c 24 (a := 24) (b := 24) (by decide +kernel)) (iv_c _ (a := (-8)) (b := (-8)) (by decide +kernel)) (by decide +kernel)) (iv_c _ (a := (-8)) (b := (-8)) (by decide +kernel)) (by decide +kernel)) (iv_c _ (a := (-8)) (b := (-8)) (by decide +kernel)) (by decide +kernel)) (by decide +kernel)) c93]
                    exact sg_vret2 X hr hlk hS (fun t ht hW => (by rw [hap]; exact sg_post hb hK hC hG hS ht hW)) dX12_put_49
                  · exact ((iv_no (iv_le (b' := (-8)) (iv_ge_of c101) (iv_c 0 (a := 0) (b := 0) (by decide +kernel)) (iv_add (a' := (-8)) (b' := (-8)) ey100 (iv_add (a' := 0) (b' := 0) ey89 (iv_add (a' := 8) (b' := 8) ey63 (iv_add (a' := 16) (b' := 16) ey11 (iv_c 24 (a := 24) (b := 24) (by decide +kernel)) (iv_c _ (a := (-8)) (b := (-8)) (by decide +kernel)) (by decide +kernel)) (iv_c _ (a := (-8)) (b := (-8)) (by decide +kernel)) (by decide +kernel)) (iv_c _ (a := (-8)) (b := (-8)) (by decide +kernel)) (by decide +kernel)) (iv_c _ (a := (-8)) (b := (-8)) (by decide +kernel)) (by decide +kernel)) (by decide +kernel)) (by decide +kernel))).elim
                · refine lv_goto (tgt := 43) X.1 X.2.1 dX12_put_17 (by decide) ?_
                  obtain ⟨y102, ey102⟩ : ∃ y : Int32, y = y89 + Int32.ofInt (-8) := ⟨_, rfl⟩
                  refine lv_iinc (v := y102) (lv' := [(2, .int y102), (0, .ref a0), (1, .int x1)]) X.1 X.2.1 dX12_put_43 hl (k := 0) rfl ey102.symm (by decide) rfl (fun ls hl => ?_)
                  refine lv_goto (tgt := 3) X.1 X.2.1 dX12_put_46 (by decide) ?_
                  refine lv_iload_n X.1 X.2.1 dX12_put_3 rfl (lv_at hl 0 rfl) ?_
                  refine lv_if_lt (tgt := 49) X.1 X.2.1 dX12_put_4 (by decide) (fun c103 => ?_) (fun c103 => ?_)
                  · have hap : sgAp2 x1 (sgT2 P, sgL2 P) = ((sgUp (sgT2 P) ((sgL2 P)).toNat (sgB2 x1 24)), ((sgL2 P) + 1)) := by unfold sgAp2; rw [sgA2_1 ef2 ef3 (sg_kc (24) (iv_c 24 (a := 24) (b := 24) (by decide +kernel)) (by decide +kernel)) c4, sgA2_0 ef13 ef14 (sg_kc (16) (iv_add (a' := 16) (b' := 16) ey11 (iv_c 24 (a := 24) (b := 24) (by decide +kernel)) (iv_c _ (a := (-8)) (b := (-8)) (by decide +kernel)) (by decide +kernel)) (by decide +kernel)) c15, sgA2_0 ef65 ef66 (sg_kc (8) (iv_add (a' := 8) (b' := 8) ey63 (iv_add (a' := 16) (b' := 16) ey11 (iv_c 24 (a := 24) (b := 24) (by decide +kernel)) (iv_c _ (a := (-8)) (b := (-8)) (by decide +kernel)) (by decide +kernel)) (iv_c _ (a := (-8)) (b := (-8)) (by decide +kernel)) (by decide +kernel)) (by decide +kernel)) c67, sgA2_0 ef91 ef92 (sg_kc (0) (iv_add (a' := 0) (b' := 0) ey89 (iv_add (a' := 8) (b' := 8) ey63 (iv_add (a' := 16) (b' := 16) ey11 (iv_c 24 (a := 24) (b := 24) (by decide +kernel)) (iv_c _ (a := (-8)) (b := (-8)) (by decide +kernel)) (by decide +kernel)) (iv_c _ (a := (-8)) (b := (-8)) (by decide +kernel)) (by decide +kernel)) (iv_c _ (a := (-8)) (b := (-8)) (by decide +kernel)) (by decide +kernel)) (by decide +kernel)) c93]
                    exact sg_vret2 X hr hlk hS (fun t ht hW => (by rw [hap]; exact sg_post hb hK hC hG hS ht hW)) dX12_put_49
                  · exact ((iv_no (iv_le (b' := (-8)) (iv_ge_of c103) (iv_c 0 (a := 0) (b := 0) (by decide +kernel)) (iv_add (a' := (-8)) (b' := (-8)) ey102 (iv_add (a' := 0) (b' := 0) ey89 (iv_add (a' := 8) (b' := 8) ey63 (iv_add (a' := 16) (b' := 16) ey11 (iv_c 24 (a := 24) (b := 24) (by decide +kernel)) (iv_c _ (a := (-8)) (b := (-8)) (by decide +kernel)) (by decide +kernel)) (iv_c _ (a := (-8)) (b := (-8)) (by decide +kernel)) (by decide +kernel)) (iv_c _ (a := (-8)) (b := (-8)) (by decide +kernel)) (by decide +kernel)) (iv_c _ (a := (-8)) (b := (-8)) (by decide +kernel)) (by decide +kernel)) (by decide +kernel)) (by decide +kernel))).elim
    · refine lv_goto (tgt := 43) X.1 X.2.1 dX12_put_17 (by decide) ?_
      obtain ⟨y104, ey104⟩ : ∃ y : Int32, y = 24 + Int32.ofInt (-8) := ⟨_, rfl⟩
      refine lv_iinc (v := y104) (lv' := [(2, .int y104), (0, .ref a0), (1, .int x1)]) X.1 X.2.1 dX12_put_43 hl (k := 0) rfl ey104.symm (by decide) rfl (fun ls hl => ?_)
      refine lv_goto (tgt := 3) X.1 X.2.1 dX12_put_46 (by decide) ?_
      refine lv_iload_n X.1 X.2.1 dX12_put_3 rfl (lv_at hl 0 rfl) ?_
      refine lv_if_lt (tgt := 49) X.1 X.2.1 dX12_put_4 (by decide) (fun c105 => ?_) (fun c105 => ?_)
      · exact ((iv_no (iv_lt (b' := (-1)) c105 (iv_add (a' := 16) (b' := 16) ey104 (iv_c 24 (a := 24) (b := 24) (by decide +kernel)) (iv_c _ (a := (-8)) (b := (-8)) (by decide +kernel)) (by decide +kernel)) (iv_c 0 (a := 0) (b := 0) (by decide +kernel)) (by decide +kernel)) (by decide +kernel))).elim
      · refine lv_iload_n X.1 X.2.1 dX12_put_7 rfl (lv_at hl 2 rfl) ?_
        refine lv_iload_n X.1 X.2.1 dX12_put_8 rfl (lv_at hl 0 rfl) ?_
        refine lv_ishr X.1 X.2.1 dX12_put_9 ?_
        refine lv_topi (fun f106 ef106 => ?_)
        refine lv_sipush (v := 255) X.1 X.2.1 dX12_put_10 (by decide +kernel) ?_
        refine lv_iand X.1 X.2.1 dX12_put_13 ?_
        refine lv_topi (fun f107 ef107 => ?_)
        refine lv_if_ne (tgt := 20) X.1 X.2.1 dX12_put_14 (by decide) (fun c108 => ?_) (fun c108 => ?_)
        · refine lv_aload_n X.1 X.2.1 dX12_put_20 rfl (lv_at hl 1 rfl) ?_
          refine gf_X12_1 X hK hG h0 wl_6_179 dX12_put_21 (fun q109 hq109 kq109 => ?_)
          refine lv_aload_n X.1 X.2.1 dX12_put_24 rfl (lv_at hl 1 rfl) ?_
          refine gf_X12_6 X hK hG h0 wl_6_184 dX12_put_25 (fun f110 hf110 pf110 kf110 => ?_)
          have hG := sg_st hG
          have nb24 := sg_nbp ef2 ef3 (sg_kc (24) (iv_c 24 (a := 24) (b := 24) (by decide +kernel)) (by decide +kernel)) c4
          have nb16 := sg_nbq ef106 ef107 (sg_kc (16) (iv_add (a' := 16) (b' := 16) ey104 (iv_c 24 (a := 24) (b := 24) (by decide +kernel)) (iv_c _ (a := (-8)) (b := (-8)) (by decide +kernel)) (by decide +kernel)) (by decide +kernel)) c108
          have nl24 := sg_nb1_le x1 24
          have nl16 := sg_nb1_le x1 16
          have nl8 := sg_nb1_le x1 8
          have nl0 := sg_nb1_le x1 0
          have hnb : sg_nb x1 = sg_nb1 x1 24 + sg_nb1 x1 16 + sg_nb1 x1 8 + sg_nb1 x1 0 := rfl
          have hx28 : f110.toInt = (sgL2 P) := sgC240_eq (l := (sgL2 P)) pf110 (by omega) (by omega)
          have hy28 : iv 0 239 f110 := ⟨by omega, by omega⟩
          refine lv_iload_n X.1 X.2.1 dX12_put_28 rfl (lv_at hl 2 rfl) ?_
          refine lv_iload_n X.1 X.2.1 dX12_put_29 rfl (lv_at hl 0 rfl) ?_
          refine lv_ishr X.1 X.2.1 dX12_put_30 ?_
          refine lv_topi (fun f111 ef111 => ?_)
          obtain ⟨f112, ef112⟩ : ∃ y : Int32, y = (f111 : Int32).toInt8.toInt32 := ⟨_, rfl⟩
          refine lv_i2b (v := f112) X.1 X.2.1 dX12_put_31 ef112.symm ?_
          refine as_45q X hK hG hS hq109 (iv_vpin hy28 (by decide +kernel)) dX12_put_32 (fun H locs hG hS => ?_)
          rw [sgC240_ix (l := (sgL2 P)) pf110 (by omega) (by omega), sgB2_of ef111 ef112 (sg_kc (16) (iv_add (a' := 16) (b' := 16) ey104 (iv_c 24 (a := 24) (b := 24) (by decide +kernel)) (iv_c _ (a := (-8)) (b := (-8)) (by decide +kernel)) (by decide +kernel)) (by decide +kernel))] at hG
          refine lv_aload_n X.1 X.2.1 dX12_put_33 rfl (lv_at hl 1 rfl) ?_
          refine lv_dup X.1 X.2.1 dX12_put_34 rfl ?_
          refine gf_X12_6 X hK hG h0 wl_6_184 dX12_put_35 (fun f113 hf113 pf113 kf113 => ?_)
          refine lv_iconst (v := 1) X.1 X.2.1 dX12_put_38 (by decide +kernel) ?_
          refine lv_iadd X.1 X.2.1 dX12_put_39 ?_
          refine lv_topi (fun f114 ef114 => ?_)
          have nb24 := sg_nbp ef2 ef3 (sg_kc (24) (iv_c 24 (a := 24) (b := 24) (by decide +kernel)) (by decide +kernel)) c4
          have nb16 := sg_nbq ef106 ef107 (sg_kc (16) (iv_add (a' := 16) (b' := 16) ey104 (iv_c 24 (a := 24) (b := 24) (by decide +kernel)) (iv_c _ (a := (-8)) (b := (-8)) (by decide +kernel)) (by decide +kernel)) (by decide +kernel)) c108
          have nl24 := sg_nb1_le x1 24
          have nl16 := sg_nb1_le x1 16
          have nl8 := sg_nb1_le x1 8
          have nl0 := sg_nb1_le x1 0
          have hnb : sg_nb x1 = sg_nb1 x1 24 + sg_nb1 x1 16 + sg_nb1 x1 8 + sg_nb1 x1 0 := rfl
          have hx40 : f113.toInt = (sgL2 P) := sgC240_eq (l := (sgL2 P)) pf113 (by omega) (by omega)
          have hz40 : f114.toInt = (sgL2 P) + 1 := by rw [sg_inc (k := 1) ef114 hf113 (by decide +kernel), hx40]
          have hy40 : iv 1 240 f114 := ⟨by omega, by omega⟩
          refine pf_X12_6q X hK hG hS h0 wl_6_184 (iv_of hy40 (a' := 0) (b' := 240) (by decide +kernel)) dX12_put_40 (fun H locs hG hS => ?_)
          have hl43 : f114.toInt = (sgL2 P) + 1 := by rw [sg_inc (k := 1) ef114 hf113 (by decide +kernel), sgC240_eq (l := (sgL2 P)) pf113 (by omega) (by omega)]
          rw [hl43] at hG
          obtain ⟨y115, ey115⟩ : ∃ y : Int32, y = y104 + Int32.ofInt (-8) := ⟨_, rfl⟩
          refine lv_iinc (v := y115) (lv' := [(2, .int y115), (0, .ref a0), (1, .int x1)]) X.1 X.2.1 dX12_put_43 hl (k := 0) rfl ey115.symm (by decide) rfl (fun ls hl => ?_)
          refine lv_goto (tgt := 3) X.1 X.2.1 dX12_put_46 (by decide) ?_
          refine lv_iload_n X.1 X.2.1 dX12_put_3 rfl (lv_at hl 0 rfl) ?_
          refine lv_if_lt (tgt := 49) X.1 X.2.1 dX12_put_4 (by decide) (fun c116 => ?_) (fun c116 => ?_)
          · exact ((iv_no (iv_lt (b' := (-1)) c116 (iv_add (a' := 8) (b' := 8) ey115 (iv_add (a' := 16) (b' := 16) ey104 (iv_c 24 (a := 24) (b := 24) (by decide +kernel)) (iv_c _ (a := (-8)) (b := (-8)) (by decide +kernel)) (by decide +kernel)) (iv_c _ (a := (-8)) (b := (-8)) (by decide +kernel)) (by decide +kernel)) (iv_c 0 (a := 0) (b := 0) (by decide +kernel)) (by decide +kernel)) (by decide +kernel))).elim
          · refine lv_iload_n X.1 X.2.1 dX12_put_7 rfl (lv_at hl 2 rfl) ?_
            refine lv_iload_n X.1 X.2.1 dX12_put_8 rfl (lv_at hl 0 rfl) ?_
            refine lv_ishr X.1 X.2.1 dX12_put_9 ?_
            refine lv_topi (fun f117 ef117 => ?_)
            refine lv_sipush (v := 255) X.1 X.2.1 dX12_put_10 (by decide +kernel) ?_
            refine lv_iand X.1 X.2.1 dX12_put_13 ?_
            refine lv_topi (fun f118 ef118 => ?_)
            refine lv_if_ne (tgt := 20) X.1 X.2.1 dX12_put_14 (by decide) (fun c119 => ?_) (fun c119 => ?_)
            · refine lv_aload_n X.1 X.2.1 dX12_put_20 rfl (lv_at hl 1 rfl) ?_
              refine gf_X12_1 X hK hG h0 wl_6_179 dX12_put_21 (fun q120 hq120 kq120 => ?_)
              refine lv_aload_n X.1 X.2.1 dX12_put_24 rfl (lv_at hl 1 rfl) ?_
              refine gf_X12_6 X hK hG h0 wl_6_184 dX12_put_25 (fun f121 hf121 pf121 kf121 => ?_)
              have nb24 := sg_nbp ef2 ef3 (sg_kc (24) (iv_c 24 (a := 24) (b := 24) (by decide +kernel)) (by decide +kernel)) c4
              have nb16 := sg_nbq ef106 ef107 (sg_kc (16) (iv_add (a' := 16) (b' := 16) ey104 (iv_c 24 (a := 24) (b := 24) (by decide +kernel)) (iv_c _ (a := (-8)) (b := (-8)) (by decide +kernel)) (by decide +kernel)) (by decide +kernel)) c108
              have nb8 := sg_nbq ef117 ef118 (sg_kc (8) (iv_add (a' := 8) (b' := 8) ey115 (iv_add (a' := 16) (b' := 16) ey104 (iv_c 24 (a := 24) (b := 24) (by decide +kernel)) (iv_c _ (a := (-8)) (b := (-8)) (by decide +kernel)) (by decide +kernel)) (iv_c _ (a := (-8)) (b := (-8)) (by decide +kernel)) (by decide +kernel)) (by decide +kernel)) c119
              have nl24 := sg_nb1_le x1 24
              have nl16 := sg_nb1_le x1 16
              have nl8 := sg_nb1_le x1 8
              have nl0 := sg_nb1_le x1 0
              have hnb : sg_nb x1 = sg_nb1 x1 24 + sg_nb1 x1 16 + sg_nb1 x1 8 + sg_nb1 x1 0 := rfl
              have hx28 : f121.toInt = ((sgL2 P) + 1) := sgC240_eq (l := ((sgL2 P) + 1)) pf121 (by omega) (by omega)
              have hy28 : iv 0 239 f121 := ⟨by omega, by omega⟩
              refine lv_iload_n X.1 X.2.1 dX12_put_28 rfl (lv_at hl 2 rfl) ?_
              refine lv_iload_n X.1 X.2.1 dX12_put_29 rfl (lv_at hl 0 rfl) ?_
              refine lv_ishr X.1 X.2.1 dX12_put_30 ?_
              refine lv_topi (fun f122 ef122 => ?_)
              obtain ⟨f123, ef123⟩ : ∃ y : Int32, y = (f122 : Int32).toInt8.toInt32 := ⟨_, rfl⟩
              refine lv_i2b (v := f123) X.1 X.2.1 dX12_put_31 ef123.symm ?_
              refine as_45q X hK hG hS hq120 (iv_vpin hy28 (by decide +kernel)) dX12_put_32 (fun H locs hG hS => ?_)
              rw [sgC240_ix (l := ((sgL2 P) + 1)) pf121 (by omega) (by omega), sgB2_of ef122 ef123 (sg_kc (8) (iv_add (a' := 8) (b' := 8) ey115 (iv_add (a' := 16) (b' := 16) ey104 (iv_c 24 (a := 24) (b := 24) (by decide +kernel)) (iv_c _ (a := (-8)) (b := (-8)) (by decide +kernel)) (by decide +kernel)) (iv_c _ (a := (-8)) (b := (-8)) (by decide +kernel)) (by decide +kernel)) (by decide +kernel))] at hG
              refine lv_aload_n X.1 X.2.1 dX12_put_33 rfl (lv_at hl 1 rfl) ?_
              refine lv_dup X.1 X.2.1 dX12_put_34 rfl ?_
              refine gf_X12_6 X hK hG h0 wl_6_184 dX12_put_35 (fun f124 hf124 pf124 kf124 => ?_)
              refine lv_iconst (v := 1) X.1 X.2.1 dX12_put_38 (by decide +kernel) ?_
              refine lv_iadd X.1 X.2.1 dX12_put_39 ?_
              refine lv_topi (fun f125 ef125 => ?_)
              have nb24 := sg_nbp ef2 ef3 (sg_kc (24) (iv_c 24 (a := 24) (b := 24) (by decide +kernel)) (by decide +kernel)) c4
              have nb16 := sg_nbq ef106 ef107 (sg_kc (16) (iv_add (a' := 16) (b' := 16) ey104 (iv_c 24 (a := 24) (b := 24) (by decide +kernel)) (iv_c _ (a := (-8)) (b := (-8)) (by decide +kernel)) (by decide +kernel)) (by decide +kernel)) c108
              have nb8 := sg_nbq ef117 ef118 (sg_kc (8) (iv_add (a' := 8) (b' := 8) ey115 (iv_add (a' := 16) (b' := 16) ey104 (iv_c 24 (a := 24) (b := 24) (by decide +kernel)) (iv_c _ (a := (-8)) (b := (-8)) (by decide +kernel)) (by decide +kernel)) (iv_c _ (a := (-8)) (b := (-8)) (by decide +kernel)) (by decide +kernel)) (by decide +kernel)) c119
              have nl24 := sg_nb1_le x1 24
              have nl16 := sg_nb1_le x1 16
              have nl8 := sg_nb1_le x1 8
              have nl0 := sg_nb1_le x1 0
              have hnb : sg_nb x1 = sg_nb1 x1 24 + sg_nb1 x1 16 + sg_nb1 x1 8 + sg_nb1 x1 0 := rfl
              have hx40 : f124.toInt = ((sgL2 P) + 1) := sgC240_eq (l := ((sgL2 P) + 1)) pf124 (by omega) (by omega)
              have hz40 : f125.toInt = ((sgL2 P) + 1) + 1 := by rw [sg_inc (k := 1) ef125 hf124 (by decide +kernel), hx40]
              have hy40 : iv 1 240 f125 := ⟨by omega, by omega⟩
              refine pf_X12_6q X hK hG hS h0 wl_6_184 (iv_of hy40 (a' := 0) (b' := 240) (by decide +kernel)) dX12_put_40 (fun H locs hG hS => ?_)
              have hl43 : f125.toInt = ((sgL2 P) + 1) + 1 := by rw [sg_inc (k := 1) ef125 hf124 (by decide +kernel), sgC240_eq (l := ((sgL2 P) + 1)) pf124 (by omega) (by omega)]
              rw [hl43] at hG
              obtain ⟨y126, ey126⟩ : ∃ y : Int32, y = y115 + Int32.ofInt (-8) := ⟨_, rfl⟩
              refine lv_iinc (v := y126) (lv' := [(2, .int y126), (0, .ref a0), (1, .int x1)]) X.1 X.2.1 dX12_put_43 hl (k := 0) rfl ey126.symm (by decide) rfl (fun ls hl => ?_)
              refine lv_goto (tgt := 3) X.1 X.2.1 dX12_put_46 (by decide) ?_
              refine lv_iload_n X.1 X.2.1 dX12_put_3 rfl (lv_at hl 0 rfl) ?_
              refine lv_if_lt (tgt := 49) X.1 X.2.1 dX12_put_4 (by decide) (fun c127 => ?_) (fun c127 => ?_)
              · exact ((iv_no (iv_lt (b' := (-1)) c127 (iv_add (a' := 0) (b' := 0) ey126 (iv_add (a' := 8) (b' := 8) ey115 (iv_add (a' := 16) (b' := 16) ey104 (iv_c 24 (a := 24) (b := 24) (by decide +kernel)) (iv_c _ (a := (-8)) (b := (-8)) (by decide +kernel)) (by decide +kernel)) (iv_c _ (a := (-8)) (b := (-8)) (by decide +kernel)) (by decide +kernel)) (iv_c _ (a := (-8)) (b := (-8)) (by decide +kernel)) (by decide +kernel)) (iv_c 0 (a := 0) (b := 0) (by decide +kernel)) (by decide +kernel)) (by decide +kernel))).elim
              · refine lv_iload_n X.1 X.2.1 dX12_put_7 rfl (lv_at hl 2 rfl) ?_
                refine lv_iload_n X.1 X.2.1 dX12_put_8 rfl (lv_at hl 0 rfl) ?_
                refine lv_ishr X.1 X.2.1 dX12_put_9 ?_
                refine lv_topi (fun f128 ef128 => ?_)
                refine lv_sipush (v := 255) X.1 X.2.1 dX12_put_10 (by decide +kernel) ?_
                refine lv_iand X.1 X.2.1 dX12_put_13 ?_
                refine lv_topi (fun f129 ef129 => ?_)
                refine lv_if_ne (tgt := 20) X.1 X.2.1 dX12_put_14 (by decide) (fun c130 => ?_) (fun c130 => ?_)
                · refine lv_aload_n X.1 X.2.1 dX12_put_20 rfl (lv_at hl 1 rfl) ?_
                  refine gf_X12_1 X hK hG h0 wl_6_179 dX12_put_21 (fun q131 hq131 kq131 => ?_)
                  refine lv_aload_n X.1 X.2.1 dX12_put_24 rfl (lv_at hl 1 rfl) ?_
                  refine gf_X12_6 X hK hG h0 wl_6_184 dX12_put_25 (fun f132 hf132 pf132 kf132 => ?_)
                  have nb24 := sg_nbp ef2 ef3 (sg_kc (24) (iv_c 24 (a := 24) (b := 24) (by decide +kernel)) (by decide +kernel)) c4
                  have nb16 := sg_nbq ef106 ef107 (sg_kc (16) (iv_add (a' := 16) (b' := 16) ey104 (iv_c 24 (a := 24) (b := 24) (by decide +kernel)) (iv_c _ (a := (-8)) (b := (-8)) (by decide +kernel)) (by decide +kernel)) (by decide +kernel)) c108
                  have nb8 := sg_nbq ef117 ef118 (sg_kc (8) (iv_add (a' := 8) (b' := 8) ey115 (iv_add (a' := 16) (b' := 16) ey104 (iv_c 24 (a := 24) (b := 24) (by decide +kernel)) (iv_c _ (a := (-8)) (b := (-8)) (by decide +kernel)) (by decide +kernel)) (iv_c _ (a := (-8)) (b := (-8)) (by decide +kernel)) (by decide +kernel)) (by decide +kernel)) c119
                  have nb0 := sg_nbq ef128 ef129 (sg_kc (0) (iv_add (a' := 0) (b' := 0) ey126 (iv_add (a' := 8) (b' := 8) ey115 (iv_add (a' := 16) (b' := 16) ey104 (iv_c 24 (a := 24) (b := 24) (by decide +kernel)) (iv_c _ (a := (-8)) (b := (-8)) (by decide +kernel)) (by decide +kernel)) (iv_c _ (a := (-8)) (b := (-8)) (by decide +kernel)) (by decide +kernel)) (iv_c _ (a := (-8)) (b := (-8)) (by decide +kernel)) (by decide +kernel)) (by decide +kernel)) c130
                  have nl24 := sg_nb1_le x1 24
                  have nl16 := sg_nb1_le x1 16
                  have nl8 := sg_nb1_le x1 8
                  have nl0 := sg_nb1_le x1 0
                  have hnb : sg_nb x1 = sg_nb1 x1 24 + sg_nb1 x1 16 + sg_nb1 x1 8 + sg_nb1 x1 0 := rfl
                  have hx28 : f132.toInt = (((sgL2 P) + 1) + 1) := sgC240_eq (l := (((sgL2 P) + 1) + 1)) pf132 (by omega) (by omega)
                  have hy28 : iv 0 239 f132 := ⟨by omega, by omega⟩
                  refine lv_iload_n X.1 X.2.1 dX12_put_28 rfl (lv_at hl 2 rfl) ?_
                  refine lv_iload_n X.1 X.2.1 dX12_put_29 rfl (lv_at hl 0 rfl) ?_
                  refine lv_ishr X.1 X.2.1 dX12_put_30 ?_
                  refine lv_topi (fun f133 ef133 => ?_)
                  obtain ⟨f134, ef134⟩ : ∃ y : Int32, y = (f133 : Int32).toInt8.toInt32 := ⟨_, rfl⟩
                  refine lv_i2b (v := f134) X.1 X.2.1 dX12_put_31 ef134.symm ?_
                  refine as_45q X hK hG hS hq131 (iv_vpin hy28 (by decide +kernel)) dX12_put_32 (fun H locs hG hS => ?_)
                  rw [sgC240_ix (l := (((sgL2 P) + 1) + 1)) pf132 (by omega) (by omega), sgB2_of ef133 ef134 (sg_kc (0) (iv_add (a' := 0) (b' := 0) ey126 (iv_add (a' := 8) (b' := 8) ey115 (iv_add (a' := 16) (b' := 16) ey104 (iv_c 24 (a := 24) (b := 24) (by decide +kernel)) (iv_c _ (a := (-8)) (b := (-8)) (by decide +kernel)) (by decide +kernel)) (iv_c _ (a := (-8)) (b := (-8)) (by decide +kernel)) (by decide +kernel)) (iv_c _ (a := (-8)) (b := (-8)) (by decide +kernel)) (by decide +kernel)) (by decide +kernel))] at hG
                  refine lv_aload_n X.1 X.2.1 dX12_put_33 rfl (lv_at hl 1 rfl) ?_
                  refine lv_dup X.1 X.2.1 dX12_put_34 rfl ?_
                  refine gf_X12_6 X hK hG h0 wl_6_184 dX12_put_35 (fun f135 hf135 pf135 kf135 => ?_)
                  refine lv_iconst (v := 1) X.1 X.2.1 dX12_put_38 (by decide +kernel) ?_
                  refine lv_iadd X.1 X.2.1 dX12_put_39 ?_
                  refine lv_topi (fun f136 ef136 => ?_)
                  have nb24 := sg_nbp ef2 ef3 (sg_kc (24) (iv_c 24 (a := 24) (b := 24) (by decide +kernel)) (by decide +kernel)) c4
                  have nb16 := sg_nbq ef106 ef107 (sg_kc (16) (iv_add (a' := 16) (b' := 16) ey104 (iv_c 24 (a := 24) (b := 24) (by decide +kernel)) (iv_c _ (a := (-8)) (b := (-8)) (by decide +kernel)) (by decide +kernel)) (by decide +kernel)) c108
                  have nb8 := sg_nbq ef117 ef118 (sg_kc (8) (iv_add (a' := 8) (b' := 8) ey115 (iv_add (a' := 16) (b' := 16) ey104 (iv_c 24 (a := 24) (b := 24) (by decide +kernel)) (iv_c _ (a := (-8)) (b := (-8)) (by decide +kernel)) (by decide +kernel)) (iv_c _ (a := (-8)) (b := (-8)) (by decide +kernel)) (by decide +kernel)) (by decide +kernel)) c119
                  have nb0 := sg_nbq ef128 ef129 (sg_kc (0) (iv_add (a' := 0) (b' := 0) ey126 (iv_add (a' := 8) (b' := 8) ey115 (iv_add (a' := 16) (b' := 16) ey104 (iv_c 24 (a := 24) (b := 24) (by decide +kernel)) (iv_c _ (a := (-8)) (b := (-8)) (by decide +kernel)) (by decide +kernel)) (iv_c _ (a := (-8)) (b := (-8)) (by decide +kernel)) (by decide +kernel)) (iv_c _ (a := (-8)) (b := (-8)) (by decide +kernel)) (by decide +kernel)) (by decide +kernel)) c130
                  have nl24 := sg_nb1_le x1 24
                  have nl16 := sg_nb1_le x1 16
                  have nl8 := sg_nb1_le x1 8
                  have nl0 := sg_nb1_le x1 0
                  have hnb : sg_nb x1 = sg_nb1 x1 24 + sg_nb1 x1 16 + sg_nb1 x1 8 + sg_nb1 x1 0 := rfl
                  have hx40 : f135.toInt = (((sgL2 P) + 1) + 1) := sgC240_eq (l := (((sgL2 P) + 1) + 1)) pf135 (by omega) (by omega)
                  have hz40 : f136.toInt = (((sgL2 P) + 1) + 1) + 1 := by rw [sg_inc (k := 1) ef136 hf135 (by decide +kernel), hx40]
                  have hy40 : iv 1 240 f136 := ⟨by omega, by omega⟩
                  refine pf_X12_6q X hK hG hS h0 wl_6_184 (iv_of hy40 (a' := 0) (b' := 240) (by decide +kernel)) dX12_put_40 (fun H locs hG hS => ?_)
                  have hl43 : f136.toInt = (((sgL2 P) + 1) + 1) + 1 := by rw [sg_inc (k := 1) ef136 hf135 (by decide +kernel), sgC240_eq (l := (((sgL2 P) + 1) + 1)) pf135 (by omega) (by omega)]
                  rw [hl43] at hG
                  obtain ⟨y137, ey137⟩ : ∃ y : Int32, y = y126 + Int32.ofInt (-8) := ⟨_, rfl⟩
                  refine lv_iinc (v := y137) (lv' := [(2, .int y137), (0, .ref a0), (1, .int x1)]) X.1 X.2.1 dX12_put_43 hl (k := 0) rfl ey137.symm (by decide) rfl (fun ls hl => ?_)
                  refine lv_goto (tgt := 3) X.1 X.2.1 dX12_put_46 (by decide) ?_
                  refine lv_iload_n X.1 X.2.1 dX12_put_3 rfl (lv_at hl 0 rfl) ?_
                  refine lv_if_lt (tgt := 49) X.1 X.2.1 dX12_put_4 (by decide) (fun c138 => ?_) (fun c138 => ?_)
                  · have hap : sgAp2 x1 (sgT2 P, sgL2 P) = ((sgUp (sgUp (sgUp (sgT2 P) ((sgL2 P)).toNat (sgB2 x1 16)) (((sgL2 P) + 1)).toNat (sgB2 x1 8)) ((((sgL2 P) + 1) + 1)).toNat (sgB2 x1 0)), ((((sgL2 P) + 1) + 1) + 1)) := by unfold sgAp2; rw [sgA2_0 ef2 ef3 (sg_kc (24) (iv_c 24 (a := 24) (b := 24) (by decide +kernel)) (by decide +kernel)) c4, sgA2_1 ef106 ef107 (sg_kc (16) (iv_add (a' := 16) (b' := 16) ey104 (iv_c 24 (a := 24) (b := 24) (by decide +kernel)) (iv_c _ (a := (-8)) (b := (-8)) (by decide +kernel)) (by decide +kernel)) (by decide +kernel)) c108, sgA2_1 ef117 ef118 (sg_kc (8) (iv_add (a' := 8) (b' := 8) ey115 (iv_add (a' := 16) (b' := 16) ey104 (iv_c 24 (a := 24) (b := 24) (by decide +kernel)) (iv_c _ (a := (-8)) (b := (-8)) (by decide +kernel)) (by decide +kernel)) (iv_c _ (a := (-8)) (b := (-8)) (by decide +kernel)) (by decide +kernel)) (by decide +kernel)) c119, sgA2_1 ef128 ef129 (sg_kc (0) (iv_add (a' := 0) (b' := 0) ey126 (iv_add (a' := 8) (b' := 8) ey115 (iv_add (a' := 16) (b' := 16) ey104 (iv_c 24 (a := 24) (b := 24) (by decide +kernel)) (iv_c _ (a := (-8)) (b := (-8)) (by decide +kernel)) (by decide +kernel)) (iv_c _ (a := (-8)) (b := (-8)) (by decide +kernel)) (by decide +kernel)) (iv_c _ (a := (-8)) (b := (-8)) (by decide +kernel)) (by decide +kernel)) (by decide +kernel)) c130]
                    exact sg_vret2 X hr hlk hS (fun t ht hW => (by rw [hap]; exact sg_post hb hK hC hG hS ht hW)) dX12_put_49
                  · exact ((iv_no (iv_le (b' := (-8)) (iv_ge_of c138) (iv_c 0 (a := 0) (b := 0) (by decide +kernel)) (iv_add (a' := (-8)) (b' := (-8)) ey137 (iv_add (a' := 0) (b' := 0) ey126 (iv_add (a' := 8) (b' := 8) ey115 (iv_add (a' := 16) (b' := 16) ey104 (iv_c 24 (a := 24) (b := 24) (by decide +kernel)) (iv_c _ (a := (-8)) (b := (-8)) (by decide +kernel)) (by decide +kernel)) (iv_c _ (a := (-8)) (b := (-8)) (by decide +kernel)) (by decide +kernel)) (iv_c _ (a := (-8)) (b := (-8)) (by decide +kernel)) (by decide +kernel)) (iv_c _ (a := (-8)) (b := (-8)) (by decide +kernel)) (by decide +kernel)) (by decide +kernel)) (by decide +kernel))).elim
                · refine lv_goto (tgt := 43) X.1 X.2.1 dX12_put_17 (by decide) ?_
                  obtain ⟨y139, ey139⟩ : ∃ y : Int32, y = y126 + Int32.ofInt (-8) := ⟨_, rfl⟩
                  refine lv_iinc (v := y139) (lv' := [(2, .int y139), (0, .ref a0), (1, .int x1)]) X.1 X.2.1 dX12_put_43 hl (k := 0) rfl ey139.symm (by decide) rfl (fun ls hl => ?_)
                  refine lv_goto (tgt := 3) X.1 X.2.1 dX12_put_46 (by decide) ?_
                  refine lv_iload_n X.1 X.2.1 dX12_put_3 rfl (lv_at hl 0 rfl) ?_
                  refine lv_if_lt (tgt := 49) X.1 X.2.1 dX12_put_4 (by decide) (fun c140 => ?_) (fun c140 => ?_)
                  · have hap : sgAp2 x1 (sgT2 P, sgL2 P) = ((sgUp (sgUp (sgT2 P) ((sgL2 P)).toNat (sgB2 x1 16)) (((sgL2 P) + 1)).toNat (sgB2 x1 8)), (((sgL2 P) + 1) + 1)) := by unfold sgAp2; rw [sgA2_0 ef2 ef3 (sg_kc (24) (iv_c 24 (a := 24) (b := 24) (by decide +kernel)) (by decide +kernel)) c4, sgA2_1 ef106 ef107 (sg_kc (16) (iv_add (a' := 16) (b' := 16) ey104 (iv_c 24 (a := 24) (b := 24) (by decide +kernel)) (iv_c _ (a := (-8)) (b := (-8)) (by decide +kernel)) (by decide +kernel)) (by decide +kernel)) c108, sgA2_1 ef117 ef118 (sg_kc (8) (iv_add (a' := 8) (b' := 8) ey115 (iv_add (a' := 16) (b' := 16) ey104 (iv_c 24 (a := 24) (b := 24) (by decide +kernel)) (iv_c _ (a := (-8)) (b := (-8)) (by decide +kernel)) (by decide +kernel)) (iv_c _ (a := (-8)) (b := (-8)) (by decide +kernel)) (by decide +kernel)) (by decide +kernel)) c119, sgA2_0 ef128 ef129 (sg_kc (0) (iv_add (a' := 0) (b' := 0) ey126 (iv_add (a' := 8) (b' := 8) ey115 (iv_add (a' := 16) (b' := 16) ey104 (iv_c 24 (a := 24) (b := 24) (by decide +kernel)) (iv_c _ (a := (-8)) (b := (-8)) (by decide +kernel)) (by decide +kernel)) (iv_c _ (a := (-8)) (b := (-8)) (by decide +kernel)) (by decide +kernel)) (iv_c _ (a := (-8)) (b := (-8)) (by decide +kernel)) (by decide +kernel)) (by decide +kernel)) c130]
                    exact sg_vret2 X hr hlk hS (fun t ht hW => (by rw [hap]; exact sg_post hb hK hC hG hS ht hW)) dX12_put_49
                  · exact ((iv_no (iv_le (b' := (-8)) (iv_ge_of c140) (iv_c 0 (a := 0) (b := 0) (by decide +kernel)) (iv_add (a' := (-8)) (b' := (-8)) ey139 (iv_add (a' := 0) (b' := 0) ey126 (iv_add (a' := 8) (b' := 8) ey115 (iv_add (a' := 16) (b' := 16) ey104 (iv_c 24 (a := 24) (b := 24) (by decide +kernel)) (iv_c _ (a := (-8)) (b := (-8)) (by decide +kernel)) (by decide +kernel)) (iv_c _ (a := (-8)) (b := (-8)) (by decide +kernel)) (by decide +kernel)) (iv_c _ (a := (-8)) (b := (-8)) (by decide +kernel)) (by decide +kernel)) (iv_c _ (a := (-8)) (b := (-8)) (by decide +kernel)) (by decide +kernel)) (by decide +kernel)) (by decide +kernel))).elim
            · refine lv_goto (tgt := 43) X.1 X.2.1 dX12_put_17 (by decide) ?_
              obtain ⟨y141, ey141⟩ : ∃ y : Int32, y = y115 + Int32.ofInt (-8) := ⟨_, rfl⟩
              refine lv_iinc (v := y141) (lv' := [(2, .int y141), (0, .ref a0), (1, .int x1)]) X.1 X.2.1 dX12_put_43 hl (k := 0) rfl ey141.symm (by decide) rfl (fun ls hl => ?_)
              refine lv_goto (tgt := 3) X.1 X.2.1 dX12_put_46 (by decide) ?_
              refine lv_iload_n X.1 X.2.1 dX12_put_3 rfl (lv_at hl 0 rfl) ?_
              refine lv_if_lt (tgt := 49) X.1 X.2.1 dX12_put_4 (by decide) (fun c142 => ?_) (fun c142 => ?_)
              · exact ((iv_no (iv_lt (b' := (-1)) c142 (iv_add (a' := 0) (b' := 0) ey141 (iv_add (a' := 8) (b' := 8) ey115 (iv_add (a' := 16) (b' := 16) ey104 (iv_c 24 (a := 24) (b := 24) (by decide +kernel)) (iv_c _ (a := (-8)) (b := (-8)) (by decide +kernel)) (by decide +kernel)) (iv_c _ (a := (-8)) (b := (-8)) (by decide +kernel)) (by decide +kernel)) (iv_c _ (a := (-8)) (b := (-8)) (by decide +kernel)) (by decide +kernel)) (iv_c 0 (a := 0) (b := 0) (by decide +kernel)) (by decide +kernel)) (by decide +kernel))).elim
              · refine lv_iload_n X.1 X.2.1 dX12_put_7 rfl (lv_at hl 2 rfl) ?_
                refine lv_iload_n X.1 X.2.1 dX12_put_8 rfl (lv_at hl 0 rfl) ?_
                refine lv_ishr X.1 X.2.1 dX12_put_9 ?_
                refine lv_topi (fun f143 ef143 => ?_)
                refine lv_sipush (v := 255) X.1 X.2.1 dX12_put_10 (by decide +kernel) ?_
                refine lv_iand X.1 X.2.1 dX12_put_13 ?_
                refine lv_topi (fun f144 ef144 => ?_)
                refine lv_if_ne (tgt := 20) X.1 X.2.1 dX12_put_14 (by decide) (fun c145 => ?_) (fun c145 => ?_)
                · refine lv_aload_n X.1 X.2.1 dX12_put_20 rfl (lv_at hl 1 rfl) ?_
                  refine gf_X12_1 X hK hG h0 wl_6_179 dX12_put_21 (fun q146 hq146 kq146 => ?_)
                  refine lv_aload_n X.1 X.2.1 dX12_put_24 rfl (lv_at hl 1 rfl) ?_
                  refine gf_X12_6 X hK hG h0 wl_6_184 dX12_put_25 (fun f147 hf147 pf147 kf147 => ?_)
                  have nb24 := sg_nbp ef2 ef3 (sg_kc (24) (iv_c 24 (a := 24) (b := 24) (by decide +kernel)) (by decide +kernel)) c4
                  have nb16 := sg_nbq ef106 ef107 (sg_kc (16) (iv_add (a' := 16) (b' := 16) ey104 (iv_c 24 (a := 24) (b := 24) (by decide +kernel)) (iv_c _ (a := (-8)) (b := (-8)) (by decide +kernel)) (by decide +kernel)) (by decide +kernel)) c108
                  have nb8 := sg_nbp ef117 ef118 (sg_kc (8) (iv_add (a' := 8) (b' := 8) ey115 (iv_add (a' := 16) (b' := 16) ey104 (iv_c 24 (a := 24) (b := 24) (by decide +kernel)) (iv_c _ (a := (-8)) (b := (-8)) (by decide +kernel)) (by decide +kernel)) (iv_c _ (a := (-8)) (b := (-8)) (by decide +kernel)) (by decide +kernel)) (by decide +kernel)) c119
                  have nb0 := sg_nbq ef143 ef144 (sg_kc (0) (iv_add (a' := 0) (b' := 0) ey141 (iv_add (a' := 8) (b' := 8) ey115 (iv_add (a' := 16) (b' := 16) ey104 (iv_c 24 (a := 24) (b := 24) (by decide +kernel)) (iv_c _ (a := (-8)) (b := (-8)) (by decide +kernel)) (by decide +kernel)) (iv_c _ (a := (-8)) (b := (-8)) (by decide +kernel)) (by decide +kernel)) (iv_c _ (a := (-8)) (b := (-8)) (by decide +kernel)) (by decide +kernel)) (by decide +kernel)) c145
                  have nl24 := sg_nb1_le x1 24
                  have nl16 := sg_nb1_le x1 16
                  have nl8 := sg_nb1_le x1 8
                  have nl0 := sg_nb1_le x1 0
                  have hnb : sg_nb x1 = sg_nb1 x1 24 + sg_nb1 x1 16 + sg_nb1 x1 8 + sg_nb1 x1 0 := rfl
                  have hx28 : f147.toInt = ((sgL2 P) + 1) := sgC240_eq (l := ((sgL2 P) + 1)) pf147 (by omega) (by omega)
                  have hy28 : iv 0 239 f147 := ⟨by omega, by omega⟩
                  refine lv_iload_n X.1 X.2.1 dX12_put_28 rfl (lv_at hl 2 rfl) ?_
                  refine lv_iload_n X.1 X.2.1 dX12_put_29 rfl (lv_at hl 0 rfl) ?_
                  refine lv_ishr X.1 X.2.1 dX12_put_30 ?_
                  refine lv_topi (fun f148 ef148 => ?_)
                  obtain ⟨f149, ef149⟩ : ∃ y : Int32, y = (f148 : Int32).toInt8.toInt32 := ⟨_, rfl⟩
                  refine lv_i2b (v := f149) X.1 X.2.1 dX12_put_31 ef149.symm ?_
                  refine as_45q X hK hG hS hq146 (iv_vpin hy28 (by decide +kernel)) dX12_put_32 (fun H locs hG hS => ?_)
                  rw [sgC240_ix (l := ((sgL2 P) + 1)) pf147 (by omega) (by omega), sgB2_of ef148 ef149 (sg_kc (0) (iv_add (a' := 0) (b' := 0) ey141 (iv_add (a' := 8) (b' := 8) ey115 (iv_add (a' := 16) (b' := 16) ey104 (iv_c 24 (a := 24) (b := 24) (by decide +kernel)) (iv_c _ (a := (-8)) (b := (-8)) (by decide +kernel)) (by decide +kernel)) (iv_c _ (a := (-8)) (b := (-8)) (by decide +kernel)) (by decide +kernel)) (iv_c _ (a := (-8)) (b := (-8)) (by decide +kernel)) (by decide +kernel)) (by decide +kernel))] at hG
                  refine lv_aload_n X.1 X.2.1 dX12_put_33 rfl (lv_at hl 1 rfl) ?_
                  refine lv_dup X.1 X.2.1 dX12_put_34 rfl ?_
                  refine gf_X12_6 X hK hG h0 wl_6_184 dX12_put_35 (fun f150 hf150 pf150 kf150 => ?_)
                  refine lv_iconst (v := 1) X.1 X.2.1 dX12_put_38 (by decide +kernel) ?_
                  refine lv_iadd X.1 X.2.1 dX12_put_39 ?_
                  refine lv_topi (fun f151 ef151 => ?_)
                  have nb24 := sg_nbp ef2 ef3 (sg_kc (24) (iv_c 24 (a := 24) (b := 24) (by decide +kernel)) (by decide +kernel)) c4
                  have nb16 := sg_nbq ef106 ef107 (sg_kc (16) (iv_add (a' := 16) (b' := 16) ey104 (iv_c 24 (a := 24) (b := 24) (by decide +kernel)) (iv_c _ (a := (-8)) (b := (-8)) (by decide +kernel)) (by decide +kernel)) (by decide +kernel)) c108
                  have nb8 := sg_nbp ef117 ef118 (sg_kc (8) (iv_add (a' := 8) (b' := 8) ey115 (iv_add (a' := 16) (b' := 16) ey104 (iv_c 24 (a := 24) (b := 24) (by decide +kernel)) (iv_c _ (a := (-8)) (b := (-8)) (by decide +kernel)) (by decide +kernel)) (iv_c _ (a := (-8)) (b := (-8)) (by decide +kernel)) (by decide +kernel)) (by decide +kernel)) c119
                  have nb0 := sg_nbq ef143 ef144 (sg_kc (0) (iv_add (a' := 0) (b' := 0) ey141 (iv_add (a' := 8) (b' := 8) ey115 (iv_add (a' := 16) (b' := 16) ey104 (iv_c 24 (a := 24) (b := 24) (by decide +kernel)) (iv_c _ (a := (-8)) (b := (-8)) (by decide +kernel)) (by decide +kernel)) (iv_c _ (a := (-8)) (b := (-8)) (by decide +kernel)) (by decide +kernel)) (iv_c _ (a := (-8)) (b := (-8)) (by decide +kernel)) (by decide +kernel)) (by decide +kernel)) c145
                  have nl24 := sg_nb1_le x1 24
                  have nl16 := sg_nb1_le x1 16
                  have nl8 := sg_nb1_le x1 8
                  have nl0 := sg_nb1_le x1 0
                  have hnb : sg_nb x1 = sg_nb1 x1 24 + sg_nb1 x1 16 + sg_nb1 x1 8 + sg_nb1 x1 0 := rfl
                  have hx40 : f150.toInt = ((sgL2 P) + 1) := sgC240_eq (l := ((sgL2 P) + 1)) pf150 (by omega) (by omega)
                  have hz40 : f151.toInt = ((sgL2 P) + 1) + 1 := by rw [sg_inc (k := 1) ef151 hf150 (by decide +kernel), hx40]
                  have hy40 : iv 1 240 f151 := ⟨by omega, by omega⟩
                  refine pf_X12_6q X hK hG hS h0 wl_6_184 (iv_of hy40 (a' := 0) (b' := 240) (by decide +kernel)) dX12_put_40 (fun H locs hG hS => ?_)
                  have hl43 : f151.toInt = ((sgL2 P) + 1) + 1 := by rw [sg_inc (k := 1) ef151 hf150 (by decide +kernel), sgC240_eq (l := ((sgL2 P) + 1)) pf150 (by omega) (by omega)]
                  rw [hl43] at hG
                  obtain ⟨y152, ey152⟩ : ∃ y : Int32, y = y141 + Int32.ofInt (-8) := ⟨_, rfl⟩
                  refine lv_iinc (v := y152) (lv' := [(2, .int y152), (0, .ref a0), (1, .int x1)]) X.1 X.2.1 dX12_put_43 hl (k := 0) rfl ey152.symm (by decide) rfl (fun ls hl => ?_)
                  refine lv_goto (tgt := 3) X.1 X.2.1 dX12_put_46 (by decide) ?_
                  refine lv_iload_n X.1 X.2.1 dX12_put_3 rfl (lv_at hl 0 rfl) ?_
                  refine lv_if_lt (tgt := 49) X.1 X.2.1 dX12_put_4 (by decide) (fun c153 => ?_) (fun c153 => ?_)
                  · have hap : sgAp2 x1 (sgT2 P, sgL2 P) = ((sgUp (sgUp (sgT2 P) ((sgL2 P)).toNat (sgB2 x1 16)) (((sgL2 P) + 1)).toNat (sgB2 x1 0)), (((sgL2 P) + 1) + 1)) := by unfold sgAp2; rw [sgA2_0 ef2 ef3 (sg_kc (24) (iv_c 24 (a := 24) (b := 24) (by decide +kernel)) (by decide +kernel)) c4, sgA2_1 ef106 ef107 (sg_kc (16) (iv_add (a' := 16) (b' := 16) ey104 (iv_c 24 (a := 24) (b := 24) (by decide +kernel)) (iv_c _ (a := (-8)) (b := (-8)) (by decide +kernel)) (by decide +kernel)) (by decide +kernel)) c108, sgA2_0 ef117 ef118 (sg_kc (8) (iv_add (a' := 8) (b' := 8) ey115 (iv_add (a' := 16) (b' := 16) ey104 (iv_c 24 (a := 24) (b := 24) (by decide +kernel)) (iv_c _ (a := (-8)) (b := (-8)) (by decide +kernel)) (by decide +kernel)) (iv_c _ (a := (-8)) (b := (-8)) (by decide +kernel)) (by decide +kernel)) (by decide +kernel)) c119, sgA2_1 ef143 ef144 (sg_kc (0) (iv_add (a' := 0) (b' := 0) ey141 (iv_add (a' := 8) (b' := 8) ey115 (iv_add (a' := 16) (b' := 16) ey104 (iv_c 24 (a := 24) (b := 24) (by decide +kernel)) (iv_c _ (a := (-8)) (b := (-8)) (by decide +kernel)) (by decide +kernel)) (iv_c _ (a := (-8)) (b := (-8)) (by decide +kernel)) (by decide +kernel)) (iv_c _ (a := (-8)) (b := (-8)) (by decide +kernel)) (by decide +kernel)) (by decide +kernel)) c145]
                    exact sg_vret2 X hr hlk hS (fun t ht hW => (by rw [hap]; exact sg_post hb hK hC hG hS ht hW)) dX12_put_49
                  · exact ((iv_no (iv_le (b' := (-8)) (iv_ge_of c153) (iv_c 0 (a := 0) (b := 0) (by decide +kernel)) (iv_add (a' := (-8)) (b' := (-8)) ey152 (iv_add (a' := 0) (b' := 0) ey141 (iv_add (a' := 8) (b' := 8) ey115 (iv_add (a' := 16) (b' := 16) ey104 (iv_c 24 (a := 24) (b := 24) (by decide +kernel)) (iv_c _ (a := (-8)) (b := (-8)) (by decide +kernel)) (by decide +kernel)) (iv_c _ (a := (-8)) (b := (-8)) (by decide +kernel)) (by decide +kernel)) (iv_c _ (a := (-8)) (b := (-8)) (by decide +kernel)) (by decide +kernel)) (iv_c _ (a := (-8)) (b := (-8)) (by decide +kernel)) (by decide +kernel)) (by decide +kernel)) (by decide +kernel))).elim
                · refine lv_goto (tgt := 43) X.1 X.2.1 dX12_put_17 (by decide) ?_
                  obtain ⟨y154, ey154⟩ : ∃ y : Int32, y = y141 + Int32.ofInt (-8) := ⟨_, rfl⟩
                  refine lv_iinc (v := y154) (lv' := [(2, .int y154), (0, .ref a0), (1, .int x1)]) X.1 X.2.1 dX12_put_43 hl (k := 0) rfl ey154.symm (by decide) rfl (fun ls hl => ?_)
                  refine lv_goto (tgt := 3) X.1 X.2.1 dX12_put_46 (by decide) ?_
                  refine lv_iload_n X.1 X.2.1 dX12_put_3 rfl (lv_at hl 0 rfl) ?_
                  refine lv_if_lt (tgt := 49) X.1 X.2.1 dX12_put_4 (by decide) (fun c155 => ?_) (fun c155 => ?_)
                  · have hap : sgAp2 x1 (sgT2 P, sgL2 P) = ((sgUp (sgT2 P) ((sgL2 P)).toNat (sgB2 x1 16)), ((sgL2 P) + 1)) := by unfold sgAp2; rw [sgA2_0 ef2 ef3 (sg_kc (24) (iv_c 24 (a := 24) (b := 24) (by decide +kernel)) (by decide +kernel)) c4, sgA2_1 ef106 ef107 (sg_kc (16) (iv_add (a' := 16) (b' := 16) ey104 (iv_c 24 (a := 24) (b := 24) (by decide +kernel)) (iv_c _ (a := (-8)) (b := (-8)) (by decide +kernel)) (by decide +kernel)) (by decide +kernel)) c108, sgA2_0 ef117 ef118 (sg_kc (8) (iv_add (a' := 8) (b' := 8) ey115 (iv_add (a' := 16) (b' := 16) ey104 (iv_c 24 (a := 24) (b := 24) (by decide +kernel)) (iv_c _ (a := (-8)) (b := (-8)) (by decide +kernel)) (by decide +kernel)) (iv_c _ (a := (-8)) (b := (-8)) (by decide +kernel)) (by decide +kernel)) (by decide +kernel)) c119, sgA2_0 ef143 ef144 (sg_kc (0) (iv_add (a' := 0) (b' := 0) ey141 (iv_add (a' := 8) (b' := 8) ey115 (iv_add (a' := 16) (b' := 16) ey104 (iv_c 24 (a := 24) (b := 24) (by decide +kernel)) (iv_c _ (a := (-8)) (b := (-8)) (by decide +kernel)) (by decide +kernel)) (iv_c _ (a := (-8)) (b := (-8)) (by decide +kernel)) (by decide +kernel)) (iv_c _ (a := (-8)) (b := (-8)) (by decide +kernel)) (by decide +kernel)) (by decide +kernel)) c145]
                    exact sg_vret2 X hr hlk hS (fun t ht hW => (by rw [hap]; exact sg_post hb hK hC hG hS ht hW)) dX12_put_49
                  · exact ((iv_no (iv_le (b' := (-8)) (iv_ge_of c155) (iv_c 0 (a := 0) (b := 0) (by decide +kernel)) (iv_add (a' := (-8)) (b' := (-8)) ey154 (iv_add (a' := 0) (b' := 0) ey141 (iv_add (a' := 8) (b' := 8) ey115 (iv_add (a' := 16) (b' := 16) ey104 (iv_c 24 (a := 24) (b := 24) (by decide +kernel)) (iv_c _ (a := (-8)) (b := (-8)) (by decide +kernel)) (by decide +kernel)) (iv_c _ (a := (-8)) (b := (-8)) (by decide +kernel)) (by decide +kernel)) (iv_c _ (a := (-8)) (b := (-8)) (by decide +kernel)) (by decide +kernel)) (iv_c _ (a := (-8)) (b := (-8)) (by decide +kernel)) (by decide +kernel)) (by decide +kernel)) (by decide +kernel))).elim
        · refine lv_goto (tgt := 43) X.1 X.2.1 dX12_put_17 (by decide) ?_
          obtain ⟨y156, ey156⟩ : ∃ y : Int32, y = y104 + Int32.ofInt (-8) := ⟨_, rfl⟩
          refine lv_iinc (v := y156) (lv' := [(2, .int y156), (0, .ref a0), (1, .int x1)]) X.1 X.2.1 dX12_put_43 hl (k := 0) rfl ey156.symm (by decide) rfl (fun ls hl => ?_)
          refine lv_goto (tgt := 3) X.1 X.2.1 dX12_put_46 (by decide) ?_
          refine lv_iload_n X.1 X.2.1 dX12_put_3 rfl (lv_at hl 0 rfl) ?_
          refine lv_if_lt (tgt := 49) X.1 X.2.1 dX12_put_4 (by decide) (fun c157 => ?_) (fun c157 => ?_)
          · exact ((iv_no (iv_lt (b' := (-1)) c157 (iv_add (a' := 8) (b' := 8) ey156 (iv_add (a' := 16) (b' := 16) ey104 (iv_c 24 (a := 24) (b := 24) (by decide +kernel)) (iv_c _ (a := (-8)) (b := (-8)) (by decide +kernel)) (by decide +kernel)) (iv_c _ (a := (-8)) (b := (-8)) (by decide +kernel)) (by decide +kernel)) (iv_c 0 (a := 0) (b := 0) (by decide +kernel)) (by decide +kernel)) (by decide +kernel))).elim
          · refine lv_iload_n X.1 X.2.1 dX12_put_7 rfl (lv_at hl 2 rfl) ?_
            refine lv_iload_n X.1 X.2.1 dX12_put_8 rfl (lv_at hl 0 rfl) ?_
            refine lv_ishr X.1 X.2.1 dX12_put_9 ?_
            refine lv_topi (fun f158 ef158 => ?_)
            refine lv_sipush (v := 255) X.1 X.2.1 dX12_put_10 (by decide +kernel) ?_
            refine lv_iand X.1 X.2.1 dX12_put_13 ?_
            refine lv_topi (fun f159 ef159 => ?_)
            refine lv_if_ne (tgt := 20) X.1 X.2.1 dX12_put_14 (by decide) (fun c160 => ?_) (fun c160 => ?_)
            · refine lv_aload_n X.1 X.2.1 dX12_put_20 rfl (lv_at hl 1 rfl) ?_
              refine gf_X12_1 X hK hG h0 wl_6_179 dX12_put_21 (fun q161 hq161 kq161 => ?_)
              refine lv_aload_n X.1 X.2.1 dX12_put_24 rfl (lv_at hl 1 rfl) ?_
              refine gf_X12_6 X hK hG h0 wl_6_184 dX12_put_25 (fun f162 hf162 pf162 kf162 => ?_)
              have hG := sg_st hG
              have nb24 := sg_nbp ef2 ef3 (sg_kc (24) (iv_c 24 (a := 24) (b := 24) (by decide +kernel)) (by decide +kernel)) c4
              have nb16 := sg_nbp ef106 ef107 (sg_kc (16) (iv_add (a' := 16) (b' := 16) ey104 (iv_c 24 (a := 24) (b := 24) (by decide +kernel)) (iv_c _ (a := (-8)) (b := (-8)) (by decide +kernel)) (by decide +kernel)) (by decide +kernel)) c108
              have nb8 := sg_nbq ef158 ef159 (sg_kc (8) (iv_add (a' := 8) (b' := 8) ey156 (iv_add (a' := 16) (b' := 16) ey104 (iv_c 24 (a := 24) (b := 24) (by decide +kernel)) (iv_c _ (a := (-8)) (b := (-8)) (by decide +kernel)) (by decide +kernel)) (iv_c _ (a := (-8)) (b := (-8)) (by decide +kernel)) (by decide +kernel)) (by decide +kernel)) c160
              have nl24 := sg_nb1_le x1 24
              have nl16 := sg_nb1_le x1 16
              have nl8 := sg_nb1_le x1 8
              have nl0 := sg_nb1_le x1 0
              have hnb : sg_nb x1 = sg_nb1 x1 24 + sg_nb1 x1 16 + sg_nb1 x1 8 + sg_nb1 x1 0 := rfl
              have hx28 : f162.toInt = (sgL2 P) := sgC240_eq (l := (sgL2 P)) pf162 (by omega) (by omega)
              have hy28 : iv 0 239 f162 := ⟨by omega, by omega⟩
              refine lv_iload_n X.1 X.2.1 dX12_put_28 rfl (lv_at hl 2 rfl) ?_
              refine lv_iload_n X.1 X.2.1 dX12_put_29 rfl (lv_at hl 0 rfl) ?_
              refine lv_ishr X.1 X.2.1 dX12_put_30 ?_
              refine lv_topi (fun f163 ef163 => ?_)
              obtain ⟨f164, ef164⟩ : ∃ y : Int32, y = (f163 : Int32).toInt8.toInt32 := ⟨_, rfl⟩
              refine lv_i2b (v := f164) X.1 X.2.1 dX12_put_31 ef164.symm ?_
              refine as_45q X hK hG hS hq161 (iv_vpin hy28 (by decide +kernel)) dX12_put_32 (fun H locs hG hS => ?_)
              rw [sgC240_ix (l := (sgL2 P)) pf162 (by omega) (by omega), sgB2_of ef163 ef164 (sg_kc (8) (iv_add (a' := 8) (b' := 8) ey156 (iv_add (a' := 16) (b' := 16) ey104 (iv_c 24 (a := 24) (b := 24) (by decide +kernel)) (iv_c _ (a := (-8)) (b := (-8)) (by decide +kernel)) (by decide +kernel)) (iv_c _ (a := (-8)) (b := (-8)) (by decide +kernel)) (by decide +kernel)) (by decide +kernel))] at hG
              refine lv_aload_n X.1 X.2.1 dX12_put_33 rfl (lv_at hl 1 rfl) ?_
              refine lv_dup X.1 X.2.1 dX12_put_34 rfl ?_
              refine gf_X12_6 X hK hG h0 wl_6_184 dX12_put_35 (fun f165 hf165 pf165 kf165 => ?_)
              refine lv_iconst (v := 1) X.1 X.2.1 dX12_put_38 (by decide +kernel) ?_
              refine lv_iadd X.1 X.2.1 dX12_put_39 ?_
              refine lv_topi (fun f166 ef166 => ?_)
              have nb24 := sg_nbp ef2 ef3 (sg_kc (24) (iv_c 24 (a := 24) (b := 24) (by decide +kernel)) (by decide +kernel)) c4
              have nb16 := sg_nbp ef106 ef107 (sg_kc (16) (iv_add (a' := 16) (b' := 16) ey104 (iv_c 24 (a := 24) (b := 24) (by decide +kernel)) (iv_c _ (a := (-8)) (b := (-8)) (by decide +kernel)) (by decide +kernel)) (by decide +kernel)) c108
              have nb8 := sg_nbq ef158 ef159 (sg_kc (8) (iv_add (a' := 8) (b' := 8) ey156 (iv_add (a' := 16) (b' := 16) ey104 (iv_c 24 (a := 24) (b := 24) (by decide +kernel)) (iv_c _ (a := (-8)) (b := (-8)) (by decide +kernel)) (by decide +kernel)) (iv_c _ (a := (-8)) (b := (-8)) (by decide +kernel)) (by decide +kernel)) (by decide +kernel)) c160
              have nl24 := sg_nb1_le x1 24
              have nl16 := sg_nb1_le x1 16
              have nl8 := sg_nb1_le x1 8
              have nl0 := sg_nb1_le x1 0
              have hnb : sg_nb x1 = sg_nb1 x1 24 + sg_nb1 x1 16 + sg_nb1 x1 8 + sg_nb1 x1 0 := rfl
              have hx40 : f165.toInt = (sgL2 P) := sgC240_eq (l := (sgL2 P)) pf165 (by omega) (by omega)
              have hz40 : f166.toInt = (sgL2 P) + 1 := by rw [sg_inc (k := 1) ef166 hf165 (by decide +kernel), hx40]
              have hy40 : iv 1 240 f166 := ⟨by omega, by omega⟩
              refine pf_X12_6q X hK hG hS h0 wl_6_184 (iv_of hy40 (a' := 0) (b' := 240) (by decide +kernel)) dX12_put_40 (fun H locs hG hS => ?_)
              have hl43 : f166.toInt = (sgL2 P) + 1 := by rw [sg_inc (k := 1) ef166 hf165 (by decide +kernel), sgC240_eq (l := (sgL2 P)) pf165 (by omega) (by omega)]
              rw [hl43] at hG
              obtain ⟨y167, ey167⟩ : ∃ y : Int32, y = y156 + Int32.ofInt (-8) := ⟨_, rfl⟩
              refine lv_iinc (v := y167) (lv' := [(2, .int y167), (0, .ref a0), (1, .int x1)]) X.1 X.2.1 dX12_put_43 hl (k := 0) rfl ey167.symm (by decide) rfl (fun ls hl => ?_)
              refine lv_goto (tgt := 3) X.1 X.2.1 dX12_put_46 (by decide) ?_
              refine lv_iload_n X.1 X.2.1 dX12_put_3 rfl (lv_at hl 0 rfl) ?_
              refine lv_if_lt (tgt := 49) X.1 X.2.1 dX12_put_4 (by decide) (fun c168 => ?_) (fun c168 => ?_)
              · exact ((iv_no (iv_lt (b' := (-1)) c168 (iv_add (a' := 0) (b' := 0) ey167 (iv_add (a' := 8) (b' := 8) ey156 (iv_add (a' := 16) (b' := 16) ey104 (iv_c 24 (a := 24) (b := 24) (by decide +kernel)) (iv_c _ (a := (-8)) (b := (-8)) (by decide +kernel)) (by decide +kernel)) (iv_c _ (a := (-8)) (b := (-8)) (by decide +kernel)) (by decide +kernel)) (iv_c _ (a := (-8)) (b := (-8)) (by decide +kernel)) (by decide +kernel)) (iv_c 0 (a := 0) (b := 0) (by decide +kernel)) (by decide +kernel)) (by decide +kernel))).elim
              · refine lv_iload_n X.1 X.2.1 dX12_put_7 rfl (lv_at hl 2 rfl) ?_
                refine lv_iload_n X.1 X.2.1 dX12_put_8 rfl (lv_at hl 0 rfl) ?_
                refine lv_ishr X.1 X.2.1 dX12_put_9 ?_
                refine lv_topi (fun f169 ef169 => ?_)
                refine lv_sipush (v := 255) X.1 X.2.1 dX12_put_10 (by decide +kernel) ?_
                refine lv_iand X.1 X.2.1 dX12_put_13 ?_
                refine lv_topi (fun f170 ef170 => ?_)
                refine lv_if_ne (tgt := 20) X.1 X.2.1 dX12_put_14 (by decide) (fun c171 => ?_) (fun c171 => ?_)
                · refine lv_aload_n X.1 X.2.1 dX12_put_20 rfl (lv_at hl 1 rfl) ?_
                  refine gf_X12_1 X hK hG h0 wl_6_179 dX12_put_21 (fun q172 hq172 kq172 => ?_)
                  refine lv_aload_n X.1 X.2.1 dX12_put_24 rfl (lv_at hl 1 rfl) ?_
                  refine gf_X12_6 X hK hG h0 wl_6_184 dX12_put_25 (fun f173 hf173 pf173 kf173 => ?_)
                  have nb24 := sg_nbp ef2 ef3 (sg_kc (24) (iv_c 24 (a := 24) (b := 24) (by decide +kernel)) (by decide +kernel)) c4
                  have nb16 := sg_nbp ef106 ef107 (sg_kc (16) (iv_add (a' := 16) (b' := 16) ey104 (iv_c 24 (a := 24) (b := 24) (by decide +kernel)) (iv_c _ (a := (-8)) (b := (-8)) (by decide +kernel)) (by decide +kernel)) (by decide +kernel)) c108
                  have nb8 := sg_nbq ef158 ef159 (sg_kc (8) (iv_add (a' := 8) (b' := 8) ey156 (iv_add (a' := 16) (b' := 16) ey104 (iv_c 24 (a := 24) (b := 24) (by decide +kernel)) (iv_c _ (a := (-8)) (b := (-8)) (by decide +kernel)) (by decide +kernel)) (iv_c _ (a := (-8)) (b := (-8)) (by decide +kernel)) (by decide +kernel)) (by decide +kernel)) c160
                  have nb0 := sg_nbq ef169 ef170 (sg_kc (0) (iv_add (a' := 0) (b' := 0) ey167 (iv_add (a' := 8) (b' := 8) ey156 (iv_add (a' := 16) (b' := 16) ey104 (iv_c 24 (a := 24) (b := 24) (by decide +kernel)) (iv_c _ (a := (-8)) (b := (-8)) (by decide +kernel)) (by decide +kernel)) (iv_c _ (a := (-8)) (b := (-8)) (by decide +kernel)) (by decide +kernel)) (iv_c _ (a := (-8)) (b := (-8)) (by decide +kernel)) (by decide +kernel)) (by decide +kernel)) c171
                  have nl24 := sg_nb1_le x1 24
                  have nl16 := sg_nb1_le x1 16
                  have nl8 := sg_nb1_le x1 8
                  have nl0 := sg_nb1_le x1 0
                  have hnb : sg_nb x1 = sg_nb1 x1 24 + sg_nb1 x1 16 + sg_nb1 x1 8 + sg_nb1 x1 0 := rfl
                  have hx28 : f173.toInt = ((sgL2 P) + 1) := sgC240_eq (l := ((sgL2 P) + 1)) pf173 (by omega) (by omega)
                  have hy28 : iv 0 239 f173 := ⟨by omega, by omega⟩
                  refine lv_iload_n X.1 X.2.1 dX12_put_28 rfl (lv_at hl 2 rfl) ?_
                  refine lv_iload_n X.1 X.2.1 dX12_put_29 rfl (lv_at hl 0 rfl) ?_
                  refine lv_ishr X.1 X.2.1 dX12_put_30 ?_
                  refine lv_topi (fun f174 ef174 => ?_)
                  obtain ⟨f175, ef175⟩ : ∃ y : Int32, y = (f174 : Int32).toInt8.toInt32 := ⟨_, rfl⟩
                  refine lv_i2b (v := f175) X.1 X.2.1 dX12_put_31 ef175.symm ?_
                  refine as_45q X hK hG hS hq172 (iv_vpin hy28 (by decide +kernel)) dX12_put_32 (fun H locs hG hS => ?_)
                  rw [sgC240_ix (l := ((sgL2 P) + 1)) pf173 (by omega) (by omega), sgB2_of ef174 ef175 (sg_kc (0) (iv_add (a' := 0) (b' := 0) ey167 (iv_add (a' := 8) (b' := 8) ey156 (iv_add (a' := 16) (b' := 16) ey104 (iv_c 24 (a := 24) (b := 24) (by decide +kernel)) (iv_c _ (a := (-8)) (b := (-8)) (by decide +kernel)) (by decide +kernel)) (iv_c _ (a := (-8)) (b := (-8)) (by decide +kernel)) (by decide +kernel)) (iv_c _ (a := (-8)) (b := (-8)) (by decide +kernel)) (by decide +kernel)) (by decide +kernel))] at hG
                  refine lv_aload_n X.1 X.2.1 dX12_put_33 rfl (lv_at hl 1 rfl) ?_
                  refine lv_dup X.1 X.2.1 dX12_put_34 rfl ?_
                  refine gf_X12_6 X hK hG h0 wl_6_184 dX12_put_35 (fun f176 hf176 pf176 kf176 => ?_)
                  refine lv_iconst (v := 1) X.1 X.2.1 dX12_put_38 (by decide +kernel) ?_
                  refine lv_iadd X.1 X.2.1 dX12_put_39 ?_
                  refine lv_topi (fun f177 ef177 => ?_)
                  have nb24 := sg_nbp ef2 ef3 (sg_kc (24) (iv_c 24 (a := 24) (b := 24) (by decide +kernel)) (by decide +kernel)) c4
                  have nb16 := sg_nbp ef106 ef107 (sg_kc (16) (iv_add (a' := 16) (b' := 16) ey104 (iv_c 24 (a := 24) (b := 24) (by decide +kernel)) (iv_c _ (a := (-8)) (b := (-8)) (by decide +kernel)) (by decide +kernel)) (by decide +kernel)) c108
                  have nb8 := sg_nbq ef158 ef159 (sg_kc (8) (iv_add (a' := 8) (b' := 8) ey156 (iv_add (a' := 16) (b' := 16) ey104 (iv_c 24 (a := 24) (b := 24) (by decide +kernel)) (iv_c _ (a := (-8)) (b := (-8)) (by decide +kernel)) (by decide +kernel)) (iv_c _ (a := (-8)) (b := (-8)) (by decide +kernel)) (by decide +kernel)) (by decide +kernel)) c160
                  have nb0 := sg_nbq ef169 ef170 (sg_kc (0) (iv_add (a' := 0) (b' := 0) ey167 (iv_add (a' := 8) (b' := 8) ey156 (iv_add (a' := 16) (b' := 16) ey104 (iv_c 24 (a := 24) (b := 24) (by decide +kernel)) (iv_c _ (a := (-8)) (b := (-8)) (by decide +kernel)) (by decide +kernel)) (iv_c _ (a := (-8)) (b := (-8)) (by decide +kernel)) (by decide +kernel)) (iv_c _ (a := (-8)) (b := (-8)) (by decide +kernel)) (by decide +kernel)) (by decide +kernel)) c171
                  have nl24 := sg_nb1_le x1 24
                  have nl16 := sg_nb1_le x1 16
                  have nl8 := sg_nb1_le x1 8
                  have nl0 := sg_nb1_le x1 0
                  have hnb : sg_nb x1 = sg_nb1 x1 24 + sg_nb1 x1 16 + sg_nb1 x1 8 + sg_nb1 x1 0 := rfl
                  have hx40 : f176.toInt = ((sgL2 P) + 1) := sgC240_eq (l := ((sgL2 P) + 1)) pf176 (by omega) (by omega)
                  have hz40 : f177.toInt = ((sgL2 P) + 1) + 1 := by rw [sg_inc (k := 1) ef177 hf176 (by decide +kernel), hx40]
                  have hy40 : iv 1 240 f177 := ⟨by omega, by omega⟩
                  refine pf_X12_6q X hK hG hS h0 wl_6_184 (iv_of hy40 (a' := 0) (b' := 240) (by decide +kernel)) dX12_put_40 (fun H locs hG hS => ?_)
                  have hl43 : f177.toInt = ((sgL2 P) + 1) + 1 := by rw [sg_inc (k := 1) ef177 hf176 (by decide +kernel), sgC240_eq (l := ((sgL2 P) + 1)) pf176 (by omega) (by omega)]
                  rw [hl43] at hG
                  obtain ⟨y178, ey178⟩ : ∃ y : Int32, y = y167 + Int32.ofInt (-8) := ⟨_, rfl⟩
                  refine lv_iinc (v := y178) (lv' := [(2, .int y178), (0, .ref a0), (1, .int x1)]) X.1 X.2.1 dX12_put_43 hl (k := 0) rfl ey178.symm (by decide) rfl (fun ls hl => ?_)
                  refine lv_goto (tgt := 3) X.1 X.2.1 dX12_put_46 (by decide) ?_
                  refine lv_iload_n X.1 X.2.1 dX12_put_3 rfl (lv_at hl 0 rfl) ?_
                  refine lv_if_lt (tgt := 49) X.1 X.2.1 dX12_put_4 (by decide) (fun c179 => ?_) (fun c179 => ?_)
                  · have hap : sgAp2 x1 (sgT2 P, sgL2 P) = ((sgUp (sgUp (sgT2 P) ((sgL2 P)).toNat (sgB2 x1 8)) (((sgL2 P) + 1)).toNat (sgB2 x1 0)), (((sgL2 P) + 1) + 1)) := by unfold sgAp2; rw [sgA2_0 ef2 ef3 (sg_kc (24) (iv_c 24 (a := 24) (b := 24) (by decide +kernel)) (by decide +kernel)) c4, sgA2_0 ef106 ef107 (sg_kc (16) (iv_add (a' := 16) (b' := 16) ey104 (iv_c 24 (a := 24) (b := 24) (by decide +kernel)) (iv_c _ (a := (-8)) (b := (-8)) (by decide +kernel)) (by decide +kernel)) (by decide +kernel)) c108, sgA2_1 ef158 ef159 (sg_kc (8) (iv_add (a' := 8) (b' := 8) ey156 (iv_add (a' := 16) (b' := 16) ey104 (iv_c 24 (a := 24) (b := 24) (by decide +kernel)) (iv_c _ (a := (-8)) (b := (-8)) (by decide +kernel)) (by decide +kernel)) (iv_c _ (a := (-8)) (b := (-8)) (by decide +kernel)) (by decide +kernel)) (by decide +kernel)) c160, sgA2_1 ef169 ef170 (sg_kc (0) (iv_add (a' := 0) (b' := 0) ey167 (iv_add (a' := 8) (b' := 8) ey156 (iv_add (a' := 16) (b' := 16) ey104 (iv_c 24 (a := 24) (b := 24) (by decide +kernel)) (iv_c _ (a := (-8)) (b := (-8)) (by decide +kernel)) (by decide +kernel)) (iv_c _ (a := (-8)) (b := (-8)) (by decide +kernel)) (by decide +kernel)) (iv_c _ (a := (-8)) (b := (-8)) (by decide +kernel)) (by decide +kernel)) (by decide +kernel)) c171]
                    exact sg_vret2 X hr hlk hS (fun t ht hW => (by rw [hap]; exact sg_post hb hK hC hG hS ht hW)) dX12_put_49
                  · exact ((iv_no (iv_le (b' := (-8)) (iv_ge_of c179) (iv_c 0 (a := 0) (b := 0) (by decide +kernel)) (iv_add (a' := (-8)) (b' := (-8)) ey178 (iv_add (a' := 0) (b' := 0) ey167 (iv_add (a' := 8) (b' := 8) ey156 (iv_add (a' := 16) (b' := 16) ey104 (iv_c 24 (a := 24) (b := 24) (by decide +kernel)) (iv_c _ (a := (-8)) (b := (-8)) (by decide +kernel)) (by decide +kernel)) (iv_c _ (a := (-8)) (b := (-8)) (by decide +kernel)) (by decide +kernel)) (iv_c _ (a := (-8)) (b := (-8)) (by decide +kernel)) (by decide +kernel)) (iv_c _ (a := (-8)) (b := (-8)) (by decide +kernel)) (by decide +kernel)) (by decide +kernel)) (by decide +kernel))).elim
                · refine lv_goto (tgt := 43) X.1 X.2.1 dX12_put_17 (by decide) ?_
                  obtain ⟨y180, ey180⟩ : ∃ y : Int32, y = y167 + Int32.ofInt (-8) := ⟨_, rfl⟩
                  refine lv_iinc (v := y180) (lv' := [(2, .int y180), (0, .ref a0), (1, .int x1)]) X.1 X.2.1 dX12_put_43 hl (k := 0) rfl ey180.symm (by decide) rfl (fun ls hl => ?_)
                  refine lv_goto (tgt := 3) X.1 X.2.1 dX12_put_46 (by decide) ?_
                  refine lv_iload_n X.1 X.2.1 dX12_put_3 rfl (lv_at hl 0 rfl) ?_
                  refine lv_if_lt (tgt := 49) X.1 X.2.1 dX12_put_4 (by decide) (fun c181 => ?_) (fun c181 => ?_)
                  · have hap : sgAp2 x1 (sgT2 P, sgL2 P) = ((sgUp (sgT2 P) ((sgL2 P)).toNat (sgB2 x1 8)), ((sgL2 P) + 1)) := by unfold sgAp2; rw [sgA2_0 ef2 ef3 (sg_kc (24) (iv_c 24 (a := 24) (b := 24) (by decide +kernel)) (by decide +kernel)) c4, sgA2_0 ef106 ef107 (sg_kc (16) (iv_add (a' := 16) (b' := 16) ey104 (iv_c 24 (a := 24) (b := 24) (by decide +kernel)) (iv_c _ (a := (-8)) (b := (-8)) (by decide +kernel)) (by decide +kernel)) (by decide +kernel)) c108, sgA2_1 ef158 ef159 (sg_kc (8) (iv_add (a' := 8) (b' := 8) ey156 (iv_add (a' := 16) (b' := 16) ey104 (iv_c 24 (a := 24) (b := 24) (by decide +kernel)) (iv_c _ (a := (-8)) (b := (-8)) (by decide +kernel)) (by decide +kernel)) (iv_c _ (a := (-8)) (b := (-8)) (by decide +kernel)) (by decide +kernel)) (by decide +kernel)) c160, sgA2_0 ef169 ef170 (sg_kc (0) (iv_add (a' := 0) (b' := 0) ey167 (iv_add (a' := 8) (b' := 8) ey156 (iv_add (a' := 16) (b' := 16) ey104 (iv_c 24 (a := 24) (b := 24) (by decide +kernel)) (iv_c _ (a := (-8)) (b := (-8)) (by decide +kernel)) (by decide +kernel)) (iv_c _ (a := (-8)) (b := (-8)) (by decide +kernel)) (by decide +kernel)) (iv_c _ (a := (-8)) (b := (-8)) (by decide +kernel)) (by decide +kernel)) (by decide +kernel)) c171]
                    exact sg_vret2 X hr hlk hS (fun t ht hW => (by rw [hap]; exact sg_post hb hK hC hG hS ht hW)) dX12_put_49
                  · exact ((iv_no (iv_le (b' := (-8)) (iv_ge_of c181) (iv_c 0 (a := 0) (b := 0) (by decide +kernel)) (iv_add (a' := (-8)) (b' := (-8)) ey180 (iv_add (a' := 0) (b' := 0) ey167 (iv_add (a' := 8) (b' := 8) ey156 (iv_add (a' := 16) (b' := 16) ey104 (iv_c 24 (a := 24) (b := 24) (by decide +kernel)) (iv_c _ (a := (-8)) (b := (-8)) (by decide +kernel)) (by decide +kernel)) (iv_c _ (a := (-8)) (b := (-8)) (by decide +kernel)) (by decide +kernel)) (iv_c _ (a := (-8)) (b := (-8)) (by decide +kernel)) (by decide +kernel)) (iv_c _ (a := (-8)) (b := (-8)) (by decide +kernel)) (by decide +kernel)) (by decide +kernel)) (by decide +kernel))).elim
            · refine lv_goto (tgt := 43) X.1 X.2.1 dX12_put_17 (by decide) ?_
              obtain ⟨y182, ey182⟩ : ∃ y : Int32, y = y156 + Int32.ofInt (-8) := ⟨_, rfl⟩
              refine lv_iinc (v := y182) (lv' := [(2, .int y182), (0, .ref a0), (1, .int x1)]) X.1 X.2.1 dX12_put_43 hl (k := 0) rfl ey182.symm (by decide) rfl (fun ls hl => ?_)
              refine lv_goto (tgt := 3) X.1 X.2.1 dX12_put_46 (by decide) ?_
              refine lv_iload_n X.1 X.2.1 dX12_put_3 rfl (lv_at hl 0 rfl) ?_
              refine lv_if_lt (tgt := 49) X.1 X.2.1 dX12_put_4 (by decide) (fun c183 => ?_) (fun c183 => ?_)
              · exact ((iv_no (iv_lt (b' := (-1)) c183 (iv_add (a' := 0) (b' := 0) ey182 (iv_add (a' := 8) (b' := 8) ey156 (iv_add (a' := 16) (b' := 16) ey104 (iv_c 24 (a := 24) (b := 24) (by decide +kernel)) (iv_c _ (a := (-8)) (b := (-8)) (by decide +kernel)) (by decide +kernel)) (iv_c _ (a := (-8)) (b := (-8)) (by decide +kernel)) (by decide +kernel)) (iv_c _ (a := (-8)) (b := (-8)) (by decide +kernel)) (by decide +kernel)) (iv_c 0 (a := 0) (b := 0) (by decide +kernel)) (by decide +kernel)) (by decide +kernel))).elim
              · refine lv_iload_n X.1 X.2.1 dX12_put_7 rfl (lv_at hl 2 rfl) ?_
                refine lv_iload_n X.1 X.2.1 dX12_put_8 rfl (lv_at hl 0 rfl) ?_
                refine lv_ishr X.1 X.2.1 dX12_put_9 ?_
                refine lv_topi (fun f184 ef184 => ?_)
                refine lv_sipush (v := 255) X.1 X.2.1 dX12_put_10 (by decide +kernel) ?_
                refine lv_iand X.1 X.2.1 dX12_put_13 ?_
                refine lv_topi (fun f185 ef185 => ?_)
                refine lv_if_ne (tgt := 20) X.1 X.2.1 dX12_put_14 (by decide) (fun c186 => ?_) (fun c186 => ?_)
                · refine lv_aload_n X.1 X.2.1 dX12_put_20 rfl (lv_at hl 1 rfl) ?_
                  refine gf_X12_1 X hK hG h0 wl_6_179 dX12_put_21 (fun q187 hq187 kq187 => ?_)
                  refine lv_aload_n X.1 X.2.1 dX12_put_24 rfl (lv_at hl 1 rfl) ?_
                  refine gf_X12_6 X hK hG h0 wl_6_184 dX12_put_25 (fun f188 hf188 pf188 kf188 => ?_)
                  have hG := sg_st hG
                  have nb24 := sg_nbp ef2 ef3 (sg_kc (24) (iv_c 24 (a := 24) (b := 24) (by decide +kernel)) (by decide +kernel)) c4
                  have nb16 := sg_nbp ef106 ef107 (sg_kc (16) (iv_add (a' := 16) (b' := 16) ey104 (iv_c 24 (a := 24) (b := 24) (by decide +kernel)) (iv_c _ (a := (-8)) (b := (-8)) (by decide +kernel)) (by decide +kernel)) (by decide +kernel)) c108
                  have nb8 := sg_nbp ef158 ef159 (sg_kc (8) (iv_add (a' := 8) (b' := 8) ey156 (iv_add (a' := 16) (b' := 16) ey104 (iv_c 24 (a := 24) (b := 24) (by decide +kernel)) (iv_c _ (a := (-8)) (b := (-8)) (by decide +kernel)) (by decide +kernel)) (iv_c _ (a := (-8)) (b := (-8)) (by decide +kernel)) (by decide +kernel)) (by decide +kernel)) c160
                  have nb0 := sg_nbq ef184 ef185 (sg_kc (0) (iv_add (a' := 0) (b' := 0) ey182 (iv_add (a' := 8) (b' := 8) ey156 (iv_add (a' := 16) (b' := 16) ey104 (iv_c 24 (a := 24) (b := 24) (by decide +kernel)) (iv_c _ (a := (-8)) (b := (-8)) (by decide +kernel)) (by decide +kernel)) (iv_c _ (a := (-8)) (b := (-8)) (by decide +kernel)) (by decide +kernel)) (iv_c _ (a := (-8)) (b := (-8)) (by decide +kernel)) (by decide +kernel)) (by decide +kernel)) c186
                  have nl24 := sg_nb1_le x1 24
                  have nl16 := sg_nb1_le x1 16
                  have nl8 := sg_nb1_le x1 8
                  have nl0 := sg_nb1_le x1 0
                  have hnb : sg_nb x1 = sg_nb1 x1 24 + sg_nb1 x1 16 + sg_nb1 x1 8 + sg_nb1 x1 0 := rfl
                  have hx28 : f188.toInt = (sgL2 P) := sgC240_eq (l := (sgL2 P)) pf188 (by omega) (by omega)
                  have hy28 : iv 0 239 f188 := ⟨by omega, by omega⟩
                  refine lv_iload_n X.1 X.2.1 dX12_put_28 rfl (lv_at hl 2 rfl) ?_
                  refine lv_iload_n X.1 X.2.1 dX12_put_29 rfl (lv_at hl 0 rfl) ?_
                  refine lv_ishr X.1 X.2.1 dX12_put_30 ?_
                  refine lv_topi (fun f189 ef189 => ?_)
                  obtain ⟨f190, ef190⟩ : ∃ y : Int32, y = (f189 : Int32).toInt8.toInt32 := ⟨_, rfl⟩
                  refine lv_i2b (v := f190) X.1 X.2.1 dX12_put_31 ef190.symm ?_
                  refine as_45q X hK hG hS hq187 (iv_vpin hy28 (by decide +kernel)) dX12_put_32 (fun H locs hG hS => ?_)
                  rw [sgC240_ix (l := (sgL2 P)) pf188 (by omega) (by omega), sgB2_of ef189 ef190 (sg_kc (0) (iv_add (a' := 0) (b' := 0) ey182 (iv_add (a' := 8) (b' := 8) ey156 (iv_add (a' := 16) (b' := 16) ey104 (iv_c 24 (a := 24) (b := 24) (by decide +kernel)) (iv_c _ (a := (-8)) (b := (-8)) (by decide +kernel)) (by decide +kernel)) (iv_c _ (a := (-8)) (b := (-8)) (by decide +kernel)) (by decide +kernel)) (iv_c _ (a := (-8)) (b := (-8)) (by decide +kernel)) (by decide +kernel)) (by decide +kernel))] at hG
                  refine lv_aload_n X.1 X.2.1 dX12_put_33 rfl (lv_at hl 1 rfl) ?_
                  refine lv_dup X.1 X.2.1 dX12_put_34 rfl ?_
                  refine gf_X12_6 X hK hG h0 wl_6_184 dX12_put_35 (fun f191 hf191 pf191 kf191 => ?_)
                  refine lv_iconst (v := 1) X.1 X.2.1 dX12_put_38 (by decide +kernel) ?_
                  refine lv_iadd X.1 X.2.1 dX12_put_39 ?_
                  refine lv_topi (fun f192 ef192 => ?_)
                  have nb24 := sg_nbp ef2 ef3 (sg_kc (24) (iv_c 24 (a := 24) (b := 24) (by decide +kernel)) (by decide +kernel)) c4
                  have nb16 := sg_nbp ef106 ef107 (sg_kc (16) (iv_add (a' := 16) (b' := 16) ey104 (iv_c 24 (a := 24) (b := 24) (by decide +kernel)) (iv_c _ (a := (-8)) (b := (-8)) (by decide +kernel)) (by decide +kernel)) (by decide +kernel)) c108
                  have nb8 := sg_nbp ef158 ef159 (sg_kc (8) (iv_add (a' := 8) (b' := 8) ey156 (iv_add (a' := 16) (b' := 16) ey104 (iv_c 24 (a := 24) (b := 24) (by decide +kernel)) (iv_c _ (a := (-8)) (b := (-8)) (by decide +kernel)) (by decide +kernel)) (iv_c _ (a := (-8)) (b := (-8)) (by decide +kernel)) (by decide +kernel)) (by decide +kernel)) c160
                  have nb0 := sg_nbq ef184 ef185 (sg_kc (0) (iv_add (a' := 0) (b' := 0) ey182 (iv_add (a' := 8) (b' := 8) ey156 (iv_add (a' := 16) (b' := 16) ey104 (iv_c 24 (a := 24) (b := 24) (by decide +kernel)) (iv_c _ (a := (-8)) (b := (-8)) (by decide +kernel)) (by decide +kernel)) (iv_c _ (a := (-8)) (b := (-8)) (by decide +kernel)) (by decide +kernel)) (iv_c _ (a := (-8)) (b := (-8)) (by decide +kernel)) (by decide +kernel)) (by decide +kernel)) c186
                  have nl24 := sg_nb1_le x1 24
                  have nl16 := sg_nb1_le x1 16
                  have nl8 := sg_nb1_le x1 8
                  have nl0 := sg_nb1_le x1 0
                  have hnb : sg_nb x1 = sg_nb1 x1 24 + sg_nb1 x1 16 + sg_nb1 x1 8 + sg_nb1 x1 0 := rfl
                  have hx40 : f191.toInt = (sgL2 P) := sgC240_eq (l := (sgL2 P)) pf191 (by omega) (by omega)
                  have hz40 : f192.toInt = (sgL2 P) + 1 := by rw [sg_inc (k := 1) ef192 hf191 (by decide +kernel), hx40]
                  have hy40 : iv 1 240 f192 := ⟨by omega, by omega⟩
                  refine pf_X12_6q X hK hG hS h0 wl_6_184 (iv_of hy40 (a' := 0) (b' := 240) (by decide +kernel)) dX12_put_40 (fun H locs hG hS => ?_)
                  have hl43 : f192.toInt = (sgL2 P) + 1 := by rw [sg_inc (k := 1) ef192 hf191 (by decide +kernel), sgC240_eq (l := (sgL2 P)) pf191 (by omega) (by omega)]
                  rw [hl43] at hG
                  obtain ⟨y193, ey193⟩ : ∃ y : Int32, y = y182 + Int32.ofInt (-8) := ⟨_, rfl⟩
                  refine lv_iinc (v := y193) (lv' := [(2, .int y193), (0, .ref a0), (1, .int x1)]) X.1 X.2.1 dX12_put_43 hl (k := 0) rfl ey193.symm (by decide) rfl (fun ls hl => ?_)
                  refine lv_goto (tgt := 3) X.1 X.2.1 dX12_put_46 (by decide) ?_
                  refine lv_iload_n X.1 X.2.1 dX12_put_3 rfl (lv_at hl 0 rfl) ?_
                  refine lv_if_lt (tgt := 49) X.1 X.2.1 dX12_put_4 (by decide) (fun c194 => ?_) (fun c194 => ?_)
                  · have hap : sgAp2 x1 (sgT2 P, sgL2 P) = ((sgUp (sgT2 P) ((sgL2 P)).toNat (sgB2 x1 0)), ((sgL2 P) + 1)) := by unfold sgAp2; rw [sgA2_0 ef2 ef3 (sg_kc (24) (iv_c 24 (a := 24) (b := 24) (by decide +kernel)) (by decide +kernel)) c4, sgA2_0 ef106 ef107 (sg_kc (16) (iv_add (a' := 16) (b' := 16) ey104 (iv_c 24 (a := 24) (b := 24) (by decide +kernel)) (iv_c _ (a := (-8)) (b := (-8)) (by decide +kernel)) (by decide +kernel)) (by decide +kernel)) c108, sgA2_0 ef158 ef159 (sg_kc (8) (iv_add (a' := 8) (b' := 8) ey156 (iv_add (a' := 16) (b' := 16) ey104 (iv_c 24 (a := 24) (b := 24) (by decide +kernel)) (iv_c _ (a := (-8)) (b := (-8)) (by decide +kernel)) (by decide +kernel)) (iv_c _ (a := (-8)) (b := (-8)) (by decide +kernel)) (by decide +kernel)) (by decide +kernel)) c160, sgA2_1 ef184 ef185 (sg_kc (0) (iv_add (a' := 0) (b' := 0) ey182 (iv_add (a' := 8) (b' := 8) ey156 (iv_add (a' := 16) (b' := 16) ey104 (iv_c 24 (a := 24) (b := 24) (by decide +kernel)) (iv_c _ (a := (-8)) (b := (-8)) (by decide +kernel)) (by decide +kernel)) (iv_c _ (a := (-8)) (b := (-8)) (by decide +kernel)) (by decide +kernel)) (iv_c _ (a := (-8)) (b := (-8)) (by decide +kernel)) (by decide +kernel)) (by decide +kernel)) c186]
                    exact sg_vret2 X hr hlk hS (fun t ht hW => (by rw [hap]; exact sg_post hb hK hC hG hS ht hW)) dX12_put_49
                  · exact ((iv_no (iv_le (b' := (-8)) (iv_ge_of c194) (iv_c 0 (a := 0) (b := 0) (by decide +kernel)) (iv_add (a' := (-8)) (b' := (-8)) ey193 (iv_add (a' := 0) (b' := 0) ey182 (iv_add (a' := 8) (b' := 8) ey156 (iv_add (a' := 16) (b' := 16) ey104 (iv_c 24 (a := 24) (b := 24) (by decide +kernel)) (iv_c _ (a := (-8)) (b := (-8)) (by decide +kernel)) (by decide +kernel)) (iv_c _ (a := (-8)) (b := (-8)) (by decide +kernel)) (by decide +kernel)) (iv_c _ (a := (-8)) (b := (-8)) (by decide +kernel)) (by decide +kernel)) (iv_c _ (a := (-8)) (b := (-8)) (by decide +kernel)) (by decide +kernel)) (by decide +kernel)) (by decide +kernel))).elim
                · refine lv_goto (tgt := 43) X.1 X.2.1 dX12_put_17 (by decide) ?_
                  obtain ⟨y195, ey195⟩ : ∃ y : Int32, y = y182 + Int32.ofInt (-8) := ⟨_, rfl⟩
                  refine lv_iinc (v := y195) (lv' := [(2, .int y195), (0, .ref a0), (1, .int x1)]) X.1 X.2.1 dX12_put_43 hl (k := 0) rfl ey195.symm (by decide) rfl (fun ls hl => ?_)
                  refine lv_goto (tgt := 3) X.1 X.2.1 dX12_put_46 (by decide) ?_
                  refine lv_iload_n X.1 X.2.1 dX12_put_3 rfl (lv_at hl 0 rfl) ?_
                  refine lv_if_lt (tgt := 49) X.1 X.2.1 dX12_put_4 (by decide) (fun c196 => ?_) (fun c196 => ?_)
                  · have hG := sg_st hG
                    have hap : sgAp2 x1 (sgT2 P, sgL2 P) = ((sgT2 P), (sgL2 P)) := by unfold sgAp2; rw [sgA2_0 ef2 ef3 (sg_kc (24) (iv_c 24 (a := 24) (b := 24) (by decide +kernel)) (by decide +kernel)) c4, sgA2_0 ef106 ef107 (sg_kc (16) (iv_add (a' := 16) (b' := 16) ey104 (iv_c 24 (a := 24) (b := 24) (by decide +kernel)) (iv_c _ (a := (-8)) (b := (-8)) (by decide +kernel)) (by decide +kernel)) (by decide +kernel)) c108, sgA2_0 ef158 ef159 (sg_kc (8) (iv_add (a' := 8) (b' := 8) ey156 (iv_add (a' := 16) (b' := 16) ey104 (iv_c 24 (a := 24) (b := 24) (by decide +kernel)) (iv_c _ (a := (-8)) (b := (-8)) (by decide +kernel)) (by decide +kernel)) (iv_c _ (a := (-8)) (b := (-8)) (by decide +kernel)) (by decide +kernel)) (by decide +kernel)) c160, sgA2_0 ef184 ef185 (sg_kc (0) (iv_add (a' := 0) (b' := 0) ey182 (iv_add (a' := 8) (b' := 8) ey156 (iv_add (a' := 16) (b' := 16) ey104 (iv_c 24 (a := 24) (b := 24) (by decide +kernel)) (iv_c _ (a := (-8)) (b := (-8)) (by decide +kernel)) (by decide +kernel)) (iv_c _ (a := (-8)) (b := (-8)) (by decide +kernel)) (by decide +kernel)) (iv_c _ (a := (-8)) (b := (-8)) (by decide +kernel)) (by decide +kernel)) (by decide +kernel)) c186]
                    exact sg_vret2 X hr hlk hS (fun t ht hW => (by rw [hap]; exact sg_post hb hK hC hG hS ht hW)) dX12_put_49
                  · exact ((iv_no (iv_le (b' := (-8)) (iv_ge_of c196) (iv_c 0 (a := 0) (b := 0) (by decide +kernel)) (iv_add (a' := (-8)) (b' := (-8)) ey195 (iv_add (a' := 0) (b' := 0) ey182 (iv_add (a' := 8) (b' := 8) ey156 (iv_add (a' := 16) (b' := 16) ey104 (iv_c 24 (a := 24) (b := 24) (by decide +kernel)) (iv_c _ (a := (-8)) (b := (-8)) (by decide +kernel)) (by decide +kernel)) (iv_c _ (a := (-8)) (b := (-8)) (by decide +kernel)) (by decide +kernel)) (iv_c _ (a := (-8)) (b := (-8)) (by decide +kernel)) (by decide +kernel)) (iv_c _ (a := (-8)) (b := (-8)) (by decide +kernel)) (by decide +kernel)) (by decide +kernel)) (by decide +kernel))).elim

theorem ca_X12_put_q   (X : CallFix p m c cc nL s args sg_tbl own) (hK : va_K D vwCl tys s) (hG : sgG (KT P) D vwCl (fun q : Nat => base ≤ q) tys ad ks H) (hC : sgC base s) (hS : va_S (fun q : Nat => base ≤ q) s.heap H locs) (hb : base ≤ s.heap.size) (a0 : Nat) (h0 : isK ad ks 12 a0) (x1 : Int32) (hl0 : 0 ≤ sgL2 P ∧ sgL2 P + sg_nb x1 ≤ 240) (hl : Cond.methodLink own index yX12_put ∈ sg_tbl) (hsize : ls.size = nL) (hst : st0 = [.int x1].reverse ++ .ref a0 :: rest) (hW : (rest.map fun v => v.category).sum ≤ 8) (hR : 1 ≤ R.frames ∧ 22 ≤ R.locals) (hf : cells ≤ R.cells ∧ slots ≤ R.slots) (hdg : decode cc pc = .ok (.invokevirtual index, 3)) (kk : ∀ (t : State) (H1 : Heap) (locs1 : List Loc), t.heap = H1 → ((fun t => sgB (KT (sgSt P (sgT1 P) (sgL1 P) (sgAp2 x1 (sgT2 P, sgL2 P)).1 (sgAp2 x1 (sgT2 P, sgL2 P)).2)) D vwCl base tys ad ks t) t) → va_S (fun q : Nat => base ≤ q) s.heap H1 locs1 → W p l e R s m args below meth c H1 locs1 cells slots Q (F0 m (pc + 3) ls rest)) : W p l e R s m args below meth c H locs cells slots Q (F0 m pc ls st0) :=
  sg_callV2v X hK hG hC hS hb (m_X12_put_q l a0 h0 x1 hl0) h0 (k := 12) (ci := 12) rfl (C := RX12) (T := TX12) (N := 53) rfl wl_7_109 wl_1_13 wl_7_108 wl_0_48 (n := 1) (by decide +kernel) rfl rfl rfl hl hsize hst hW hR hf hdg kk

set_option maxHeartbeats 8000000 in
set_option maxRecDepth 100000 in
theorem m_X11_feed_q (l : Launch) {D : va_G} {base : Nat} {tys : List (ClassId × FieldType)} {ad ks : List Nat} {P : sgPm} (a0 : Nat) (h0 : isK ad ks 11 a0) (x1 : Int32) (x2 : Int32) (x3 : Int32) (x4 : Int32) (x5 : Int32) (hl0 : 0 ≤ sgL1 P ∧ sgL1 P ≤ 240) : Met l yX11_feed (Cond.code yX11_feed cX11_feed 7 (some .int) :: sg_tbl) ({ frames := 1, cells := 0, slots := 0, locals := 23 }) (va_Pc [.ref a0, .int x1, .int x2, .int x3, .int x4, .int x5] (sgB (KT P) D vwCl base tys ad ks)) (va_Qi (fun r (u : Int32) => u = r ∧ (fun r : Int32 => True) r) (fun u t => (u = -1 ∧ 240 < sgL1 P + sgN5 x1 x2 x3 x4 x5 ∧ sgB (KT P) D vwCl base tys ad ks t) ∨ (sgL1 P + sgN5 x1 x2 x3 x4 x5 ≤ 240 ∧ u.toInt = sgL1 P + sgN5 x1 x2 x3 x4 x5 ∧ sgB (KT (sgSt P (sgFd x1 x2 x3 x4 x5 (sgT1 P, sgL1 P)).1 (sgFd x1 x2 x3 x4 x5 (sgT1 P, sgL1 P)).2 (sgT2 P) (sgL2 P))) D vwCl base tys ad ks t)) (fun q : Nat => base ≤ q)) 0 0 (fun q : Nat => base ≤ q) := by
  refine sg_ofW (by decide +kernel) (Nat.le_of_ble_eq_true rfl) (fun p e s m below meth c X hr hlk hb hK hC hG ls hl => ?_)
  have hS : va_S (fun q : Nat => base ≤ q) s.heap s.heap [] := va_S.rf
  have hl : lv_has ls 7 [(0, .ref a0), (1, .int x1), (2, .int x2), (3, .int x3), (4, .int x4), (5, .int x5)] := hl
  refine lv_iload_n X.1 X.2.1 dX11_feed_0 rfl (lv_at hl 1 rfl) ?_
  refine ca_X10_fullBytes_b X hK hG hC (fun _ h => h) hS hb x1 wl_3_11 hl.1 (rest := []) rfl (Nat.le_of_ble_eq_true rfl) ⟨Nat.le_of_ble_eq_true rfl, Nat.le_of_ble_eq_true rfl⟩ ⟨Nat.le_of_ble_eq_true rfl, Nat.le_of_ble_eq_true rfl⟩ dX11_feed_1 (fun f1 locs hf1 hS => ?_)
  refine lv_iload_n X.1 X.2.1 dX11_feed_4 rfl (lv_at hl 2 rfl) ?_
  refine ca_X10_fullBytes_b X hK hG hC (fun _ h => h) hS hb x2 wl_3_11 hl.1 (rest := [.int f1]) rfl (Nat.le_of_ble_eq_true rfl) ⟨Nat.le_of_ble_eq_true rfl, Nat.le_of_ble_eq_true rfl⟩ ⟨Nat.le_of_ble_eq_true rfl, Nat.le_of_ble_eq_true rfl⟩ dX11_feed_5 (fun f2 locs hf2 hS => ?_)
  refine lv_iadd X.1 X.2.1 dX11_feed_8 ?_
  refine lv_topi (fun f3 ef3 => ?_)
  refine lv_iload_n X.1 X.2.1 dX11_feed_9 rfl (lv_at hl 3 rfl) ?_
  refine ca_X10_fullBytes_b X hK hG hC (fun _ h => h) hS hb x3 wl_3_11 hl.1 (rest := [.int f3]) rfl (Nat.le_of_ble_eq_true rfl) ⟨Nat.le_of_ble_eq_true rfl, Nat.le_of_ble_eq_true rfl⟩ ⟨Nat.le_of_ble_eq_true rfl, Nat.le_of_ble_eq_true rfl⟩ dX11_feed_10 (fun f4 locs hf4 hS => ?_)
  refine lv_iadd X.1 X.2.1 dX11_feed_13 ?_
  refine lv_topi (fun f5 ef5 => ?_)
  refine lv_iload X.1 X.2.1 dX11_feed_14 (lv_at hl 4 rfl) ?_
  refine ca_X10_fullBytes_b X hK hG hC (fun _ h => h) hS hb x4 wl_3_11 hl.1 (rest := [.int f5]) rfl (Nat.le_of_ble_eq_true rfl) ⟨Nat.le_of_ble_eq_true rfl, Nat.le_of_ble_eq_true rfl⟩ ⟨Nat.le_of_ble_eq_true rfl, Nat.le_of_ble_eq_true rfl⟩ dX11_feed_16 (fun f6 locs hf6 hS => ?_)
  refine lv_iadd X.1 X.2.1 dX11_feed_19 ?_
  refine lv_topi (fun f7 ef7 => ?_)
  refine lv_iload X.1 X.2.1 dX11_feed_20 (lv_at hl 5 rfl) ?_
  refine ca_X10_fullBytes_b X hK hG hC (fun _ h => h) hS hb x5 wl_3_11 hl.1 (rest := [.int f7]) rfl (Nat.le_of_ble_eq_true rfl) ⟨Nat.le_of_ble_eq_true rfl, Nat.le_of_ble_eq_true rfl⟩ ⟨Nat.le_of_ble_eq_true rfl, Nat.le_of_ble_eq_true rfl⟩ dX11_feed_22 (fun f8 locs hf8 hS => ?_)
  refine lv_iadd X.1 X.2.1 dX11_feed_25 ?_
  refine lv_topi (fun f9 ef9 => ?_)
  refine lv_istore (lv' := [(6, .int f9), (0, .ref a0), (1, .int x1), (2, .int x2), (3, .int x3), (4, .int x4), (5, .int x5)]) X.1 X.2.1 dX11_feed_26 hl (by decide) rfl (fun ls hl => ?_)
  refine lv_aload_n X.1 X.2.1 dX11_feed_28 rfl (lv_at hl 1 rfl) ?_
  refine gf_X11_0 X hK hG h0 wl_2_195 dX11_feed_29 (fun q10 hq10 kq10 => ?_)
  refine gf_X10_1 X hK hG hq10 wl_1_42 dX11_feed_32 (fun f11 hf11 pf11 kf11 => ?_)
  refine lv_iload X.1 X.2.1 dX11_feed_35 (lv_at hl 0 rfl) ?_
  refine lv_iadd X.1 X.2.1 dX11_feed_37 ?_
  refine lv_topi (fun f12 ef12 => ?_)
  have nn1 := sg_nb_le x1
  have nn2 := sg_nb_le x2
  have nn3 := sg_nb_le x3
  have nn4 := sg_nb_le x4
  have nn5 := sg_nb_le x5
  have hn5 : sgN5 x1 x2 x3 x4 x5 = sg_nb x1 + sg_nb x2 + sg_nb x3 + sg_nb x4 + sg_nb x5 := rfl
  have bq13 : 0 ≤ f11.toInt ∧ f11.toInt ≤ 240 := hf11
  have bq14 : 0 ≤ f1.toInt ∧ f1.toInt ≤ 4 := hf1.1
  have bq15 : 0 ≤ f2.toInt ∧ f2.toInt ≤ 4 := hf2.1
  have xf3 : f3.toInt = f1.toInt + f2.toInt := sg_exadd ef3 hf1.1 hf2.1 (by decide +kernel) rfl rfl
  have bq16 : 0 ≤ f4.toInt ∧ f4.toInt ≤ 4 := hf4.1
  have xf5 : f5.toInt = f3.toInt + f4.toInt := sg_exadd ef5 (iv_add (a' := 0) (b' := 8) ef3 hf1.1 hf2.1 (by decide +kernel)) hf4.1 (by decide +kernel) rfl rfl
  have bq17 : 0 ≤ f6.toInt ∧ f6.toInt ≤ 4 := hf6.1
  have xf7 : f7.toInt = f5.toInt + f6.toInt := sg_exadd ef7 (iv_add (a' := 0) (b' := 12) ef5 (iv_add (a' := 0) (b' := 8) ef3 hf1.1 hf2.1 (by decide +kernel)) hf4.1 (by decide +kernel)) hf6.1 (by decide +kernel) rfl rfl
  have bq18 : 0 ≤ f8.toInt ∧ f8.toInt ≤ 4 := hf8.1
  have xf9 : f9.toInt = f7.toInt + f8.toInt := sg_exadd ef9 (iv_add (a' := 0) (b' := 16) ef7 (iv_add (a' := 0) (b' := 12) ef5 (iv_add (a' := 0) (b' := 8) ef3 hf1.1 hf2.1 (by decide +kernel)) hf4.1 (by decide +kernel)) hf6.1 (by decide +kernel)) hf8.1 (by decide +kernel) rfl rfl
  have xf12 : f12.toInt = f11.toInt + f9.toInt := sg_exadd ef12 hf11 (iv_add (a' := 0) (b' := 20) ef9 (iv_add (a' := 0) (b' := 16) ef7 (iv_add (a' := 0) (b' := 12) ef5 (iv_add (a' := 0) (b' := 8) ef3 hf1.1 hf2.1 (by decide +kernel)) hf4.1 (by decide +kernel)) hf6.1 (by decide +kernel)) hf8.1 (by decide +kernel)) (by decide +kernel) rfl rfl
  have pnf11 : f11.toInt = sgL1 P := sgC240_eq pf11 (by omega) (by omega)
  have nbf1 := hf1.2
  have nbf2 := hf2.2
  have nbf4 := hf4.2
  have nbf6 := hf6.2
  have nbf8 := hf8.2
  refine lv_sipush (v := 240) X.1 X.2.1 dX11_feed_38 (by decide +kernel) ?_
  refine lv_icmp_le (tgt := 46) X.1 X.2.1 dX11_feed_41 (by decide) (fun c19 => ?_) (fun c19 => ?_)
  · have hrel := Int32.le_iff_toInt_le.mp c19
    have h240 : (240 : Int32).toInt = 240 := by decide +kernel
    refine lv_aload_n X.1 X.2.1 dX11_feed_46 rfl (lv_at hl 1 rfl) ?_
    refine gg_X11_0 X hK hG h0 wl_2_195 kq10 dX11_feed_47 ?_
    refine lv_iload_n X.1 X.2.1 dX11_feed_50 rfl (lv_at hl 2 rfl) ?_
    refine ca_X10_append_b X hK hG hC hS hb q10 hq10 x1 ⟨by omega, by omega⟩ wl_3_14 hl.1 (rest := []) rfl (Nat.le_of_ble_eq_true rfl) ⟨Nat.le_of_ble_eq_true rfl, Nat.le_of_ble_eq_true rfl⟩ ⟨Nat.le_of_ble_eq_true rfl, Nat.le_of_ble_eq_true rfl⟩ dX11_feed_51 (fun tg20 H locs htg20 hWg20 hS => ?_)
    have hG := hWg20.2.2.2
    rw [htg20] at hG
    have l21 : (sgAp x1 (sgT1 P, sgL1 P)).2 = (sgT1 P, sgL1 P).2 + sg_nb x1 := sgAp_len x1 (sgT1 P, sgL1 P)
    refine lv_aload_n X.1 X.2.1 dX11_feed_54 rfl (lv_at hl 1 rfl) ?_
    refine gf_X11_0 X hK hG h0 wl_2_195 dX11_feed_55 (fun q22 hq22 kq22 => ?_)
    refine lv_iload_n X.1 X.2.1 dX11_feed_58 rfl (lv_at hl 3 rfl) ?_
    refine ca_X10_append_b X hK hG hC hS hb q22 hq22 x2 (sg_apL1 (q := (sgAp x1 (sgT1 P, sgL1 P))) ⟨by omega, by omega⟩) wl_3_14 hl.1 (rest := []) rfl (Nat.le_of_ble_eq_true rfl) ⟨Nat.le_of_ble_eq_true rfl, Nat.le_of_ble_eq_true rfl⟩ ⟨Nat.le_of_ble_eq_true rfl, Nat.le_of_ble_eq_true rfl⟩ dX11_feed_59 (fun tg23 H locs htg23 hWg23 hS => ?_)
    have hG := hWg23.2.2.2
    rw [htg23] at hG
    have hG := sg_apSt1 (q := (sgAp x1 (sgT1 P, sgL1 P))) hG
    have l24 : (sgAp x2 (sgAp x1 (sgT1 P, sgL1 P))).2 = (sgAp x1 (sgT1 P, sgL1 P)).2 + sg_nb x2 := sgAp_len x2 (sgAp x1 (sgT1 P, sgL1 P))
    refine lv_aload_n X.1 X.2.1 dX11_feed_62 rfl (lv_at hl 1 rfl) ?_
    refine gf_X11_0 X hK hG h0 wl_2_195 dX11_feed_63 (fun q25 hq25 kq25 => ?_)
    refine lv_iload_n X.1 X.2.1 dX11_feed_66 rfl (lv_at hl 4 rfl) ?_
    refine ca_X10_append_b X hK hG hC hS hb q25 hq25 x3 (sg_apL1 (q := (sgAp x2 (sgAp x1 (sgT1 P, sgL1 P)))) ⟨by omega, by omega⟩) wl_3_14 hl.1 (rest := []) rfl (Nat.le_of_ble_eq_true rfl) ⟨Nat.le_of_ble_eq_true rfl, Nat.le_of_ble_eq_true rfl⟩ ⟨Nat.le_of_ble_eq_true rfl, Nat.le_of_ble_eq_true rfl⟩ dX11_feed_67 (fun tg26 H locs htg26 hWg26 hS => ?_)
    have hG := hWg26.2.2.2
    rw [htg26] at hG
    have hG := sg_apSt1 (q := (sgAp x2 (sgAp x1 (sgT1 P, sgL1 P)))) hG
    have l27 : (sgAp x3 (sgAp x2 (sgAp x1 (sgT1 P, sgL1 P)))).2 = (sgAp x2 (sgAp x1 (sgT1 P, sgL1 P))).2 + sg_nb x3 := sgAp_len x3 (sgAp x2 (sgAp x1 (sgT1 P, sgL1 P)))
    refine lv_aload_n X.1 X.2.1 dX11_feed_70 rfl (lv_at hl 1 rfl) ?_
    refine gf_X11_0 X hK hG h0 wl_2_195 dX11_feed_71 (fun q28 hq28 kq28 => ?_)
    refine lv_iload X.1 X.2.1 dX11_feed_74 (lv_at hl 5 rfl) ?_
    refine ca_X10_append_b X hK hG hC hS hb q28 hq28 x4 (sg_apL1 (q := (sgAp x3 (sgAp x2 (sgAp x1 (sgT1 P, sgL1 P))))) ⟨by omega, by omega⟩) wl_3_14 hl.1 (rest := []) rfl (Nat.le_of_ble_eq_true rfl) ⟨Nat.le_of_ble_eq_true rfl, Nat.le_of_ble_eq_true rfl⟩ ⟨Nat.le_of_ble_eq_true rfl, Nat.le_of_ble_eq_true rfl⟩ dX11_feed_76 (fun tg29 H locs htg29 hWg29 hS => ?_)
    have hG := hWg29.2.2.2
    rw [htg29] at hG
    have hG := sg_apSt1 (q := (sgAp x3 (sgAp x2 (sgAp x1 (sgT1 P, sgL1 P))))) hG
    have l30 : (sgAp x4 (sgAp x3 (sgAp x2 (sgAp x1 (sgT1 P, sgL1 P))))).2 = (sgAp x3 (sgAp x2 (sgAp x1 (sgT1 P, sgL1 P)))).2 + sg_nb x4 := sgAp_len x4 (sgAp x3 (sgAp x2 (sgAp x1 (sgT1 P, sgL1 P))))
    refine lv_aload_n X.1 X.2.1 dX11_feed_79 rfl (lv_at hl 1 rfl) ?_
    refine gf_X11_0 X hK hG h0 wl_2_195 dX11_feed_80 (fun q31 hq31 kq31 => ?_)
    refine lv_iload X.1 X.2.1 dX11_feed_83 (lv_at hl 6 rfl) ?_
    refine ca_X10_append_b X hK hG hC hS hb q31 hq31 x5 (sg_apL1 (q := (sgAp x4 (sgAp x3 (sgAp x2 (sgAp x1 (sgT1 P, sgL1 P)))))) ⟨by omega, by omega⟩) wl_3_14 hl.1 (rest := []) rfl (Nat.le_of_ble_eq_true rfl) ⟨Nat.le_of_ble_eq_true rfl, Nat.le_of_ble_eq_true rfl⟩ ⟨Nat.le_of_ble_eq_true rfl, Nat.le_of_ble_eq_true rfl⟩ dX11_feed_85 (fun tg32 H locs htg32 hWg32 hS => ?_)
    have hG := hWg32.2.2.2
    rw [htg32] at hG
    have hG := sg_apSt1 (q := (sgAp x4 (sgAp x3 (sgAp x2 (sgAp x1 (sgT1 P, sgL1 P)))))) hG
    have l33 : (sgAp x5 (sgAp x4 (sgAp x3 (sgAp x2 (sgAp x1 (sgT1 P, sgL1 P)))))).2 = (sgAp x4 (sgAp x3 (sgAp x2 (sgAp x1 (sgT1 P, sgL1 P))))).2 + sg_nb x5 := sgAp_len x5 (sgAp x4 (sgAp x3 (sgAp x2 (sgAp x1 (sgT1 P, sgL1 P)))))
    refine lv_aload_n X.1 X.2.1 dX11_feed_88 rfl (lv_at hl 1 rfl) ?_
    refine gf_X11_0 X hK hG h0 wl_2_195 dX11_feed_89 (fun q34 hq34 kq34 => ?_)
    refine gf_X10_1 X hK hG hq34 wl_1_42 dX11_feed_92 (fun f35 hf35 pf35 kf35 => ?_)
    have hxx : f35.toInt = sgL1 P + sgN5 x1 x2 x3 x4 x5 := (sg_apC1 (q := (sgAp x5 (sgAp x4 (sgAp x3 (sgAp x2 (sgAp x1 (sgT1 P, sgL1 P))))))) pf35 ⟨by omega, by omega⟩).trans (by omega)
    exact sg_iret2 X hr hlk hS trivial (fun t ht hW => (Or.inr ⟨by omega, hxx, sg_post hb hK hC hG hS ht hW⟩)) dX11_feed_95
  · refine lv_iconst (v := (-1)) X.1 X.2.1 dX11_feed_44 (by decide +kernel) ?_
    have hrel := Int32.lt_iff_toInt_lt.mp (iv_gt_of c19)
    have h240 : (240 : Int32).toInt = 240 := by decide +kernel
    exact sg_iret2 X hr hlk hS trivial (fun t ht hW => (Or.inl ⟨rfl, by omega, sg_post hb hK hC hG hS ht hW⟩)) dX11_feed_45

theorem ca_X11_feed_q   (X : CallFix p m c cc nL s args sg_tbl own) (hK : va_K D vwCl tys s) (hG : sgG (KT P) D vwCl (fun q : Nat => base ≤ q) tys ad ks H) (hC : sgC base s) (hS : va_S (fun q : Nat => base ≤ q) s.heap H locs) (hb : base ≤ s.heap.size) (a0 : Nat) (h0 : isK ad ks 11 a0) (x1 : Int32) (x2 : Int32) (x3 : Int32) (x4 : Int32) (x5 : Int32) (hl0 : 0 ≤ sgL1 P ∧ sgL1 P ≤ 240) (hl : Cond.methodLink own index yX11_feed ∈ sg_tbl) (hsize : ls.size = nL) (hst : st0 = [.int x1, .int x2, .int x3, .int x4, .int x5].reverse ++ .ref a0 :: rest) (hW : (rest.map fun v => v.category).sum ≤ 8) (hR : 2 ≤ R.frames ∧ 49 ≤ R.locals) (hf : cells ≤ R.cells ∧ slots ≤ R.slots) (hdg : decode cc pc = .ok (.invokevirtual index, 3)) (kk : ∀ (r : Int32) (t : State) (H1 : Heap) (locs1 : List Loc), t.heap = H1 → (fun r : Int32 => True) r → ((r = -1 ∧ 240 < sgL1 P + sgN5 x1 x2 x3 x4 x5 ∧ sgB (KT P) D vwCl base tys ad ks t) ∨ (sgL1 P + sgN5 x1 x2 x3 x4 x5 ≤ 240 ∧ r.toInt = sgL1 P + sgN5 x1 x2 x3 x4 x5 ∧ sgB (KT (sgSt P (sgFd x1 x2 x3 x4 x5 (sgT1 P, sgL1 P)).1 (sgFd x1 x2 x3 x4 x5 (sgT1 P, sgL1 P)).2 (sgT2 P) (sgL2 P))) D vwCl base tys ad ks t)) → va_S (fun q : Nat => base ≤ q) s.heap H1 locs1 → W p l e R s m args below meth c H1 locs1 cells slots Q (F0 m (pc + 3) ls (.int r :: rest))) : W p l e R s m args below meth c H locs cells slots Q (F0 m pc ls st0) :=
  sg_callV2i X hK hG hC hS hb (m_X11_feed_q l a0 h0 x1 x2 x3 x4 x5 hl0) h0 (k := 11) (ci := 11) rfl (C := RX11) (T := TX11) (N := 17) rfl wl_3_10 wl_1_1 wl_3_8 wl_3_9 (n := 5) (by decide +kernel) rfl rfl rfl hl hsize hst hW hR hf hdg kk

set_option maxHeartbeats 8000000 in
set_option maxRecDepth 100000 in
theorem m_X12_feed_q (l : Launch) {D : va_G} {base : Nat} {tys : List (ClassId × FieldType)} {ad ks : List Nat} {P : sgPm} (a0 : Nat) (h0 : isK ad ks 12 a0) (x1 : Int32) (x2 : Int32) (x3 : Int32) (x4 : Int32) (x5 : Int32) (hl0 : 0 ≤ sgL2 P ∧ sgL2 P ≤ 240) : Met l yX12_feed (Cond.code yX12_feed cX12_feed 6 (some .int) :: sg_tbl) ({ frames := 1, cells := 0, slots := 0, locals := 22 }) (va_Pc [.ref a0, .int x1, .int x2, .int x3, .int x4, .int x5] (sgB (KT P) D vwCl base tys ad ks)) (va_Qi (fun r (u : Int32) => u = r ∧ (fun r : Int32 => True) r) (fun u t => (u = -1 ∧ 240 < sgL2 P + sgN5 x1 x2 x3 x4 x5 ∧ sgB (KT P) D vwCl base tys ad ks t) ∨ (sgL2 P + sgN5 x1 x2 x3 x4 x5 ≤ 240 ∧ u.toInt = sgL2 P + sgN5 x1 x2 x3 x4 x5 ∧ sgB (KT (sgSt P (sgT1 P) (sgL1 P) (sgFd2 x1 x2 x3 x4 x5 (sgT2 P, sgL2 P)).1 (sgFd2 x1 x2 x3 x4 x5 (sgT2 P, sgL2 P)).2)) D vwCl base tys ad ks t)) (fun q : Nat => base ≤ q)) 0 0 (fun q : Nat => base ≤ q) := by
  refine sg_ofW (by decide +kernel) (Nat.le_of_ble_eq_true rfl) (fun p e s m below meth c X hr hlk hb hK hC hG ls hl => ?_)
  have hS : va_S (fun q : Nat => base ≤ q) s.heap s.heap [] := va_S.rf
  have hl : lv_has ls 6 [(0, .ref a0), (1, .int x1), (2, .int x2), (3, .int x3), (4, .int x4), (5, .int x5)] := hl
  refine lv_aload_n X.1 X.2.1 dX12_feed_0 rfl (lv_at hl 0 rfl) ?_
  refine lv_iconst (v := 0) X.1 X.2.1 dX12_feed_1 (by decide +kernel) ?_
  refine pf_X12_0 X hK hG hS h0 wl_6_178 ⟨_, rfl, (iv_top _)⟩ dX12_feed_2 (fun H locs hG hS ku1 ru1 => ?_)
  refine lv_aload_n X.1 X.2.1 dX12_feed_5 rfl (lv_at hl 0 rfl) ?_
  refine gf_X12_6 X hK hG h0 wl_6_184 dX12_feed_6 (fun f2 hf2 pf2 kf2 => ?_)
  refine lv_iload_n X.1 X.2.1 dX12_feed_9 rfl (lv_at hl 1 rfl) ?_
  refine ca_X12_bytesIn_b X hK hG hC (fun _ h => h) hS hb x1 wl_7_103 hl.1 (rest := [.int f2]) rfl (Nat.le_of_ble_eq_true rfl) ⟨Nat.le_of_ble_eq_true rfl, Nat.le_of_ble_eq_true rfl⟩ ⟨Nat.le_of_ble_eq_true rfl, Nat.le_of_ble_eq_true rfl⟩ dX12_feed_10 (fun f3 locs hf3 hS => ?_)
  refine lv_iadd X.1 X.2.1 dX12_feed_13 ?_
  refine lv_topi (fun f4 ef4 => ?_)
  refine lv_iload_n X.1 X.2.1 dX12_feed_14 rfl (lv_at hl 2 rfl) ?_
  refine ca_X12_bytesIn_b X hK hG hC (fun _ h => h) hS hb x2 wl_7_103 hl.1 (rest := [.int f4]) rfl (Nat.le_of_ble_eq_true rfl) ⟨Nat.le_of_ble_eq_true rfl, Nat.le_of_ble_eq_true rfl⟩ ⟨Nat.le_of_ble_eq_true rfl, Nat.le_of_ble_eq_true rfl⟩ dX12_feed_15 (fun f5 locs hf5 hS => ?_)
  refine lv_iadd X.1 X.2.1 dX12_feed_18 ?_
  refine lv_topi (fun f6 ef6 => ?_)
  refine lv_iload_n X.1 X.2.1 dX12_feed_19 rfl (lv_at hl 3 rfl) ?_
  refine ca_X12_bytesIn_b X hK hG hC (fun _ h => h) hS hb x3 wl_7_103 hl.1 (rest := [.int f6]) rfl (Nat.le_of_ble_eq_true rfl) ⟨Nat.le_of_ble_eq_true rfl, Nat.le_of_ble_eq_true rfl⟩ ⟨Nat.le_of_ble_eq_true rfl, Nat.le_of_ble_eq_true rfl⟩ dX12_feed_20 (fun f7 locs hf7 hS => ?_)
  refine lv_iadd X.1 X.2.1 dX12_feed_23 ?_
  refine lv_topi (fun f8 ef8 => ?_)
  refine lv_iload X.1 X.2.1 dX12_feed_24 (lv_at hl 4 rfl) ?_
  refine ca_X12_bytesIn_b X hK hG hC (fun _ h => h) hS hb x4 wl_7_103 hl.1 (rest := [.int f8]) rfl (Nat.le_of_ble_eq_true rfl) ⟨Nat.le_of_ble_eq_true rfl, Nat.le_of_ble_eq_true rfl⟩ ⟨Nat.le_of_ble_eq_true rfl, Nat.le_of_ble_eq_true rfl⟩ dX12_feed_26 (fun f9 locs hf9 hS => ?_)
  refine lv_iadd X.1 X.2.1 dX12_feed_29 ?_
  refine lv_topi (fun f10 ef10 => ?_)
  refine lv_iload X.1 X.2.1 dX12_feed_30 (lv_at hl 5 rfl) ?_
  refine ca_X12_bytesIn_b X hK hG hC (fun _ h => h) hS hb x5 wl_7_103 hl.1 (rest := [.int f10]) rfl (Nat.le_of_ble_eq_true rfl) ⟨Nat.le_of_ble_eq_true rfl, Nat.le_of_ble_eq_true rfl⟩ ⟨Nat.le_of_ble_eq_true rfl, Nat.le_of_ble_eq_true rfl⟩ dX12_feed_32 (fun f11 locs hf11 hS => ?_)
  refine lv_iadd X.1 X.2.1 dX12_feed_35 ?_
  refine lv_topi (fun f12 ef12 => ?_)
  have nn1 := sg_nb_le x1
  have nn2 := sg_nb_le x2
  have nn3 := sg_nb_le x3
  have nn4 := sg_nb_le x4
  have nn5 := sg_nb_le x5
  have hn5 : sgN5 x1 x2 x3 x4 x5 = sg_nb x1 + sg_nb x2 + sg_nb x3 + sg_nb x4 + sg_nb x5 := rfl
  have bq13 : 0 ≤ f2.toInt ∧ f2.toInt ≤ 240 := hf2
  have bq14 : 0 ≤ f3.toInt ∧ f3.toInt ≤ 4 := hf3.1
  have xf4 : f4.toInt = f2.toInt + f3.toInt := sg_exadd ef4 hf2 hf3.1 (by decide +kernel) rfl rfl
  have bq15 : 0 ≤ f5.toInt ∧ f5.toInt ≤ 4 := hf5.1
  have xf6 : f6.toInt = f4.toInt + f5.toInt := sg_exadd ef6 (iv_add (a' := 0) (b' := 244) ef4 hf2 hf3.1 (by decide +kernel)) hf5.1 (by decide +kernel) rfl rfl
  have bq16 : 0 ≤ f7.toInt ∧ f7.toInt ≤ 4 := hf7.1
  have xf8 : f8.toInt = f6.toInt + f7.toInt := sg_exadd ef8 (iv_add (a' := 0) (b' := 248) ef6 (iv_add (a' := 0) (b' := 244) ef4 hf2 hf3.1 (by decide +kernel)) hf5.1 (by decide +kernel)) hf7.1 (by decide +kernel) rfl rfl
  have bq17 : 0 ≤ f9.toInt ∧ f9.toInt ≤ 4 := hf9.1
  have xf10 : f10.toInt = f8.toInt + f9.toInt := sg_exadd ef10 (iv_add (a' := 0) (b' := 252) ef8 (iv_add (a' := 0) (b' := 248) ef6 (iv_add (a' := 0) (b' := 244) ef4 hf2 hf3.1 (by decide +kernel)) hf5.1 (by decide +kernel)) hf7.1 (by decide +kernel)) hf9.1 (by decide +kernel) rfl rfl
  have bq18 : 0 ≤ f11.toInt ∧ f11.toInt ≤ 4 := hf11.1
  have xf12 : f12.toInt = f10.toInt + f11.toInt := sg_exadd ef12 (iv_add (a' := 0) (b' := 256) ef10 (iv_add (a' := 0) (b' := 252) ef8 (iv_add (a' := 0) (b' := 248) ef6 (iv_add (a' := 0) (b' := 244) ef4 hf2 hf3.1 (by decide +kernel)) hf5.1 (by decide +kernel)) hf7.1 (by decide +kernel)) hf9.1 (by decide +kernel)) hf11.1 (by decide +kernel) rfl rfl
  have pnf2 : f2.toInt = sgL2 P := sgC240_eq pf2 (by omega) (by omega)
  have nbf3 := hf3.2
  have nbf5 := hf5.2
  have nbf7 := hf7.2
  have nbf9 := hf9.2
  have nbf11 := hf11.2
  refine lv_sipush (v := 240) X.1 X.2.1 dX12_feed_36 (by decide +kernel) ?_
  refine lv_icmp_le (tgt := 44) X.1 X.2.1 dX12_feed_39 (by decide) (fun c19 => ?_) (fun c19 => ?_)
  · have hrel := Int32.le_iff_toInt_le.mp c19
    have h240 : (240 : Int32).toInt = 240 := by decide +kernel
    refine lv_aload_n X.1 X.2.1 dX12_feed_44 rfl (lv_at hl 0 rfl) ?_
    refine lv_iload_n X.1 X.2.1 dX12_feed_45 rfl (lv_at hl 1 rfl) ?_
    refine ca_X12_put_q X hK hG hC hS hb a0 h0 x1 ⟨by omega, by omega⟩ wl_7_106 hl.1 (rest := []) rfl (Nat.le_of_ble_eq_true rfl) ⟨Nat.le_of_ble_eq_true rfl, Nat.le_of_ble_eq_true rfl⟩ ⟨Nat.le_of_ble_eq_true rfl, Nat.le_of_ble_eq_true rfl⟩ dX12_feed_46 (fun tg20 H locs htg20 hWg20 hS => ?_)
    have hG := hWg20.2.2.2
    rw [htg20] at hG
    have l21 : (sgAp2 x1 (sgT2 P, sgL2 P)).2 = (sgT2 P, sgL2 P).2 + sg_nb x1 := sgAp2_len x1 (sgT2 P, sgL2 P)
    refine lv_aload_n X.1 X.2.1 dX12_feed_49 rfl (lv_at hl 0 rfl) ?_
    refine lv_iload_n X.1 X.2.1 dX12_feed_50 rfl (lv_at hl 2 rfl) ?_
    refine ca_X12_put_q X hK hG hC hS hb a0 h0 x2 (sg_apL2 (q := (sgAp2 x1 (sgT2 P, sgL2 P))) ⟨by omega, by omega⟩) wl_7_106 hl.1 (rest := []) rfl (Nat.le_of_ble_eq_true rfl) ⟨Nat.le_of_ble_eq_true rfl, Nat.le_of_ble_eq_true rfl⟩ ⟨Nat.le_of_ble_eq_true rfl, Nat.le_of_ble_eq_true rfl⟩ dX12_feed_51 (fun tg22 H locs htg22 hWg22 hS => ?_)
    have hG := hWg22.2.2.2
    rw [htg22] at hG
    have hG := sg_apSt2 (q := (sgAp2 x1 (sgT2 P, sgL2 P))) hG
    have l23 : (sgAp2 x2 (sgAp2 x1 (sgT2 P, sgL2 P))).2 = (sgAp2 x1 (sgT2 P, sgL2 P)).2 + sg_nb x2 := sgAp2_len x2 (sgAp2 x1 (sgT2 P, sgL2 P))
    refine lv_aload_n X.1 X.2.1 dX12_feed_54 rfl (lv_at hl 0 rfl) ?_
    refine lv_iload_n X.1 X.2.1 dX12_feed_55 rfl (lv_at hl 3 rfl) ?_
    refine ca_X12_put_q X hK hG hC hS hb a0 h0 x3 (sg_apL2 (q := (sgAp2 x2 (sgAp2 x1 (sgT2 P, sgL2 P)))) ⟨by omega, by omega⟩) wl_7_106 hl.1 (rest := []) rfl (Nat.le_of_ble_eq_true rfl) ⟨Nat.le_of_ble_eq_true rfl, Nat.le_of_ble_eq_true rfl⟩ ⟨Nat.le_of_ble_eq_true rfl, Nat.le_of_ble_eq_true rfl⟩ dX12_feed_56 (fun tg24 H locs htg24 hWg24 hS => ?_)
    have hG := hWg24.2.2.2
    rw [htg24] at hG
    have hG := sg_apSt2 (q := (sgAp2 x2 (sgAp2 x1 (sgT2 P, sgL2 P)))) hG
    have l25 : (sgAp2 x3 (sgAp2 x2 (sgAp2 x1 (sgT2 P, sgL2 P)))).2 = (sgAp2 x2 (sgAp2 x1 (sgT2 P, sgL2 P))).2 + sg_nb x3 := sgAp2_len x3 (sgAp2 x2 (sgAp2 x1 (sgT2 P, sgL2 P)))
    refine lv_aload_n X.1 X.2.1 dX12_feed_59 rfl (lv_at hl 0 rfl) ?_
    refine lv_iload X.1 X.2.1 dX12_feed_60 (lv_at hl 4 rfl) ?_
    refine ca_X12_put_q X hK hG hC hS hb a0 h0 x4 (sg_apL2 (q := (sgAp2 x3 (sgAp2 x2 (sgAp2 x1 (sgT2 P, sgL2 P))))) ⟨by omega, by omega⟩) wl_7_106 hl.1 (rest := []) rfl (Nat.le_of_ble_eq_true rfl) ⟨Nat.le_of_ble_eq_true rfl, Nat.le_of_ble_eq_true rfl⟩ ⟨Nat.le_of_ble_eq_true rfl, Nat.le_of_ble_eq_true rfl⟩ dX12_feed_62 (fun tg26 H locs htg26 hWg26 hS => ?_)
    have hG := hWg26.2.2.2
    rw [htg26] at hG
    have hG := sg_apSt2 (q := (sgAp2 x3 (sgAp2 x2 (sgAp2 x1 (sgT2 P, sgL2 P))))) hG
    have l27 : (sgAp2 x4 (sgAp2 x3 (sgAp2 x2 (sgAp2 x1 (sgT2 P, sgL2 P))))).2 = (sgAp2 x3 (sgAp2 x2 (sgAp2 x1 (sgT2 P, sgL2 P)))).2 + sg_nb x4 := sgAp2_len x4 (sgAp2 x3 (sgAp2 x2 (sgAp2 x1 (sgT2 P, sgL2 P))))
    refine lv_aload_n X.1 X.2.1 dX12_feed_65 rfl (lv_at hl 0 rfl) ?_
    refine lv_iload X.1 X.2.1 dX12_feed_66 (lv_at hl 5 rfl) ?_
    refine ca_X12_put_q X hK hG hC hS hb a0 h0 x5 (sg_apL2 (q := (sgAp2 x4 (sgAp2 x3 (sgAp2 x2 (sgAp2 x1 (sgT2 P, sgL2 P)))))) ⟨by omega, by omega⟩) wl_7_106 hl.1 (rest := []) rfl (Nat.le_of_ble_eq_true rfl) ⟨Nat.le_of_ble_eq_true rfl, Nat.le_of_ble_eq_true rfl⟩ ⟨Nat.le_of_ble_eq_true rfl, Nat.le_of_ble_eq_true rfl⟩ dX12_feed_68 (fun tg28 H locs htg28 hWg28 hS => ?_)
    have hG := hWg28.2.2.2
    rw [htg28] at hG
    have hG := sg_apSt2 (q := (sgAp2 x4 (sgAp2 x3 (sgAp2 x2 (sgAp2 x1 (sgT2 P, sgL2 P)))))) hG
    have l29 : (sgAp2 x5 (sgAp2 x4 (sgAp2 x3 (sgAp2 x2 (sgAp2 x1 (sgT2 P, sgL2 P)))))).2 = (sgAp2 x4 (sgAp2 x3 (sgAp2 x2 (sgAp2 x1 (sgT2 P, sgL2 P))))).2 + sg_nb x5 := sgAp2_len x5 (sgAp2 x4 (sgAp2 x3 (sgAp2 x2 (sgAp2 x1 (sgT2 P, sgL2 P)))))
    refine lv_aload_n X.1 X.2.1 dX12_feed_71 rfl (lv_at hl 0 rfl) ?_
    refine gf_X12_6 X hK hG h0 wl_6_184 dX12_feed_72 (fun f30 hf30 pf30 kf30 => ?_)
    have hxx : f30.toInt = sgL2 P + sgN5 x1 x2 x3 x4 x5 := (sg_apC2 (q := (sgAp2 x5 (sgAp2 x4 (sgAp2 x3 (sgAp2 x2 (sgAp2 x1 (sgT2 P, sgL2 P))))))) pf30 ⟨by omega, by omega⟩).trans (by omega)
    exact sg_iret2 X hr hlk hS trivial (fun t ht hW => (Or.inr ⟨by omega, hxx, sg_post hb hK hC hG hS ht hW⟩)) dX12_feed_75
  · refine lv_iconst (v := (-1)) X.1 X.2.1 dX12_feed_42 (by decide +kernel) ?_
    have hrel := Int32.lt_iff_toInt_lt.mp (iv_gt_of c19)
    have h240 : (240 : Int32).toInt = 240 := by decide +kernel
    exact sg_iret2 X hr hlk hS trivial (fun t ht hW => (Or.inl ⟨rfl, by omega, sg_post hb hK hC hG hS ht hW⟩)) dX12_feed_43

theorem ca_X12_feed_q   (X : CallFix p m c cc nL s args sg_tbl own) (hK : va_K D vwCl tys s) (hG : sgG (KT P) D vwCl (fun q : Nat => base ≤ q) tys ad ks H) (hC : sgC base s) (hS : va_S (fun q : Nat => base ≤ q) s.heap H locs) (hb : base ≤ s.heap.size) (a0 : Nat) (h0 : isK ad ks 12 a0) (x1 : Int32) (x2 : Int32) (x3 : Int32) (x4 : Int32) (x5 : Int32) (hl0 : 0 ≤ sgL2 P ∧ sgL2 P ≤ 240) (hl : Cond.methodLink own index yX12_feed ∈ sg_tbl) (hsize : ls.size = nL) (hst : st0 = [.int x1, .int x2, .int x3, .int x4, .int x5].reverse ++ .ref a0 :: rest) (hW : (rest.map fun v => v.category).sum ≤ 8) (hR : 2 ≤ R.frames ∧ 47 ≤ R.locals) (hf : cells ≤ R.cells ∧ slots ≤ R.slots) (hdg : decode cc pc = .ok (.invokevirtual index, 3)) (kk : ∀ (r : Int32) (t : State) (H1 : Heap) (locs1 : List Loc), t.heap = H1 → (fun r : Int32 => True) r → ((r = -1 ∧ 240 < sgL2 P + sgN5 x1 x2 x3 x4 x5 ∧ sgB (KT P) D vwCl base tys ad ks t) ∨ (sgL2 P + sgN5 x1 x2 x3 x4 x5 ≤ 240 ∧ r.toInt = sgL2 P + sgN5 x1 x2 x3 x4 x5 ∧ sgB (KT (sgSt P (sgT1 P) (sgL1 P) (sgFd2 x1 x2 x3 x4 x5 (sgT2 P, sgL2 P)).1 (sgFd2 x1 x2 x3 x4 x5 (sgT2 P, sgL2 P)).2)) D vwCl base tys ad ks t)) → va_S (fun q : Nat => base ≤ q) s.heap H1 locs1 → W p l e R s m args below meth c H1 locs1 cells slots Q (F0 m (pc + 3) ls (.int r :: rest))) : W p l e R s m args below meth c H locs cells slots Q (F0 m pc ls st0) :=
  sg_callV2i X hK hG hC hS hb (m_X12_feed_q l a0 h0 x1 x2 x3 x4 x5 hl0) h0 (k := 12) (ci := 12) rfl (C := RX12) (T := TX12) (N := 53) rfl wl_7_102 wl_1_13 wl_7_100 wl_7_101 (n := 5) (by decide +kernel) rfl rfl rfl hl hsize hst hW hR hf hdg kk
end
