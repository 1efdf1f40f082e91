abbrev cX10_append : ByteArray := prog_12_method_3_code
def yX10_append : MethodName := ⟨RX10, "append", "(I)V"⟩
theorem dX10_append_0 : decode cX10_append 0 = .ok (.bipush 24, 2) := by decide +kernel
theorem dX10_append_2 : decode cX10_append 2 = .ok (.istore_n 2, 1) := by decide +kernel
theorem dX10_append_3 : decode cX10_append 3 = .ok (.iload_n 2, 1) := by decide +kernel
theorem dX10_append_4 : decode cX10_append 4 = .ok (.ifCond .lt 51, 3) := by decide +kernel
theorem dX10_append_7 : decode cX10_append 7 = .ok (.iload_n 1, 1) := by decide +kernel
theorem dX10_append_8 : decode cX10_append 8 = .ok (.iload_n 2, 1) := by decide +kernel
theorem dX10_append_9 : decode cX10_append 9 = .ok (.iushr, 1) := by decide +kernel
theorem dX10_append_10 : decode cX10_append 10 = .ok (.sipush 255, 3) := by decide +kernel
theorem dX10_append_13 : decode cX10_append 13 = .ok (.iand, 1) := by decide +kernel
theorem dX10_append_14 : decode cX10_append 14 = .ok (.istore_n 3, 1) := by decide +kernel
theorem dX10_append_15 : decode cX10_append 15 = .ok (.iload_n 3, 1) := by decide +kernel
theorem dX10_append_16 : decode cX10_append 16 = .ok (.ifCond .eq 33, 3) := by decide +kernel
theorem dX10_append_19 : decode cX10_append 19 = .ok (.aload_n 0, 1) := by decide +kernel
theorem dX10_append_20 : decode cX10_append 20 = .ok (.getfield 15, 3) := by decide +kernel
theorem dX10_append_23 : decode cX10_append 23 = .ok (.sipush 240, 3) := by decide +kernel
theorem dX10_append_26 : decode cX10_append 26 = .ok (.if_icmp .ge 23, 3) := by decide +kernel
theorem dX10_append_29 : decode cX10_append 29 = .ok (.aload_n 0, 1) := by decide +kernel
theorem dX10_append_30 : decode cX10_append 30 = .ok (.getfield 11, 3) := by decide +kernel
theorem dX10_append_33 : decode cX10_append 33 = .ok (.aload_n 0, 1) := by decide +kernel
theorem dX10_append_34 : decode cX10_append 34 = .ok (.getfield 15, 3) := by decide +kernel
theorem dX10_append_37 : decode cX10_append 37 = .ok (.iload_n 3, 1) := by decide +kernel
theorem dX10_append_38 : decode cX10_append 38 = .ok (.iastore, 1) := by decide +kernel
theorem dX10_append_39 : decode cX10_append 39 = .ok (.aload_n 0, 1) := by decide +kernel
theorem dX10_append_40 : decode cX10_append 40 = .ok (.dup, 1) := by decide +kernel
theorem dX10_append_41 : decode cX10_append 41 = .ok (.getfield 15, 3) := by decide +kernel
theorem dX10_append_44 : decode cX10_append 44 = .ok (.iconst 1, 1) := by decide +kernel
theorem dX10_append_45 : decode cX10_append 45 = .ok (.iadd, 1) := by decide +kernel
theorem dX10_append_46 : decode cX10_append 46 = .ok (.putfield 15, 3) := by decide +kernel
theorem dX10_append_49 : decode cX10_append 49 = .ok (.iinc 2 (-8), 3) := by decide +kernel
theorem dX10_append_52 : decode cX10_append 52 = .ok (.goto (-49), 3) := by decide +kernel
theorem dX10_append_55 : decode cX10_append 55 = .ok (.return_, 1) := by decide +kernel
theorem wl_3_17 : (.code yX10_append cX10_append 4 none : Cond) ∈ sg_tbl := tb_3 _ (List.mem_of_getElem? (i := 17) (by decide +kernel)) (by decide +kernel)
theorem wl_3_15 : (.instanceMethod yX10_append : Cond) ∈ sg_tbl := tb_3 _ (List.mem_of_getElem? (i := 15) (by decide +kernel)) (by decide +kernel)
theorem wl_3_16 : (.selects RX10 yX10_append yX10_append : Cond) ∈ sg_tbl := tb_3 _ (List.mem_of_getElem? (i := 16) (by decide +kernel)) (by decide +kernel)
section
variable {p : Program} {l : Launch} {e : Env} {R : Room} {s : State} {m : MethodId} {args : Array Value} {below : List Frame} {meth : Method} {c : Code} {H : Heap} {locs : List Loc} {cells slots : Nat} {Q : State → Prop} {cc : ByteArray} {nL pc : Nat} {ls : Array Slot} {rest : List Value} {own : String} {D : va_G} {A : Nat → Prop} {tys : List (ClassId × FieldType)} {ad ks : List Nat} {P : sgPm} {H0 : Heap} {index : Nat} {base : Nat} {st0 : List Value} {a : Nat}
theorem gg_X10_1   (X : CallFix p m c cc nL s args sg_tbl own) (hK : va_K D vwCl tys s) (hG : sgG (KT P) D vwCl A tys ad ks H) (ha : isK ad ks 10 a) (hl : Cond.fieldLink own index "LawnAhead$Tape" "length" "I" ∈ sg_tbl) {v : Value} (hf : fld D H 10 a 1 v) (hdg : decode cc pc = .ok (.getfield index, 3)) (kk : W p l e R s m args below meth c H locs cells slots Q (F0 m (pc + 3) ls (v :: rest))) : W p l e R s m args below meth c H locs cells slots Q (F0 m pc ls (.ref a :: rest)) :=
  sg_getf X hK hG ha (k := 10) (ci := 10) rfl (C := RX10) (T := TX10) (N := 4) rfl inL_X10 1 (by decide) (show 1 < 4 by decide) hl (fun _ h => h) hf hdg kk
set_option maxHeartbeats 8000000 in
set_option maxRecDepth 100000 in
theorem m_X10_append_b (l : Launch) {D : va_G} {base : Nat} {tys : List (ClassId × FieldType)} {ad ks : List Nat} {P : sgPm} (a0 : Nat) (h0 : isK ad ks 10 a0) (x1 : Int32) (hl0 : 0 ≤ sgL1 P ∧ sgL1 P + sg_nb x1 ≤ 240) : Met l yX10_append (Cond.code yX10_append cX10_append 4 none :: sg_tbl) ({ frames := 0, cells := 0, slots := 0, locals := 0 }) (va_Pc [.ref a0, .int x1] (sgB (KT P) D vwCl base tys ad ks)) (va_Qv (fun (_ : Unit) => True) (fun _ => fun t => sgB (KT (sgSt P (sgAp x1 (sgT1 P, sgL1 P)).1 (sgAp x1 (sgT1 P, sgL1 P)).2 (sgT2 P) (sgL2 P))) D vwCl base tys ad ks t) (fun q : Nat => base ≤ q)) 0 0 (fun q : Nat => base ≤ q) := by
  refine sg_ofW (by decide +kernel) (Nat.le_of_ble_eq_true rfl) (fun p e s m below meth c X hr hlk hb hK hC hG ls hl => ?_)
  have hS : va_S (fun q : Nat => base ≤ q) s.heap s.heap [] := va_S.rf
  have hl : lv_has ls 4 [(0, .ref a0), (1, .int x1)] := hl
  refine lv_bipush (v := 24) X.1 X.2.1 dX10_append_0 (by decide +kernel) ?_
  refine lv_istore_n (lv' := [(2, .int 24), (0, .ref a0), (1, .int x1)]) X.1 X.2.1 dX10_append_2 rfl hl (by decide) rfl (fun ls hl => ?_)
  refine lv_iload_n X.1 X.2.1 dX10_append_3 rfl (lv_at hl 0 rfl) ?_
  refine lv_if_lt (tgt := 55) X.1 X.2.1 dX10_append_4 (by decide) (fun c1 => ?_) (fun c1 => ?_)
  · exact ((iv_no (iv_lt (b' := (-1)) c1 (iv_c 24 (a := 24) (b := 24) (by decide +kernel)) (iv_c 0 (a := 0) (b := 0) (by decide +kernel)) (by decide +kernel)) (by decide +kernel))).elim
  · refine lv_iload_n X.1 X.2.1 dX10_append_7 rfl (lv_at hl 2 rfl) ?_
    refine lv_iload_n X.1 X.2.1 dX10_append_8 rfl (lv_at hl 0 rfl) ?_
    obtain ⟨f2, ef2⟩ : ∃ y : Int32, y = (x1.toUInt32 >>> ((24 : Int32).toUInt32 &&& Int32.toUInt32 31)).toInt32 := ⟨_, rfl⟩
    refine lv_iushr (v := f2) X.1 X.2.1 dX10_append_9 ef2.symm ?_
    refine lv_sipush (v := 255) X.1 X.2.1 dX10_append_10 (by decide +kernel) ?_
    refine lv_iand X.1 X.2.1 dX10_append_13 ?_
    refine lv_topi (fun f3 ef3 => ?_)
    refine lv_istore_n (lv' := [(3, .int f3), (2, .int 24), (0, .ref a0), (1, .int x1)]) X.1 X.2.1 dX10_append_14 rfl hl (by decide) rfl (fun ls hl => ?_)
    refine lv_iload_n X.1 X.2.1 dX10_append_15 rfl (lv_at hl 0 rfl) ?_
    refine lv_if_eq (tgt := 49) X.1 X.2.1 dX10_append_16 (by decide) (fun c4 => ?_) (fun c4 => ?_)
    · obtain ⟨y5, ey5⟩ : ∃ y : Int32, y = 24 + Int32.ofInt (-8) := ⟨_, rfl⟩
      refine lv_iinc (v := y5) (lv' := [(2, .int y5), (3, .int f3), (0, .ref a0), (1, .int x1)]) X.1 X.2.1 dX10_append_49 hl (k := 1) rfl ey5.symm (by decide) rfl (fun ls hl => ?_)
      refine lv_goto (tgt := 3) X.1 X.2.1 dX10_append_52 (by decide) ?_
      refine lv_iload_n X.1 X.2.1 dX10_append_3 rfl (lv_at hl 0 rfl) ?_
      refine lv_if_lt (tgt := 55) X.1 X.2.1 dX10_append_4 (by decide) (fun c6 => ?_) (fun c6 => ?_)
      · exact ((iv_no (iv_lt (b' := (-1)) c6 (iv_add (a' := 16) (b' := 16) ey5 (iv_c 24 (a := 24) (b := 24) (by decide +kernel)) (iv_c _ (a := (-8)) (b := (-8)) (by decide +kernel)) (by decide +kernel)) (iv_c 0 (a := 0) (b := 0) (by decide +kernel)) (by decide +kernel)) (by decide +kernel))).elim
      · refine lv_iload_n X.1 X.2.1 dX10_append_7 rfl (lv_at hl 3 rfl) ?_
        refine lv_iload_n X.1 X.2.1 dX10_append_8 rfl (lv_at hl 0 rfl) ?_
        obtain ⟨f7, ef7⟩ : ∃ y : Int32, y = (x1.toUInt32 >>> ((y5 : Int32).toUInt32 &&& Int32.toUInt32 31)).toInt32 := ⟨_, rfl⟩
        refine lv_iushr (v := f7) X.1 X.2.1 dX10_append_9 ef7.symm ?_
        refine lv_sipush (v := 255) X.1 X.2.1 dX10_append_10 (by decide +kernel) ?_
        refine lv_iand X.1 X.2.1 dX10_append_13 ?_
        refine lv_topi (fun f8 ef8 => ?_)
        refine lv_istore_n (lv' := [(3, .int f8), (2, .int y5), (0, .ref a0), (1, .int x1)]) X.1 X.2.1 dX10_append_14 rfl hl (by decide) rfl (fun ls hl => ?_)
        refine lv_iload_n X.1 X.2.1 dX10_append_15 rfl (lv_at hl 0 rfl) ?_
        refine lv_if_eq (tgt := 49) X.1 X.2.1 dX10_append_16 (by decide) (fun c9 => ?_) (fun c9 => ?_)
        · obtain ⟨y10, ey10⟩ : ∃ y : Int32, y = y5 + Int32.ofInt (-8) := ⟨_, rfl⟩
          refine lv_iinc (v := y10) (lv' := [(2, .int y10), (3, .int f8), (0, .ref a0), (1, .int x1)]) X.1 X.2.1 dX10_append_49 hl (k := 1) rfl ey10.symm (by decide) rfl (fun ls hl => ?_)
          refine lv_goto (tgt := 3) X.1 X.2.1 dX10_append_52 (by decide) ?_
          refine lv_iload_n X.1 X.2.1 dX10_append_3 rfl (lv_at hl 0 rfl) ?_
          refine lv_if_lt (tgt := 55) X.1 X.2.1 dX10_append_4 (by decide) (fun c11 => ?_) (fun c11 => ?_)
          · exact ((iv_no (iv_lt (b' := (-1)) c11 (iv_add (a' := 8) (b' := 8) ey10 (iv_add (a' := 16) (b' := 16) ey5 (iv_c 24 (a := 24) (b := 24) (by decide +kernel)) (iv_c _ (a := (-8)) (b := (-8)) (by decide +kernel)) (by decide +kernel)) (iv_c _ (a := (-8)) (b := (-8)) (by decide +kernel)) (by decide +kernel)) (iv_c 0 (a := 0) (b := 0) (by decide +kernel)) (by decide +kernel)) (by decide +kernel))).elim
          · refine lv_iload_n X.1 X.2.1 dX10_append_7 rfl (lv_at hl 3 rfl) ?_
            refine lv_iload_n X.1 X.2.1 dX10_append_8 rfl (lv_at hl 0 rfl) ?_
            obtain ⟨f12, ef12⟩ : ∃ y : Int32, y = (x1.toUInt32 >>> ((y10 : Int32).toUInt32 &&& Int32.toUInt32 31)).toInt32 := ⟨_, rfl⟩
            refine lv_iushr (v := f12) X.1 X.2.1 dX10_append_9 ef12.symm ?_
            refine lv_sipush (v := 255) X.1 X.2.1 dX10_append_10 (by decide +kernel) ?_
            refine lv_iand X.1 X.2.1 dX10_append_13 ?_
            refine lv_topi (fun f13 ef13 => ?_)
            refine lv_istore_n (lv' := [(3, .int f13), (2, .int y10), (0, .ref a0), (1, .int x1)]) X.1 X.2.1 dX10_append_14 rfl hl (by decide) rfl (fun ls hl => ?_)
            refine lv_iload_n X.1 X.2.1 dX10_append_15 rfl (lv_at hl 0 rfl) ?_
            refine lv_if_eq (tgt := 49) X.1 X.2.1 dX10_append_16 (by decide) (fun c14 => ?_) (fun c14 => ?_)
            · obtain ⟨y15, ey15⟩ : ∃ y : Int32, y = y10 + Int32.ofInt (-8) := ⟨_, rfl⟩
              refine lv_iinc (v := y15) (lv' := [(2, .int y15), (3, .int f13), (0, .ref a0), (1, .int x1)]) X.1 X.2.1 dX10_append_49 hl (k := 1) rfl ey15.symm (by decide) rfl (fun ls hl => ?_)
              refine lv_goto (tgt := 3) X.1 X.2.1 dX10_append_52 (by decide) ?_
              refine lv_iload_n X.1 X.2.1 dX10_append_3 rfl (lv_at hl 0 rfl) ?_
              refine lv_if_lt (tgt := 55) X.1 X.2.1 dX10_append_4 (by decide) (fun c16 => ?_) (fun c16 => ?_)
              · exact ((iv_no (iv_lt (b' := (-1)) c16 (iv_add (a' := 0) (b' := 0) ey15 (iv_add (a' := 8) (b' := 8) ey10 (iv_add (a' := 16) (b' := 16) ey5 (iv_c 24 (a := 24) (b := 24) (by decide +kernel)) (iv_c _ (a := (-8)) (b := (-8)) (by decide +kernel)) (by decide +kernel)) (iv_c _ (a := (-8)) (b := (-8)) (by decide +kernel)) (by decide +kernel)) (iv_c _ (a := (-8)) (b := (-8)) (by decide +kernel)) (by decide +kernel)) (iv_c 0 (a := 0) (b := 0) (by decide +kernel)) (by decide +kernel)) (by decide +kernel))).elim
              · refine lv_iload_n X.1 X.2.1 dX10_append_7 rfl (lv_at hl 3 rfl) ?_
                refine lv_iload_n X.1 X.2.1 dX10_append_8 rfl (lv_at hl 0 rfl) ?_
                obtain ⟨f17, ef17⟩ : ∃ y : Int32, y = (x1.toUInt32 >>> ((y15 : Int32).toUInt32 &&& Int32.toUInt32 31)).toInt32 := ⟨_, rfl⟩
                refine lv_iushr (v := f17) X.1 X.2.1 dX10_append_9 ef17.symm ?_
                refine lv_sipush (v := 255) X.1 X.2.1 dX10_append_10 (by decide +kernel) ?_
                refine lv_iand X.1 X.2.1 dX10_append_13 ?_
                refine lv_topi (fun f18 ef18 => ?_)
                refine lv_istore_n (lv' := [(3, .int f18), (2, .int y15), (0, .ref a0), (1, .int x1)]) X.1 X.2.1 dX10_append_14 rfl hl (by decide) rfl (fun ls hl => ?_)
                refine lv_iload_n X.1 X.2.1 dX10_append_15 rfl (lv_at hl 0 rfl) ?_
                refine lv_if_eq (tgt := 49) X.1 X.2.1 dX10_append_16 (by decide) (fun c19 => ?_) (fun c19 => ?_)
                · obtain ⟨y20, ey20⟩ : ∃ y : Int32, y = y15 + Int32.ofInt (-8) := ⟨_, rfl⟩
                  refine lv_iinc (v := y20) (lv' := [(2, .int y20), (3, .int f18), (0, .ref a0), (1, .int x1)]) X.1 X.2.1 dX10_append_49 hl (k := 1) rfl ey20.symm (by decide) rfl (fun ls hl => ?_)
                  refine lv_goto (tgt := 3) X.1 X.2.1 dX10_append_52 (by decide) ?_
                  refine lv_iload_n X.1 X.2.1 dX10_append_3 rfl (lv_at hl 0 rfl) ?_
                  refine lv_if_lt (tgt := 55) X.1 X.2.1 dX10_append_4 (by decide) (fun c21 => ?_) (fun c21 => ?_)
                  · have hG := sg_st hG
                    have hap : sgAp x1 (sgT1 P, sgL1 P) = ((sgT1 P), (sgL1 P)) := by unfold sgAp; rw [sgA1_0 ef2 ef3 (sg_kc (24) (iv_c 24 (a := 24) (b := 24) (by decide +kernel)) (by decide +kernel)) (by decide) c4, sgA1_0 ef7 ef8 (sg_kc (16) (iv_add (a' := 16) (b' := 16) ey5 (iv_c 24 (a := 24) (b := 24) (by decide +kernel)) (iv_c _ (a := (-8)) (b := (-8)) (by decide +kernel)) (by decide +kernel)) (by decide +kernel)) (by decide) c9, sgA1_0 ef12 ef13 (sg_kc (8) (iv_add (a' := 8) (b' := 8) ey10 (iv_add (a' := 16) (b' := 16) ey5 (iv_c 24 (a := 24) (b := 24) (by decide +kernel)) (iv_c _ (a := (-8)) (b := (-8)) (by decide +kernel)) (by decide +kernel)) (iv_c _ (a := (-8)) (b := (-8)) (by decide +kernel)) (by decide +kernel)) (by decide +kernel)) (by decide) c14, sgA1_0 ef17 ef18 (sg_kc (0) (iv_add (a' := 0) (b' := 0) ey15 (iv_add (a' := 8) (b' := 8) ey10 (iv_add (a' := 16) (b' := 16) ey5 (iv_c 24 (a := 24) (b := 24) (by decide +kernel)) (iv_c _ (a := (-8)) (b := (-8)) (by decide +kernel)) (by decide +kernel)) (iv_c _ (a := (-8)) (b := (-8)) (by decide +kernel)) (by decide +kernel)) (iv_c _ (a := (-8)) (b := (-8)) (by decide +kernel)) (by decide +kernel)) (by decide +kernel)) (by decide) c19]
                    exact sg_vret2 X hr hlk hS (fun t ht hW => (by rw [hap]; exact sg_post hb hK hC hG hS ht hW)) dX10_append_55
                  · exact ((iv_no (iv_le (b' := (-8)) (iv_ge_of c21) (iv_c 0 (a := 0) (b := 0) (by decide +kernel)) (iv_add (a' := (-8)) (b' := (-8)) ey20 (iv_add (a' := 0) (b' := 0) ey15 (iv_add (a' := 8) (b' := 8) ey10 (iv_add (a' := 16) (b' := 16) ey5 (iv_c 24 (a := 24) (b := 24) (by decide +kernel)) (iv_c _ (a := (-8)) (b := (-8)) (by decide +kernel)) (by decide +kernel)) (iv_c _ (a := (-8)) (b := (-8)) (by decide +kernel)) (by decide +kernel)) (iv_c _ (a := (-8)) (b := (-8)) (by decide +kernel)) (by decide +kernel)) (iv_c _ (a := (-8)) (b := (-8)) (by decide +kernel)) (by decide +kernel)) (by decide +kernel)) (by decide +kernel))).elim
                · refine lv_aload_n X.1 X.2.1 dX10_append_19 rfl (lv_at hl 2 rfl) ?_
                  refine gf_X10_1 X hK hG h0 wl_1_43 dX10_append_20 (fun f22 hf22 pf22 kf22 => ?_)
                  refine lv_sipush (v := 240) X.1 X.2.1 dX10_append_23 (by decide +kernel) ?_
                  have hG := sg_st hG
                  have nb24 := sg_nbpU ef2 ef3 (sg_kc (24) (iv_c 24 (a := 24) (b := 24) (by decide +kernel)) (by decide +kernel)) (by decide) c4
                  have nb16 := sg_nbpU ef7 ef8 (sg_kc (16) (iv_add (a' := 16) (b' := 16) ey5 (iv_c 24 (a := 24) (b := 24) (by decide +kernel)) (iv_c _ (a := (-8)) (b := (-8)) (by decide +kernel)) (by decide +kernel)) (by decide +kernel)) (by decide) c9
                  have nb8 := sg_nbpU ef12 ef13 (sg_kc (8) (iv_add (a' := 8) (b' := 8) ey10 (iv_add (a' := 16) (b' := 16) ey5 (iv_c 24 (a := 24) (b := 24) (by decide +kernel)) (iv_c _ (a := (-8)) (b := (-8)) (by decide +kernel)) (by decide +kernel)) (iv_c _ (a := (-8)) (b := (-8)) (by decide +kernel)) (by decide +kernel)) (by decide +kernel)) (by decide) c14
                  have nb0 := sg_nbqU ef17 ef18 (sg_kc (0) (iv_add (a' := 0) (b' := 0) ey15 (iv_add (a' := 8) (b' := 8) ey10 (iv_add (a' := 16) (b' := 16) ey5 (iv_c 24 (a := 24) (b := 24) (by decide +kernel)) (iv_c _ (a := (-8)) (b := (-8)) (by decide +kernel)) (by decide +kernel)) (iv_c _ (a := (-8)) (b := (-8)) (by decide +kernel)) (by decide +kernel)) (iv_c _ (a := (-8)) (b := (-8)) (by decide +kernel)) (by decide +kernel)) (by decide +kernel)) (by decide) c19
                  have nl24 := sg_nb1_le x1 24
                  have nl16 := sg_nb1_le x1 16
                  have nl8 := sg_nb1_le x1 8
                  have nl0 := sg_nb1_le x1 0
                  have hnb : sg_nb x1 = sg_nb1 x1 24 + sg_nb1 x1 16 + sg_nb1 x1 8 + sg_nb1 x1 0 := rfl
                  have hx26 : f22.toInt = (sgL1 P) := sgC240_eq (l := (sgL1 P)) pf22 (by omega) (by omega)
                  have hy26 : iv 0 239 f22 := ⟨by omega, by omega⟩
                  refine lv_icmp_ge (tgt := 49) X.1 X.2.1 dX10_append_26 (by decide) (fun c23 => ?_) (fun c23 => ?_)
                  · exact ((iv_no (iv_le (b' := 239) c23 (iv_c 240 (a := 240) (b := 240) (by decide +kernel)) hy26 (by decide +kernel)) (by decide +kernel))).elim
                  · refine lv_aload_n X.1 X.2.1 dX10_append_29 rfl (lv_at hl 2 rfl) ?_
                    refine gf_X10_0 X hK hG h0 wl_1_41 dX10_append_30 (fun q24 hq24 kq24 => ?_)
                    refine lv_aload_n X.1 X.2.1 dX10_append_33 rfl (lv_at hl 2 rfl) ?_
                    refine gg_X10_1 X hK hG h0 wl_1_43 kf22 dX10_append_34 ?_
                    refine lv_iload_n X.1 X.2.1 dX10_append_37 rfl (lv_at hl 0 rfl) ?_
                    refine as_42q X hK hG hS hq24 (iv_vpin hy26 (by decide +kernel)) dX10_append_38 (fun H locs hG hS => ?_)
                    rw [sgC240_ix (l := (sgL1 P)) pf22 (by omega) (by omega), sgB1_of ef17 ef18 (sg_kc (0) (iv_add (a' := 0) (b' := 0) ey15 (iv_add (a' := 8) (b' := 8) ey10 (iv_add (a' := 16) (b' := 16) ey5 (iv_c 24 (a := 24) (b := 24) (by decide +kernel)) (iv_c _ (a := (-8)) (b := (-8)) (by decide +kernel)) (by decide +kernel)) (iv_c _ (a := (-8)) (b := (-8)) (by decide +kernel)) (by decide +kernel)) (iv_c _ (a := (-8)) (b := (-8)) (by decide +kernel)) (by decide +kernel)) (by decide +kernel)) (by decide)] at hG
                    refine lv_aload_n X.1 X.2.1 dX10_append_39 rfl (lv_at hl 2 rfl) ?_
                    refine lv_dup X.1 X.2.1 dX10_append_40 rfl ?_
                    refine gf_X10_1 X hK hG h0 wl_1_43 dX10_append_41 (fun f25 hf25 pf25 kf25 => ?_)
                    refine lv_iconst (v := 1) X.1 X.2.1 dX10_append_44 (by decide +kernel) ?_
                    refine lv_iadd X.1 X.2.1 dX10_append_45 ?_
                    refine lv_topi (fun f26 ef26 => ?_)
                    have nb24 := sg_nbpU ef2 ef3 (sg_kc (24) (iv_c 24 (a := 24) (b := 24) (by decide +kernel)) (by decide +kernel)) (by decide) c4
                    have nb16 := sg_nbpU ef7 ef8 (sg_kc (16) (iv_add (a' := 16) (b' := 16) ey5 (iv_c 24 (a := 24) (b := 24) (by decide +kernel)) (iv_c _ (a := (-8)) (b := (-8)) (by decide +kernel)) (by decide +kernel)) (by decide +kernel)) (by decide) c9
                    have nb8 := sg_nbpU ef12 ef13 (sg_kc (8) (iv_add (a' := 8) (b' := 8) ey10 (iv_add (a' := 16) (b' := 16) ey5 (iv_c 24 (a := 24) (b := 24) (by decide +kernel)) (iv_c _ (a := (-8)) (b := (-8)) (by decide +kernel)) (by decide +kernel)) (iv_c _ (a := (-8)) (b := (-8)) (by decide +kernel)) (by decide +kernel)) (by decide +kernel)) (by decide) c14
                    have nb0 := sg_nbqU ef17 ef18 (sg_kc (0) (iv_add (a' := 0) (b' := 0) ey15 (iv_add (a' := 8) (b' := 8) ey10 (iv_add (a' := 16) (b' := 16) ey5 (iv_c 24 (a := 24) (b := 24) (by decide +kernel)) (iv_c _ (a := (-8)) (b := (-8)) (by decide +kernel)) (by decide +kernel)) (iv_c _ (a := (-8)) (b := (-8)) (by decide +kernel)) (by decide +kernel)) (iv_c _ (a := (-8)) (b := (-8)) (by decide +kernel)) (by decide +kernel)) (by decide +kernel)) (by decide) c19
                    have nl24 := sg_nb1_le x1 24
                    have nl16 := sg_nb1_le x1 16
                    have nl8 := sg_nb1_le x1 8
                    have nl0 := sg_nb1_le x1 0
                    have hnb : sg_nb x1 = sg_nb1 x1 24 + sg_nb1 x1 16 + sg_nb1 x1 8 + sg_nb1 x1 0 := rfl
                    have hx46 : f25.toInt = (sgL1 P) := sgC240_eq (l := (sgL1 P)) pf25 (by omega) (by omega)
                    have hz46 : f26.toInt = (sgL1 P) + 1 := by rw [sg_inc (k := 1) ef26 hf25 (by decide +kernel), hx46]
                    have hy46 : iv 1 240 f26 := ⟨by omega, by omega⟩
                    refine pf_X10_1q X hK hG hS h0 wl_1_43 (iv_of hy46 (a' := 0) (b' := 240) (by decide +kernel)) dX10_append_46 (fun H locs hG hS => ?_)
                    have hl49 : f26.toInt = (sgL1 P) + 1 := by rw [sg_inc (k := 1) ef26 hf25 (by decide +kernel), sgC240_eq (l := (sgL1 P)) pf25 (by omega) (by omega)]
                    rw [hl49] at hG
                    obtain ⟨y27, ey27⟩ : ∃ y : Int32, y = y15 + Int32.ofInt (-8) := ⟨_, rfl⟩
                    refine lv_iinc (v := y27) (lv' := [(2, .int y27), (3, .int f18), (0, .ref a0), (1, .int x1)]) X.1 X.2.1 dX10_append_49 hl (k := 1) rfl ey27.symm (by decide) rfl (fun ls hl => ?_)
                    refine lv_goto (tgt := 3) X.1 X.2.1 dX10_append_52 (by decide) ?_
                    refine lv_iload_n X.1 X.2.1 dX10_append_3 rfl (lv_at hl 0 rfl) ?_
                    refine lv_if_lt (tgt := 55) X.1 X.2.1 dX10_append_4 (by decide) (fun c28 => ?_) (fun c28 => ?_)
                    · have hap : sgAp x1 (sgT1 P, sgL1 P) = ((sgUp (sgT1 P) ((sgL1 P)).toNat (sgB1 x1 0)), ((sgL1 P) + 1)) := by unfold sgAp; rw [sgA1_0 ef2 ef3 (sg_kc (24) (iv_c 24 (a := 24) (b := 24) (by decide +kernel)) (by decide +kernel)) (by decide) c4, sgA1_0 ef7 ef8 (sg_kc (16) (iv_add (a' := 16) (b' := 16) ey5 (iv_c 24 (a := 24) (b := 24) (by decide +kernel)) (iv_c _ (a := (-8)) (b := (-8)) (by decide +kernel)) (by decide +kernel)) (by decide +kernel)) (by decide) c9, sgA1_0 ef12 ef13 (sg_kc (8) (iv_add (a' := 8) (b' := 8) ey10 (iv_add (a' := 16) (b' := 16) ey5 (iv_c 24 (a := 24) (b := 24) (by decide +kernel)) (iv_c _ (a := (-8)) (b := (-8)) (by decide +kernel)) (by decide +kernel)) (iv_c _ (a := (-8)) (b := (-8)) (by decide +kernel)) (by decide +kernel)) (by decide +kernel)) (by decide) c14, sgA1_1 ef17 ef18 (sg_kc (0) (iv_add (a' := 0) (b' := 0) ey15 (iv_add (a' := 8) (b' := 8) ey10 (iv_add (a' := 16) (b' := 16) ey5 (iv_c 24 (a := 24) (b := 24) (by decide +kernel)) (iv_c _ (a := (-8)) (b := (-8)) (by decide +kernel)) (by decide +kernel)) (iv_c _ (a := (-8)) (b := (-8)) (by decide +kernel)) (by decide +kernel)) (iv_c _ (a := (-8)) (b := (-8)) (by decide +kernel)) (by decide +kernel)) (by decide +kernel)) (by decide) c19]
                      exact sg_vret2 X hr hlk hS (fun t ht hW => (by rw [hap]; exact sg_post hb hK hC hG hS ht hW)) dX10_append_55
                    · exact ((iv_no (iv_le (b' := (-8)) (iv_ge_of c28) (iv_c 0 (a := 0) (b := 0) (by decide +kernel)) (iv_add (a' := (-8)) (b' := (-8)) ey27 (iv_add (a' := 0) (b' := 0) ey15 (iv_add (a' := 8) (b' := 8) ey10 (iv_add (a' := 16) (b' := 16) ey5 (iv_c 24 (a := 24) (b := 24) (by decide +kernel)) (iv_c _ (a := (-8)) (b := (-8)) (by decide +kernel)) (by decide +kernel)) (iv_c _ (a := (-8)) (b := (-8)) (by decide +kernel)) (by decide +kernel)) (iv_c _ (a := (-8)) (b := (-8)) (by decide +kernel)) (by decide +kernel)) (iv_c _ (a := (-8)) (b := (-8)) (by decide +kernel)) (by decide +kernel)) (by decide +kernel)) (by decide +kernel))).elim
            · refine lv_aload_n X.1 X.2.1 dX10_append_19 rfl (lv_at hl 2 rfl) ?_
              refine gf_X10_1 X hK hG h0 wl_1_43 dX10_append_20 (fun f29 hf29 pf29 kf29 => ?_)
              refine lv_sipush (v := 240) X.1 X.2.1 dX10_append_23 (by decide +kernel) ?_
              have hG := sg_st hG
              have nb24 := sg_nbpU ef2 ef3 (sg_kc (24) (iv_c 24 (a := 24) (b := 24) (by decide +kernel)) (by decide +kernel)) (by decide) c4
              have nb16 := sg_nbpU ef7 ef8 (sg_kc (16) (iv_add (a' := 16) (b' := 16) ey5 (iv_c 24 (a := 24) (b := 24) (by decide +kernel)) (iv_c _ (a := (-8)) (b := (-8)) (by decide +kernel)) (by decide +kernel)) (by decide +kernel)) (by decide) c9
              have nb8 := sg_nbqU ef12 ef13 (sg_kc (8) (iv_add (a' := 8) (b' := 8) ey10 (iv_add (a' := 16) (b' := 16) ey5 (iv_c 24 (a := 24) (b := 24) (by decide +kernel)) (iv_c _ (a := (-8)) (b := (-8)) (by decide +kernel)) (by decide +kernel)) (iv_c _ (a := (-8)) (b := (-8)) (by decide +kernel)) (by decide +kernel)) (by decide +kernel)) (by decide) c14
              have nl24 := sg_nb1_le x1 24
              have nl16 := sg_nb1_le x1 16
              have nl8 := sg_nb1_le x1 8
              have nl0 := sg_nb1_le x1 0
              have hnb : sg_nb x1 = sg_nb1 x1 24 + sg_nb1 x1 16 + sg_nb1 x1 8 + sg_nb1 x1 0 := rfl
              have hx26 : f29.toInt = (sgL1 P) := sgC240_eq (l := (sgL1 P)) pf29 (by omega) (by omega)
              have hy26 : iv 0 239 f29 := ⟨by omega, by omega⟩
              refine lv_icmp_ge (tgt := 49) X.1 X.2.1 dX10_append_26 (by decide) (fun c30 => ?_) (fun c30 => ?_)
              · exact ((iv_no (iv_le (b' := 239) c30 (iv_c 240 (a := 240) (b := 240) (by decide +kernel)) hy26 (by decide +kernel)) (by decide +kernel))).elim
              · refine lv_aload_n X.1 X.2.1 dX10_append_29 rfl (lv_at hl 2 rfl) ?_
                refine gf_X10_0 X hK hG h0 wl_1_41 dX10_append_30 (fun q31 hq31 kq31 => ?_)
                refine lv_aload_n X.1 X.2.1 dX10_append_33 rfl (lv_at hl 2 rfl) ?_
                refine gg_X10_1 X hK hG h0 wl_1_43 kf29 dX10_append_34 ?_
                refine lv_iload_n X.1 X.2.1 dX10_append_37 rfl (lv_at hl 0 rfl) ?_
                refine as_42q X hK hG hS hq31 (iv_vpin hy26 (by decide +kernel)) dX10_append_38 (fun H locs hG hS => ?_)
                rw [sgC240_ix (l := (sgL1 P)) pf29 (by omega) (by omega), sgB1_of ef12 ef13 (sg_kc (8) (iv_add (a' := 8) (b' := 8) ey10 (iv_add (a' := 16) (b' := 16) ey5 (iv_c 24 (a := 24) (b := 24) (by decide +kernel)) (iv_c _ (a := (-8)) (b := (-8)) (by decide +kernel)) (by decide +kernel)) (iv_c _ (a := (-8)) (b := (-8)) (by decide +kernel)) (by decide +kernel)) (by decide +kernel)) (by decide)] at hG
                refine lv_aload_n X.1 X.2.1 dX10_append_39 rfl (lv_at hl 2 rfl) ?_
                refine lv_dup X.1 X.2.1 dX10_append_40 rfl ?_
                refine gf_X10_1 X hK hG h0 wl_1_43 dX10_append_41 (fun f32 hf32 pf32 kf32 => ?_)
                refine lv_iconst (v := 1) X.1 X.2.1 dX10_append_44 (by decide +kernel) ?_
                refine lv_iadd X.1 X.2.1 dX10_append_45 ?_
                refine lv_topi (fun f33 ef33 => ?_)
                have nb24 := sg_nbpU ef2 ef3 (sg_kc (24) (iv_c 24 (a := 24) (b := 24) (by decide +kernel)) (by decide +kernel)) (by decide) c4
                have nb16 := sg_nbpU ef7 ef8 (sg_kc (16) (iv_add (a' := 16) (b' := 16) ey5 (iv_c 24 (a := 24) (b := 24) (by decide +kernel)) (iv_c _ (a := (-8)) (b := (-8)) (by decide +kernel)) (by decide +kernel)) (by decide +kernel)) (by decide) c9
                have nb8 := sg_nbqU ef12 ef13 (sg_kc (8) (iv_add (a' := 8) (b' := 8) ey10 (iv_add (a' := 16) (b' := 16) ey5 (iv_c 24 (a := 24) (b := 24) (by decide +kernel)) (iv_c _ (a := (-8)) (b := (-8)) (by decide +kernel)) (by decide +kernel)) (iv_c _ (a := (-8)) (b := (-8)) (by decide +kernel)) (by decide +kernel)) (by decide +kernel)) (by decide) c14
                have nl24 := sg_nb1_le x1 24
                have nl16 := sg_nb1_le x1 16
                have nl8 := sg_nb1_le x1 8
                have nl0 := sg_nb1_le x1 0
                have hnb : sg_nb x1 = sg_nb1 x1 24 + sg_nb1 x1 16 + sg_nb1 x1 8 + sg_nb1 x1 0 := rfl
                have hx46 : f32.toInt = (sgL1 P) := sgC240_eq (l := (sgL1 P)) pf32 (by omega) (by omega)
                have hz46 : f33.toInt = (sgL1 P) + 1 := by rw [sg_inc (k := 1) ef33 hf32 (by decide +kernel), hx46]
                have hy46 : iv 1 240 f33 := ⟨by omega, by omega⟩
                refine pf_X10_1q X hK hG hS h0 wl_1_43 (iv_of hy46 (a' := 0) (b' := 240) (by decide +kernel)) dX10_append_46 (fun H locs hG hS => ?_)
                have hl49 : f33.toInt = (sgL1 P) + 1 := by rw [sg_inc (k := 1) ef33 hf32 (by decide +kernel), sgC240_eq (l := (sgL1 P)) pf32 (by omega) (by omega)]
                rw [hl49] at hG
                obtain ⟨y34, ey34⟩ : ∃ y : Int32, y = y10 + Int32.ofInt (-8) := ⟨_, rfl⟩
                refine lv_iinc (v := y34) (lv' := [(2, .int y34), (3, .int f13), (0, .ref a0), (1, .int x1)]) X.1 X.2.1 dX10_append_49 hl (k := 1) rfl ey34.symm (by decide) rfl (fun ls hl => ?_)
                refine lv_goto (tgt := 3) X.1 X.2.1 dX10_append_52 (by decide) ?_
                refine lv_iload_n X.1 X.2.1 dX10_append_3 rfl (lv_at hl 0 rfl) ?_
                refine lv_if_lt (tgt := 55) X.1 X.2.1 dX10_append_4 (by decide) (fun c35 => ?_) (fun c35 => ?_)
                · exact ((iv_no (iv_lt (b' := (-1)) c35 (iv_add (a' := 0) (b' := 0) ey34 (iv_add (a' := 8) (b' := 8) ey10 (iv_add (a' := 16) (b' := 16) ey5 (iv_c 24 (a := 24) (b := 24) (by decide +kernel)) (iv_c _ (a := (-8)) (b := (-8)) (by decide +kernel)) (by decide +kernel)) (iv_c _ (a := (-8)) (b := (-8)) (by decide +kernel)) (by decide +kernel)) (iv_c _ (a := (-8)) (b := (-8)) (by decide +kernel)) (by decide +kernel)) (iv_c 0 (a := 0) (b := 0) (by decide +kernel)) (by decide +kernel)) (by decide +kernel))).elim
                · refine lv_iload_n X.1 X.2.1 dX10_append_7 rfl (lv_at hl 3 rfl) ?_
                  refine lv_iload_n X.1 X.2.1 dX10_append_8 rfl (lv_at hl 0 rfl) ?_
                  obtain ⟨f36, ef36⟩ : ∃ y : Int32, y = (x1.toUInt32 >>> ((y34 : Int32).toUInt32 &&& Int32.toUInt32 31)).toInt32 := ⟨_, rfl⟩
                  refine lv_iushr (v := f36) X.1 X.2.1 dX10_append_9 ef36.symm ?_
                  refine lv_sipush (v := 255) X.1 X.2.1 dX10_append_10 (by decide +kernel) ?_
                  refine lv_iand X.1 X.2.1 dX10_append_13 ?_
                  refine lv_topi (fun f37 ef37 => ?_)
                  refine lv_istore_n (lv' := [(3, .int f37), (2, .int y34), (0, .ref a0), (1, .int x1)]) X.1 X.2.1 dX10_append_14 rfl hl (by decide) rfl (fun ls hl => ?_)
                  refine lv_iload_n X.1 X.2.1 dX10_append_15 rfl (lv_at hl 0 rfl) ?_
                  refine lv_if_eq (tgt := 49) X.1 X.2.1 dX10_append_16 (by decide) (fun c38 => ?_) (fun c38 => ?_)
                  · obtain ⟨y39, ey39⟩ : ∃ y : Int32, y = y34 + Int32.ofInt (-8) := ⟨_, rfl⟩
                    refine lv_iinc (v := y39) (lv' := [(2, .int y39), (3, .int f37), (0, .ref a0), (1, .int x1)]) X.1 X.2.1 dX10_append_49 hl (k := 1) rfl ey39.symm (by decide) rfl (fun ls hl => ?_)
                    refine lv_goto (tgt := 3) X.1 X.2.1 dX10_append_52 (by decide) ?_
                    refine lv_iload_n X.1 X.2.1 dX10_append_3 rfl (lv_at hl 0 rfl) ?_
                    refine lv_if_lt (tgt := 55) X.1 X.2.1 dX10_append_4 (by decide) (fun c40 => ?_) (fun c40 => ?_)
                    · have hap : sgAp x1 (sgT1 P, sgL1 P) = ((sgUp (sgT1 P) ((sgL1 P)).toNat (sgB1 x1 8)), ((sgL1 P) + 1)) := by unfold sgAp; rw [sgA1_0 ef2 ef3 (sg_kc (24) (iv_c 24 (a := 24) (b := 24) (by decide +kernel)) (by decide +kernel)) (by decide) c4, sgA1_0 ef7 ef8 (sg_kc (16) (iv_add (a' := 16) (b' := 16) ey5 (iv_c 24 (a := 24) (b := 24) (by decide +kernel)) (iv_c _ (a := (-8)) (b := (-8)) (by decide +kernel)) (by decide +kernel)) (by decide +kernel)) (by decide) c9, sgA1_1 ef12 ef13 (sg_kc (8) (iv_add (a' := 8) (b' := 8) ey10 (iv_add (a' := 16) (b' := 16) ey5 (iv_c 24 (a := 24) (b := 24) (by decide +kernel)) (iv_c _ (a := (-8)) (b := (-8)) (by decide +kernel)) (by decide +kernel)) (iv_c _ (a := (-8)) (b := (-8)) (by decide +kernel)) (by decide +kernel)) (by decide +kernel)) (by decide) c14, sgA1_0 ef36 ef37 (sg_kc (0) (iv_add (a' := 0) (b' := 0) ey34 (iv_add (a' := 8) (b' := 8) ey10 (iv_add (a' := 16) (b' := 16) ey5 (iv_c 24 (a := 24) (b := 24) (by decide +kernel)) (iv_c _ (a := (-8)) (b := (-8)) (by decide +kernel)) (by decide +kernel)) (iv_c _ (a := (-8)) (b := (-8)) (by decide +kernel)) (by decide +kernel)) (iv_c _ (a := (-8)) (b := (-8)) (by decide +kernel)) (by decide +kernel)) (by decide +kernel)) (by decide) c38]
                      exact sg_vret2 X hr hlk hS (fun t ht hW => (by rw [hap]; exact sg_post hb hK hC hG hS ht hW)) dX10_append_55
                    · exact ((iv_no (iv_le (b' := (-8)) (iv_ge_of c40) (iv_c 0 (a := 0) (b := 0) (by decide +kernel)) (iv_add (a' := (-8)) (b' := (-8)) ey39 (iv_add (a' := 0) (b' := 0) ey34 (iv_add (a' := 8) (b' := 8) ey10 (iv_add (a' := 16) (b' := 16) ey5 (iv_c 24 (a := 24) (b := 24) (by decide +kernel)) (iv_c _ (a := (-8)) (b := (-8)) (by decide +kernel)) (by decide +kernel)) (iv_c _ (a := (-8)) (b := (-8)) (by decide +kernel)) (by decide +kernel)) (iv_c _ (a := (-8)) (b := (-8)) (by decide +kernel)) (by decide +kernel)) (iv_c _ (a := (-8)) (b := (-8)) (by decide +kernel)) (by decide +kernel)) (by decide +kernel)) (by decide +kernel))).elim
                  · refine lv_aload_n X.1 X.2.1 dX10_append_19 rfl (lv_at hl 2 rfl) ?_
                    refine gf_X10_1 X hK hG h0 wl_1_43 dX10_append_20 (fun f41 hf41 pf41 kf41 => ?_)
                    refine lv_sipush (v := 240) X.1 X.2.1 dX10_append_23 (by decide +kernel) ?_
                    have nb24 := sg_nbpU ef2 ef3 (sg_kc (24) (iv_c 24 (a := 24) (b := 24) (by decide +kernel)) (by decide +kernel)) (by decide) c4
                    have nb16 := sg_nbpU ef7 ef8 (sg_kc (16) (iv_add (a' := 16) (b' := 16) ey5 (iv_c 24 (a := 24) (b := 24) (by decide +kernel)) (iv_c _ (a := (-8)) (b := (-8)) (by decide +kernel)) (by decide +kernel)) (by decide +kernel)) (by decide) c9
                    have nb8 := sg_nbqU ef12 ef13 (sg_kc (8) (iv_add (a' := 8) (b' := 8) ey10 (iv_add (a' := 16) (b' := 16) ey5 (iv_c 24 (a := 24) (b := 24) (by decide +kernel)) (iv_c _ (a := (-8)) (b := (-8)) (by decide +kernel)) (by decide +kernel)) (iv_c _ (a := (-8)) (b := (-8)) (by decide +kernel)) (by decide +kernel)) (by decide +kernel)) (by decide) c14
                    have nb0 := sg_nbqU ef36 ef37 (sg_kc (0) (iv_add (a' := 0) (b' := 0) ey34 (iv_add (a' := 8) (b' := 8) ey10 (iv_add (a' := 16) (b' := 16) ey5 (iv_c 24 (a := 24) (b := 24) (by decide +kernel)) (iv_c _ (a := (-8)) (b := (-8)) (by decide +kernel)) (by decide +kernel)) (iv_c _ (a := (-8)) (b := (-8)) (by decide +kernel)) (by decide +kernel)) (iv_c _ (a := (-8)) (b := (-8)) (by decide +kernel)) (by decide +kernel)) (by decide +kernel)) (by decide) c38
                    have nl24 := sg_nb1_le x1 24
                    have nl16 := sg_nb1_le x1 16
                    have nl8 := sg_nb1_le x1 8
                    have nl0 := sg_nb1_le x1 0
                    have hnb : sg_nb x1 = sg_nb1 x1 24 + sg_nb1 x1 16 + sg_nb1 x1 8 + sg_nb1 x1 0 := rfl
                    have hx26 : f41.toInt = ((sgL1 P) + 1) := sgC240_eq (l := ((sgL1 P) + 1)) pf41 (by omega) (by omega)
                    have hy26 : iv 0 239 f41 := ⟨by omega, by omega⟩
                    refine lv_icmp_ge (tgt := 49) X.1 X.2.1 dX10_append_26 (by decide) (fun c42 => ?_) (fun c42 => ?_)
                    · exact ((iv_no (iv_le (b' := 239) c42 (iv_c 240 (a := 240) (b := 240) (by decide +kernel)) hy26 (by decide +kernel)) (by decide +kernel))).elim
                    · refine lv_aload_n X.1 X.2.1 dX10_append_29 rfl (lv_at hl 2 rfl) ?_
                      refine gf_X10_0 X hK hG h0 wl_1_41 dX10_append_30 (fun q43 hq43 kq43 => ?_)
                      refine lv_aload_n X.1 X.2.1 dX10_append_33 rfl (lv_at hl 2 rfl) ?_
                      refine gg_X10_1 X hK hG h0 wl_1_43 kf41 dX10_append_34 ?_
                      refine lv_iload_n X.1 X.2.1 dX10_append_37 rfl (lv_at hl 0 rfl) ?_
                      refine as_42q X hK hG hS hq43 (iv_vpin hy26 (by decide +kernel)) dX10_append_38 (fun H locs hG hS => ?_)
                      rw [sgC240_ix (l := ((sgL1 P) + 1)) pf41 (by omega) (by omega), sgB1_of ef36 ef37 (sg_kc (0) (iv_add (a' := 0) (b' := 0) ey34 (iv_add (a' := 8) (b' := 8) ey10 (iv_add (a' := 16) (b' := 16) ey5 (iv_c 24 (a := 24) (b := 24) (by decide +kernel)) (iv_c _ (a := (-8)) (b := (-8)) (by decide +kernel)) (by decide +kernel)) (iv_c _ (a := (-8)) (b := (-8)) (by decide +kernel)) (by decide +kernel)) (iv_c _ (a := (-8)) (b := (-8)) (by decide +kernel)) (by decide +kernel)) (by decide +kernel)) (by decide)] at hG
                      refine lv_aload_n X.1 X.2.1 dX10_append_39 rfl (lv_at hl 2 rfl) ?_
                      refine lv_dup X.1 X.2.1 dX10_append_40 rfl ?_
                      refine gf_X10_1 X hK hG h0 wl_1_43 dX10_append_41 (fun f44 hf44 pf44 kf44 => ?_)
                      refine lv_iconst (v := 1) X.1 X.2.1 dX10_append_44 (by decide +kernel) ?_
                      refine lv_iadd X.1 X.2.1 dX10_append_45 ?_
                      refine lv_topi (fun f45 ef45 => ?_)
                      have nb24 := sg_nbpU ef2 ef3 (sg_kc (24) (iv_c 24 (a := 24) (b := 24) (by decide +kernel)) (by decide +kernel)) (by decide) c4
                      have nb16 := sg_nbpU ef7 ef8 (sg_kc (16) (iv_add (a' := 16) (b' := 16) ey5 (iv_c 24 (a := 24) (b := 24) (by decide +kernel)) (iv_c _ (a := (-8)) (b := (-8)) (by decide +kernel)) (by decide +kernel)) (by decide +kernel)) (by decide) c9
                      have nb8 := sg_nbqU ef12 ef13 (sg_kc (8) (iv_add (a' := 8) (b' := 8) ey10 (iv_add (a' := 16) (b' := 16) ey5 (iv_c 24 (a := 24) (b := 24) (by decide +kernel)) (iv_c _ (a := (-8)) (b := (-8)) (by decide +kernel)) (by decide +kernel)) (iv_c _ (a := (-8)) (b := (-8)) (by decide +kernel)) (by decide +kernel)) (by decide +kernel)) (by decide) c14
                      have nb0 := sg_nbqU ef36 ef37 (sg_kc (0) (iv_add (a' := 0) (b' := 0) ey34 (iv_add (a' := 8) (b' := 8) ey10 (iv_add (a' := 16) (b' := 16) ey5 (iv_c 24 (a := 24) (b := 24) (by decide +kernel)) (iv_c _ (a := (-8)) (b := (-8)) (by decide +kernel)) (by decide +kernel)) (iv_c _ (a := (-8)) (b := (-8)) (by decide +kernel)) (by decide +kernel)) (iv_c _ (a := (-8)) (b := (-8)) (by decide +kernel)) (by decide +kernel)) (by decide +kernel)) (by decide) c38
                      have nl24 := sg_nb1_le x1 24
                      have nl16 := sg_nb1_le x1 16
                      have nl8 := sg_nb1_le x1 8
                      have nl0 := sg_nb1_le x1 0
                      have hnb : sg_nb x1 = sg_nb1 x1 24 + sg_nb1 x1 16 + sg_nb1 x1 8 + sg_nb1 x1 0 := rfl
                      have hx46 : f44.toInt = ((sgL1 P) + 1) := sgC240_eq (l := ((sgL1 P) + 1)) pf44 (by omega) (by omega)
                      have hz46 : f45.toInt = ((sgL1 P) + 1) + 1 := by rw [sg_inc (k := 1) ef45 hf44 (by decide +kernel), hx46]
                      have hy46 : iv 1 240 f45 := ⟨by omega, by omega⟩
                      refine pf_X10_1q X hK hG hS h0 wl_1_43 (iv_of hy46 (a' := 0) (b' := 240) (by decide +kernel)) dX10_append_46 (fun H locs hG hS => ?_)
                      have hl49 : f45.toInt = ((sgL1 P) + 1) + 1 := by rw [sg_inc (k := 1) ef45 hf44 (by decide +kernel), sgC240_eq (l := ((sgL1 P) + 1)) pf44 (by omega) (by omega)]
                      rw [hl49] at hG
                      obtain ⟨y46, ey46⟩ : ∃ y : Int32, y = y34 + Int32.ofInt (-8) := ⟨_, rfl⟩
                      refine lv_iinc (v := y46) (lv' := [(2, .int y46), (3, .int f37), (0, .ref a0), (1, .int x1)]) X.1 X.2.1 dX10_append_49 hl (k := 1) rfl ey46.symm (by decide) rfl (fun ls hl => ?_)
                      refine lv_goto (tgt := 3) X.1 X.2.1 dX10_append_52 (by decide) ?_
                      refine lv_iload_n X.1 X.2.1 dX10_append_3 rfl (lv_at hl 0 rfl) ?_
                      refine lv_if_lt (tgt := 55) X.1 X.2.1 dX10_append_4 (by decide) (fun c47 => ?_) (fun c47 => ?_)
                      · have hap : sgAp x1 (sgT1 P, sgL1 P) = ((sgUp (sgUp (sgT1 P) ((sgL1 P)).toNat (sgB1 x1 8)) (((sgL1 P) + 1)).toNat (sgB1 x1 0)), (((sgL1 P) + 1) + 1)) := by unfold sgAp; rw [sgA1_0 ef2 ef3 (sg_kc (24) (iv_c 24 (a := 24) (b := 24) (by decide +kernel)) (by decide +kernel)) (by decide) c4, sgA1_0 ef7 ef8 (sg_kc (16) (iv_add (a' := 16) (b' := 16) ey5 (iv_c 24 (a := 24) (b := 24) (by decide +kernel)) (iv_c _ (a := (-8)) (b := (-8)) (by decide +kernel)) (by decide +kernel)) (by decide +kernel)) (by decide) c9, sgA1_1 ef12 ef13 (sg_kc (8) (iv_add (a' := 8) (b' := 8) ey10 (iv_add (a' := 16) (b' := 16) ey5 (iv_c 24 (a := 24) (b := 24) (by decide +kernel)) (iv_c _ (a := (-8)) (b := (-8)) (by decide +kernel)) (by decide +kernel)) (iv_c _ (a := (-8)) (b := (-8)) (by decide +kernel)) (by decide +kernel)) (by decide +kernel)) (by decide) c14, sgA1_1 ef36 ef37 (sg_kc (0) (iv_add (a' := 0) (b' := 0) ey34 (iv_add (a' := 8) (b' := 8) ey10 (iv_add (a' := 16) (b' := 16) ey5 (iv_c 24 (a := 24) (b := 24) (by decide +kernel)) (iv_c _ (a := (-8)) (b := (-8)) (by decide +kernel)) (by decide +kernel)) (iv_c _ (a := (-8)) (b := (-8)) (by decide +kernel)) (by decide +kernel)) (iv_c _ (a := (-8)) (b := (-8)) (by decide +kernel)) (by decide +kernel)) (by decide +kernel)) (by decide) c38]
                        exact sg_vret2 X hr hlk hS (fun t ht hW => (by rw [hap]; exact sg_post hb hK hC hG hS ht hW)) dX10_append_55
                      · exact ((iv_no (iv_le (b' := (-8)) (iv_ge_of c47) (iv_c 0 (a := 0) (b := 0) (by decide +kernel)) (iv_add (a' := (-8)) (b' := (-8)) ey46 (iv_add (a' := 0) (b' := 0) ey34 (iv_add (a' := 8) (b' := 8) ey10 (iv_add (a' := 16) (b' := 16) ey5 (iv_c 24 (a := 24) (b := 24) (by decide +kernel)) (iv_c _ (a := (-8)) (b := (-8)) (by decide +kernel)) (by decide +kernel)) (iv_c _ (a := (-8)) (b := (-8)) (by decide +kernel)) (by decide +kernel)) (iv_c _ (a := (-8)) (b := (-8)) (by decide +kernel)) (by decide +kernel)) (iv_c _ (a := (-8)) (b := (-8)) (by decide +kernel)) (by decide +kernel)) (by decide +kernel)) (by decide +kernel))).elim
        · refine lv_aload_n X.1 X.2.1 dX10_append_19 rfl (lv_at hl 2 rfl) ?_
          refine gf_X10_1 X hK hG h0 wl_1_43 dX10_append_20 (fun f48 hf48 pf48 kf48 => ?_)
          refine lv_sipush (v := 240) X.1 X.2.1 dX10_append_23 (by decide +kernel) ?_
          have hG := sg_st hG
          have nb24 := sg_nbpU ef2 ef3 (sg_kc (24) (iv_c 24 (a := 24) (b := 24) (by decide +kernel)) (by decide +kernel)) (by decide) c4
          have nb16 := sg_nbqU ef7 ef8 (sg_kc (16) (iv_add (a' := 16) (b' := 16) ey5 (iv_c 24 (a := 24) (b := 24) (by decide +kernel)) (iv_c _ (a := (-8)) (b := (-8)) (by decide +kernel)) (by decide +kernel)) (by decide +kernel)) (by decide) c9
          have nl24 := sg_nb1_le x1 24
          have nl16 := sg_nb1_le x1 16
          have nl8 := sg_nb1_le x1 8
          have nl0 := sg_nb1_le x1 0
          have hnb : sg_nb x1 = sg_nb1 x1 24 + sg_nb1 x1 16 + sg_nb1 x1 8 + sg_nb1 x1 0 := rfl
          have hx26 : f48.toInt = (sgL1 P) := sgC240_eq (l := (sgL1 P)) pf48 (by omega) (by omega)
          have hy26 : iv 0 239 f48 := ⟨by omega, by omega⟩
          refine lv_icmp_ge (tgt := 49) X.1 X.2.1 dX10_append_26 (by decide) (fun c49 => ?_) (fun c49 => ?_)
          · exact ((iv_no (iv_le (b' := 239) c49 (iv_c 240 (a := 240) (b := 240) (by decide +kernel)) hy26 (by decide +kernel)) (by decide +kernel))).elim
          · refine lv_aload_n X.1 X.2.1 dX10_append_29 rfl (lv_at hl 2 rfl) ?_
            refine gf_X10_0 X hK hG h0 wl_1_41 dX10_append_30 (fun q50 hq50 kq50 => ?_)
            refine lv_aload_n X.1 X.2.1 dX10_append_33 rfl (lv_at hl 2 rfl) ?_
            refine gg_X10_1 X hK hG h0 wl_1_43 kf48 dX10_append_34 ?_
            refine lv_iload_n X.1 X.2.1 dX10_append_37 rfl (lv_at hl 0 rfl) ?_
            refine as_42q X hK hG hS hq50 (iv_vpin hy26 (by decide +kernel)) dX10_append_38 (fun H locs hG hS => ?_)
            rw [sgC240_ix (l := (sgL1 P)) pf48 (by omega) (by omega), sgB1_of ef7 ef8 (sg_kc (16) (iv_add (a' := 16) (b' := 16) ey5 (iv_c 24 (a := 24) (b := 24) (by decide +kernel)) (iv_c _ (a := (-8)) (b := (-8)) (by decide +kernel)) (by decide +kernel)) (by decide +kernel)) (by decide)] at hG
            refine lv_aload_n X.1 X.2.1 dX10_append_39 rfl (lv_at hl 2 rfl) ?_
            refine lv_dup X.1 X.2.1 dX10_append_40 rfl ?_
            refine gf_X10_1 X hK hG h0 wl_1_43 dX10_append_41 (fun f51 hf51 pf51 kf51 => ?_)
            refine lv_iconst (v := 1) X.1 X.2.1 dX10_append_44 (by decide +kernel) ?_
            refine lv_iadd X.1 X.2.1 dX10_append_45 ?_
            refine lv_topi (fun f52 ef52 => ?_)
            have nb24 := sg_nbpU ef2 ef3 (sg_kc (24) (iv_c 24 (a := 24) (b := 24) (by decide +kernel)) (by decide +kernel)) (by decide) c4
            have nb16 := sg_nbqU ef7 ef8 (sg_kc (16) (iv_add (a' := 16) (b' := 16) ey5 (iv_c 24 (a := 24) (b := 24) (by decide +kernel)) (iv_c _ (a := (-8)) (b := (-8)) (by decide +kernel)) (by decide +kernel)) (by decide +kernel)) (by decide) c9
            have nl24 := sg_nb1_le x1 24
            have nl16 := sg_nb1_le x1 16
            have nl8 := sg_nb1_le x1 8
            have nl0 := sg_nb1_le x1 0
            have hnb : sg_nb x1 = sg_nb1 x1 24 + sg_nb1 x1 16 + sg_nb1 x1 8 + sg_nb1 x1 0 := rfl
            have hx46 : f51.toInt = (sgL1 P) := sgC240_eq (l := (sgL1 P)) pf51 (by omega) (by omega)
            have hz46 : f52.toInt = (sgL1 P) + 1 := by rw [sg_inc (k := 1) ef52 hf51 (by decide +kernel), hx46]
            have hy46 : iv 1 240 f52 := ⟨by omega, by omega⟩
            refine pf_X10_1q X hK hG hS h0 wl_1_43 (iv_of hy46 (a' := 0) (b' := 240) (by decide +kernel)) dX10_append_46 (fun H locs hG hS => ?_)
            have hl49 : f52.toInt = (sgL1 P) + 1 := by rw [sg_inc (k := 1) ef52 hf51 (by decide +kernel), sgC240_eq (l := (sgL1 P)) pf51 (by omega) (by omega)]
            rw [hl49] at hG
            obtain ⟨y53, ey53⟩ : ∃ y : Int32, y = y5 + Int32.ofInt (-8) := ⟨_, rfl⟩
            refine lv_iinc (v := y53) (lv' := [(2, .int y53), (3, .int f8), (0, .ref a0), (1, .int x1)]) X.1 X.2.1 dX10_append_49 hl (k := 1) rfl ey53.symm (by decide) rfl (fun ls hl => ?_)
            refine lv_goto (tgt := 3) X.1 X.2.1 dX10_append_52 (by decide) ?_
            refine lv_iload_n X.1 X.2.1 dX10_append_3 rfl (lv_at hl 0 rfl) ?_
            refine lv_if_lt (tgt := 55) X.1 X.2.1 dX10_append_4 (by decide) (fun c54 => ?_) (fun c54 => ?_)
            · exact ((iv_no (iv_lt (b' := (-1)) c54 (iv_add (a' := 8) (b' := 8) ey53 (iv_add (a' := 16) (b' := 16) ey5 (iv_c 24 (a := 24) (b := 24) (by decide +kernel)) (iv_c _ (a := (-8)) (b := (-8)) (by decide +kernel)) (by decide +kernel)) (iv_c _ (a := (-8)) (b := (-8)) (by decide +kernel)) (by decide +kernel)) (iv_c 0 (a := 0) (b := 0) (by decide +kernel)) (by decide +kernel)) (by decide +kernel))).elim
            · refine lv_iload_n X.1 X.2.1 dX10_append_7 rfl (lv_at hl 3 rfl) ?_
              refine lv_iload_n X.1 X.2.1 dX10_append_8 rfl (lv_at hl 0 rfl) ?_
              obtain ⟨f55, ef55⟩ : ∃ y : Int32, y = (x1.toUInt32 >>> ((y53 : Int32).toUInt32 &&& Int32.toUInt32 31)).toInt32 := ⟨_, rfl⟩
              refine lv_iushr (v := f55) X.1 X.2.1 dX10_append_9 ef55.symm ?_
              refine lv_sipush (v := 255) X.1 X.2.1 dX10_append_10 (by decide +kernel) ?_
              refine lv_iand X.1 X.2.1 dX10_append_13 ?_
              refine lv_topi (fun f56 ef56 => ?_)
              refine lv_istore_n (lv' := [(3, .int f56), (2, .int y53), (0, .ref a0), (1, .int x1)]) X.1 X.2.1 dX10_append_14 rfl hl (by decide) rfl (fun ls hl => ?_)
              refine lv_iload_n X.1 X.2.1 dX10_append_15 rfl (lv_at hl 0 rfl) ?_
              refine lv_if_eq (tgt := 49) X.1 X.2.1 dX10_append_16 (by decide) (fun c57 => ?_) (fun c57 => ?_)
              · obtain ⟨y58, ey58⟩ : ∃ y : Int32, y = y53 + Int32.ofInt (-8) := ⟨_, rfl⟩
                refine lv_iinc (v := y58) (lv' := [(2, .int y58), (3, .int f56), (0, .ref a0), (1, .int x1)]) X.1 X.2.1 dX10_append_49 hl (k := 1) rfl ey58.symm (by decide) rfl (fun ls hl => ?_)
                refine lv_goto (tgt := 3) X.1 X.2.1 dX10_append_52 (by decide) ?_
                refine lv_iload_n X.1 X.2.1 dX10_append_3 rfl (lv_at hl 0 rfl) ?_
                refine lv_if_lt (tgt := 55) X.1 X.2.1 dX10_append_4 (by decide) (fun c59 => ?_) (fun c59 => ?_)
                · exact ((iv_no (iv_lt (b' := (-1)) c59 (iv_add (a' := 0) (b' := 0) ey58 (iv_add (a' := 8) (b' := 8) ey53 (iv_add (a' := 16) (b' := 16) ey5 (iv_c 24 (a := 24) (b := 24) (by decide +kernel)) (iv_c _ (a := (-8)) (b := (-8)) (by decide +kernel)) (by decide +kernel)) (iv_c _ (a := (-8)) (b := (-8)) (by decide +kernel)) (by decide +kernel)) (iv_c _ (a := (-8)) (b := (-8)) (by decide +kernel)) (by decide +kernel)) (iv_c 0 (a := 0) (b := 0) (by decide +kernel)) (by decide +kernel)) (by decide +kernel))).elim
                · refine lv_iload_n X.1 X.2.1 dX10_append_7 rfl (lv_at hl 3 rfl) ?_
                  refine lv_iload_n X.1 X.2.1 dX10_append_8 rfl (lv_at hl 0 rfl) ?_
                  obtain ⟨f60, ef60⟩ : ∃ y : Int32, y = (x1.toUInt32 >>> ((y58 : Int32).toUInt32 &&& Int32.toUInt32 31)).toInt32 := ⟨_, rfl⟩
                  refine lv_iushr (v := f60) X.1 X.2.1 dX10_append_9 ef60.symm ?_
                  refine lv_sipush (v := 255) X.1 X.2.1 dX10_append_10 (by decide +kernel) ?_
                  refine lv_iand X.1 X.2.1 dX10_append_13 ?_
                  refine lv_topi (fun f61 ef61 => ?_)
                  refine lv_istore_n (lv' := [(3, .int f61), (2, .int y58), (0, .ref a0), (1, .int x1)]) X.1 X.2.1 dX10_append_14 rfl hl (by decide) rfl (fun ls hl => ?_)
                  refine lv_iload_n X.1 X.2.1 dX10_append_15 rfl (lv_at hl 0 rfl) ?_
                  refine lv_if_eq (tgt := 49) X.1 X.2.1 dX10_append_16 (by decide) (fun c62 => ?_) (fun c62 => ?_)
                  · obtain ⟨y63, ey63⟩ : ∃ y : Int32, y = y58 + Int32.ofInt (-8) := ⟨_, rfl⟩
                    refine lv_iinc (v := y63) (lv' := [(2, .int y63), (3, .int f61), (0, .ref a0), (1, .int x1)]) X.1 X.2.1 dX10_append_49 hl (k := 1) rfl ey63.symm (by decide) rfl (fun ls hl => ?_)
                    refine lv_goto (tgt := 3) X.1 X.2.1 dX10_append_52 (by decide) ?_
                    refine lv_iload_n X.1 X.2.1 dX10_append_3 rfl (lv_at hl 0 rfl) ?_
                    refine lv_if_lt (tgt := 55) X.1 X.2.1 dX10_append_4 (by decide) (fun c64 => ?_) (fun c64 => ?_)
                    · have hap : sgAp x1 (sgT1 P, sgL1 P) = ((sgUp (sgT1 P) ((sgL1 P)).toNat (sgB1 x1 16)), ((sgL1 P) + 1)) := by unfold sgAp; rw [sgA1_0 ef2 ef3 (sg_kc (24) (iv_c 24 (a := 24) (b := 24) (by decide +kernel)) (by decide +kernel)) (by decide) c4, sgA1_1 ef7 ef8 (sg_kc (16) (iv_add (a' := 16) (b' := 16) ey5 (iv_c 24 (a := 24) (b := 24) (by decide +kernel)) (iv_c _ (a := (-8)) (b := (-8)) (by decide +kernel)) (by decide +kernel)) (by decide +kernel)) (by decide) c9, sgA1_0 ef55 ef56 (sg_kc (8) (iv_add (a' := 8) (b' := 8) ey53 (iv_add (a' := 16) (b' := 16) ey5 (iv_c 24 (a := 24) (b := 24) (by decide +kernel)) (iv_c _ (a := (-8)) (b := (-8)) (by decide +kernel)) (by decide +kernel)) (iv_c _ (a := (-8)) (b := (-8)) (by decide +kernel)) (by decide +kernel)) (by decide +kernel)) (by decide) c57, sgA1_0 ef60 ef61 (sg_kc (0) (iv_add (a' := 0) (b' := 0) ey58 (iv_add (a' := 8) (b' := 8) ey53 (iv_add (a' := 16) (b' := 16) ey5 (iv_c 24 (a := 24) (b := 24) (by decide +kernel)) (iv_c _ (a := (-8)) (b := (-8)) (by decide +kernel)) (by decide +kernel)) (iv_c _ (a := (-8)) (b := (-8)) (by decide +kernel)) (by decide +kernel)) (iv_c _ (a := (-8)) (b := (-8)) (by decide +kernel)) (by decide +kernel)) (by decide +kernel)) (by decide) c62]
                      exact sg_vret2 X hr hlk hS (fun t ht hW => (by rw [hap]; exact sg_post hb hK hC hG hS ht hW)) dX10_append_55
                    · exact ((iv_no (iv_le (b' := (-8)) (iv_ge_of c64) (iv_c 0 (a := 0) (b := 0) (by decide +kernel)) (iv_add (a' := (-8)) (b' := (-8)) ey63 (iv_add (a' := 0) (b' := 0) ey58 (iv_add (a' := 8) (b' := 8) ey53 (iv_add (a' := 16) (b' := 16) ey5 (iv_c 24 (a := 24) (b := 24) (by decide +kernel)) (iv_c _ (a := (-8)) (b := (-8)) (by decide +kernel)) (by decide +kernel)) (iv_c _ (a := (-8)) (b := (-8)) (by decide +kernel)) (by decide +kernel)) (iv_c _ (a := (-8)) (b := (-8)) (by decide +kernel)) (by decide +kernel)) (iv_c _ (a := (-8)) (b := (-8)) (by decide +kernel)) (by decide +kernel)) (by decide +kernel)) (by decide +kernel))).elim
                  · refine lv_aload_n X.1 X.2.1 dX10_append_19 rfl (lv_at hl 2 rfl) ?_
                    refine gf_X10_1 X hK hG h0 wl_1_43 dX10_append_20 (fun f65 hf65 pf65 kf65 => ?_)
                    refine lv_sipush (v := 240) X.1 X.2.1 dX10_append_23 (by decide +kernel) ?_
                    have nb24 := sg_nbpU ef2 ef3 (sg_kc (24) (iv_c 24 (a := 24) (b := 24) (by decide +kernel)) (by decide +kernel)) (by decide) c4
                    have nb16 := sg_nbqU ef7 ef8 (sg_kc (16) (iv_add (a' := 16) (b' := 16) ey5 (iv_c 24 (a := 24) (b := 24) (by decide +kernel)) (iv_c _ (a := (-8)) (b := (-8)) (by decide +kernel)) (by decide +kernel)) (by decide +kernel)) (by decide) c9
                    have nb8 := sg_nbpU ef55 ef56 (sg_kc (8) (iv_add (a' := 8) (b' := 8) ey53 (iv_add (a' := 16) (b' := 16) ey5 (iv_c 24 (a := 24) (b := 24) (by decide +kernel)) (iv_c _ (a := (-8)) (b := (-8)) (by decide +kernel)) (by decide +kernel)) (iv_c _ (a := (-8)) (b := (-8)) (by decide +kernel)) (by decide +kernel)) (by decide +kernel)) (by decide) c57
                    have nb0 := sg_nbqU ef60 ef61 (sg_kc (0) (iv_add (a' := 0) (b' := 0) ey58 (iv_add (a' := 8) (b' := 8) ey53 (iv_add (a' := 16) (b' := 16) ey5 (iv_c 24 (a := 24) (b := 24) (by decide +kernel)) (iv_c _ (a := (-8)) (b := (-8)) (by decide +kernel)) (by decide +kernel)) (iv_c _ (a := (-8)) (b := (-8)) (by decide +kernel)) (by decide +kernel)) (iv_c _ (a := (-8)) (b := (-8)) (by decide +kernel)) (by decide +kernel)) (by decide +kernel)) (by decide) c62
                    have nl24 := sg_nb1_le x1 24
                    have nl16 := sg_nb1_le x1 16
                    have nl8 := sg_nb1_le x1 8
                    have nl0 := sg_nb1_le x1 0
                    have hnb : sg_nb x1 = sg_nb1 x1 24 + sg_nb1 x1 16 + sg_nb1 x1 8 + sg_nb1 x1 0 := rfl
                    have hx26 : f65.toInt = ((sgL1 P) + 1) := sgC240_eq (l := ((sgL1 P) + 1)) pf65 (by omega) (by omega)
                    have hy26 : iv 0 239 f65 := ⟨by omega, by omega⟩
                    refine lv_icmp_ge (tgt := 49) X.1 X.2.1 dX10_append_26 (by decide) (fun c66 => ?_) (fun c66 => ?_)
                    · exact ((iv_no (iv_le (b' := 239) c66 (iv_c 240 (a := 240) (b := 240) (by decide +kernel)) hy26 (by decide +kernel)) (by decide +kernel))).elim
                    · refine lv_aload_n X.1 X.2.1 dX10_append_29 rfl (lv_at hl 2 rfl) ?_
                      refine gf_X10_0 X hK hG h0 wl_1_41 dX10_append_30 (fun q67 hq67 kq67 => ?_)
                      refine lv_aload_n X.1 X.2.1 dX10_append_33 rfl (lv_at hl 2 rfl) ?_
                      refine gg_X10_1 X hK hG h0 wl_1_43 kf65 dX10_append_34 ?_
                      refine lv_iload_n X.1 X.2.1 dX10_append_37 rfl (lv_at hl 0 rfl) ?_
                      refine as_42q X hK hG hS hq67 (iv_vpin hy26 (by decide +kernel)) dX10_append_38 (fun H locs hG hS => ?_)
                      rw [sgC240_ix (l := ((sgL1 P) + 1)) pf65 (by omega) (by omega), sgB1_of ef60 ef61 (sg_kc (0) (iv_add (a' := 0) (b' := 0) ey58 (iv_add (a' := 8) (b' := 8) ey53 (iv_add (a' := 16) (b' := 16) ey5 (iv_c 24 (a := 24) (b := 24) (by decide +kernel)) (iv_c _ (a := (-8)) (b := (-8)) (by decide +kernel)) (by decide +kernel)) (iv_c _ (a := (-8)) (b := (-8)) (by decide +kernel)) (by decide +kernel)) (iv_c _ (a := (-8)) (b := (-8)) (by decide +kernel)) (by decide +kernel)) (by decide +kernel)) (by decide)] at hG
                      refine lv_aload_n X.1 X.2.1 dX10_append_39 rfl (lv_at hl 2 rfl) ?_
                      refine lv_dup X.1 X.2.1 dX10_append_40 rfl ?_
                      refine gf_X10_1 X hK hG h0 wl_1_43 dX10_append_41 (fun f68 hf68 pf68 kf68 => ?_)
                      refine lv_iconst (v := 1) X.1 X.2.1 dX10_append_44 (by decide +kernel) ?_
                      refine lv_iadd X.1 X.2.1 dX10_append_45 ?_
                      refine lv_topi (fun f69 ef69 => ?_)
                      have nb24 := sg_nbpU ef2 ef3 (sg_kc (24) (iv_c 24 (a := 24) (b := 24) (by decide +kernel)) (by decide +kernel)) (by decide) c4
                      have nb16 := sg_nbqU ef7 ef8 (sg_kc (16) (iv_add (a' := 16) (b' := 16) ey5 (iv_c 24 (a := 24) (b := 24) (by decide +kernel)) (iv_c _ (a := (-8)) (b := (-8)) (by decide +kernel)) (by decide +kernel)) (by decide +kernel)) (by decide) c9
                      have nb8 := sg_nbpU ef55 ef56 (sg_kc (8) (iv_add (a' := 8) (b' := 8) ey53 (iv_add (a' := 16) (b' := 16) ey5 (iv_c 24 (a := 24) (b := 24) (by decide +kernel)) (iv_c _ (a := (-8)) (b := (-8)) (by decide +kernel)) (by decide +kernel)) (iv_c _ (a := (-8)) (b := (-8)) (by decide +kernel)) (by decide +kernel)) (by decide +kernel)) (by decide) c57
                      have nb0 := sg_nbqU ef60 ef61 (sg_kc (0) (iv_add (a' := 0) (b' := 0) ey58 (iv_add (a' := 8) (b' := 8) ey53 (iv_add (a' := 16) (b' := 16) ey5 (iv_c 24 (a := 24) (b := 24) (by decide +kernel)) (iv_c _ (a := (-8)) (b := (-8)) (by decide +kernel)) (by decide +kernel)) (iv_c _ (a := (-8)) (b := (-8)) (by decide +kernel)) (by decide +kernel)) (iv_c _ (a := (-8)) (b := (-8)) (by decide +kernel)) (by decide +kernel)) (by decide +kernel)) (by decide) c62
                      have nl24 := sg_nb1_le x1 24
                      have nl16 := sg_nb1_le x1 16
                      have nl8 := sg_nb1_le x1 8
                      have nl0 := sg_nb1_le x1 0
                      have hnb : sg_nb x1 = sg_nb1 x1 24 + sg_nb1 x1 16 + sg_nb1 x1 8 + sg_nb1 x1 0 := rfl
                      have hx46 : f68.toInt = ((sgL1 P) + 1) := sgC240_eq (l := ((sgL1 P) + 1)) pf68 (by omega) (by omega)
                      have hz46 : f69.toInt = ((sgL1 P) + 1) + 1 := by rw [sg_inc (k := 1) ef69 hf68 (by decide +kernel), hx46]
                      have hy46 : iv 1 240 f69 := ⟨by omega, by omega⟩
                      refine pf_X10_1q X hK hG hS h0 wl_1_43 (iv_of hy46 (a' := 0) (b' := 240) (by decide +kernel)) dX10_append_46 (fun H locs hG hS => ?_)
                      have hl49 : f69.toInt = ((sgL1 P) + 1) + 1 := by rw [sg_inc (k := 1) ef69 hf68 (by decide +kernel), sgC240_eq (l := ((sgL1 P) + 1)) pf68 (by omega) (by omega)]
                      rw [hl49] at hG
                      obtain ⟨y70, ey70⟩ : ∃ y : Int32, y = y58 + Int32.ofInt (-8) := ⟨_, rfl⟩
                      refine lv_iinc (v := y70) (lv' := [(2, .int y70), (3, .int f61), (0, .ref a0), (1, .int x1)]) X.1 X.2.1 dX10_append_49 hl (k := 1) rfl ey70.symm (by decide) rfl (fun ls hl => ?_)
                      refine lv_goto (tgt := 3) X.1 X.2.1 dX10_append_52 (by decide) ?_
                      refine lv_iload_n X.1 X.2.1 dX10_append_3 rfl (lv_at hl 0 rfl) ?_
                      refine lv_if_lt (tgt := 55) X.1 X.2.1 dX10_append_4 (by decide) (fun c71 => ?_) (fun c71 => ?_)
                      · have hap : sgAp x1 (sgT1 P, sgL1 P) = ((sgUp (sgUp (sgT1 P) ((sgL1 P)).toNat (sgB1 x1 16)) (((sgL1 P) + 1)).toNat (sgB1 x1 0)), (((sgL1 P) + 1) + 1)) := by unfold sgAp; rw [sgA1_0 ef2 ef3 (sg_kc (24) (iv_c 24 (a := 24) (b := 24) (by decide +kernel)) (by decide +kernel)) (by decide) c4, sgA1_1 ef7 ef8 (sg_kc (16) (iv_add (a' := 16) (b' := 16) ey5 (iv_c 24 (a := 24) (b := 24) (by decide +kernel)) (iv_c _ (a := (-8)) (b := (-8)) (by decide +kernel)) (by decide +kernel)) (by decide +kernel)) (by decide) c9, sgA1_0 ef55 ef56 (sg_kc (8) (iv_add (a' := 8) (b' := 8) ey53 (iv_add (a' := 16) (b' := 16) ey5 (iv_c 24 (a := 24) (b := 24) (by decide +kernel)) (iv_c _ (a := (-8)) (b := (-8)) (by decide +kernel)) (by decide +kernel)) (iv_c _ (a := (-8)) (b := (-8)) (by decide +kernel)) (by decide +kernel)) (by decide +kernel)) (by decide) c57, sgA1_1 ef60 ef61 (sg_kc (0) (iv_add (a' := 0) (b' := 0) ey58 (iv_add (a' := 8) (b' := 8) ey53 (iv_add (a' := 16) (b' := 16) ey5 (iv_c 24 (a := 24) (b := 24) (by decide +kernel)) (iv_c _ (a := (-8)) (b := (-8)) (by decide +kernel)) (by decide +kernel)) (iv_c _ (a := (-8)) (b := (-8)) (by decide +kernel)) (by decide +kernel)) (iv_c _ (a := (-8)) (b := (-8)) (by decide +kernel)) (by decide +kernel)) (by decide +kernel)) (by decide) c62]
                        exact sg_vret2 X hr hlk hS (fun t ht hW => (by rw [hap]; exact sg_post hb hK hC hG hS ht hW)) dX10_append_55
                      · exact ((iv_no (iv_le (b' := (-8)) (iv_ge_of c71) (iv_c 0 (a := 0) (b := 0) (by decide +kernel)) (iv_add (a' := (-8)) (b' := (-8)) ey70 (iv_add (a' := 0) (b' := 0) ey58 (iv_add (a' := 8) (b' := 8) ey53 (iv_add (a' := 16) (b' := 16) ey5 (iv_c 24 (a := 24) (b := 24) (by decide +kernel)) (iv_c _ (a := (-8)) (b := (-8)) (by decide +kernel)) (by decide +kernel)) (iv_c _ (a := (-8)) (b := (-8)) (by decide +kernel)) (by decide +kernel)) (iv_c _ (a := (-8)) (b := (-8)) (by decide +kernel)) (by decide +kernel)) (iv_c _ (a := (-8)) (b := (-8)) (by decide +kernel)) (by decide +kernel)) (by decide +kernel)) (by decide +kernel))).elim
              · refine lv_aload_n X.1 X.2.1 dX10_append_19 rfl (lv_at hl 2 rfl) ?_
                refine gf_X10_1 X hK hG h0 wl_1_43 dX10_append_20 (fun f72 hf72 pf72 kf72 => ?_)
                refine lv_sipush (v := 240) X.1 X.2.1 dX10_append_23 (by decide +kernel) ?_
                have nb24 := sg_nbpU ef2 ef3 (sg_kc (24) (iv_c 24 (a := 24) (b := 24) (by decide +kernel)) (by decide +kernel)) (by decide) c4
                have nb16 := sg_nbqU ef7 ef8 (sg_kc (16) (iv_add (a' := 16) (b' := 16) ey5 (iv_c 24 (a := 24) (b := 24) (by decide +kernel)) (iv_c _ (a := (-8)) (b := (-8)) (by decide +kernel)) (by decide +kernel)) (by decide +kernel)) (by decide) c9
                have nb8 := sg_nbqU ef55 ef56 (sg_kc (8) (iv_add (a' := 8) (b' := 8) ey53 (iv_add (a' := 16) (b' := 16) ey5 (iv_c 24 (a := 24) (b := 24) (by decide +kernel)) (iv_c _ (a := (-8)) (b := (-8)) (by decide +kernel)) (by decide +kernel)) (iv_c _ (a := (-8)) (b := (-8)) (by decide +kernel)) (by decide +kernel)) (by decide +kernel)) (by decide) c57
                have nl24 := sg_nb1_le x1 24
                have nl16 := sg_nb1_le x1 16
                have nl8 := sg_nb1_le x1 8
                have nl0 := sg_nb1_le x1 0
                have hnb : sg_nb x1 = sg_nb1 x1 24 + sg_nb1 x1 16 + sg_nb1 x1 8 + sg_nb1 x1 0 := rfl
                have hx26 : f72.toInt = ((sgL1 P) + 1) := sgC240_eq (l := ((sgL1 P) + 1)) pf72 (by omega) (by omega)
                have hy26 : iv 0 239 f72 := ⟨by omega, by omega⟩
                refine lv_icmp_ge (tgt := 49) X.1 X.2.1 dX10_append_26 (by decide) (fun c73 => ?_) (fun c73 => ?_)
                · exact ((iv_no (iv_le (b' := 239) c73 (iv_c 240 (a := 240) (b := 240) (by decide +kernel)) hy26 (by decide +kernel)) (by decide +kernel))).elim
                · refine lv_aload_n X.1 X.2.1 dX10_append_29 rfl (lv_at hl 2 rfl) ?_
                  refine gf_X10_0 X hK hG h0 wl_1_41 dX10_append_30 (fun q74 hq74 kq74 => ?_)
                  refine lv_aload_n X.1 X.2.1 dX10_append_33 rfl (lv_at hl 2 rfl) ?_
                  refine gg_X10_1 X hK hG h0 wl_1_43 kf72 dX10_append_34 ?_
                  refine lv_iload_n X.1 X.2.1 dX10_append_37 rfl (lv_at hl 0 rfl) ?_
                  refine as_42q X hK hG hS hq74 (iv_vpin hy26 (by decide +kernel)) dX10_append_38 (fun H locs hG hS => ?_)
                  rw [sgC240_ix (l := ((sgL1 P) + 1)) pf72 (by omega) (by omega), sgB1_of ef55 ef56 (sg_kc (8) (iv_add (a' := 8) (b' := 8) ey53 (iv_add (a' := 16) (b' := 16) ey5 (iv_c 24 (a := 24) (b := 24) (by decide +kernel)) (iv_c _ (a := (-8)) (b := (-8)) (by decide +kernel)) (by decide +kernel)) (iv_c _ (a := (-8)) (b := (-8)) (by decide +kernel)) (by decide +kernel)) (by decide +kernel)) (by decide)] at hG
                  refine lv_aload_n X.1 X.2.1 dX10_append_39 rfl (lv_at hl 2 rfl) ?_
                  refine lv_dup X.1 X.2.1 dX10_append_40 rfl ?_
                  refine gf_X10_1 X hK hG h0 wl_1_43 dX10_append_41 (fun f75 hf75 pf75 kf75 => ?_)
                  refine lv_iconst (v := 1) X.1 X.2.1 dX10_append_44 (by decide +kernel) ?_
                  refine lv_iadd X.1 X.2.1 dX10_append_45 ?_
                  refine lv_topi (fun f76 ef76 => ?_)
                  have nb24 := sg_nbpU ef2 ef3 (sg_kc (24) (iv_c 24 (a := 24) (b := 24) (by decide +kernel)) (by decide +kernel)) (by decide) c4
                  have nb16 := sg_nbqU ef7 ef8 (sg_kc (16) (iv_add (a' := 16) (b' := 16) ey5 (iv_c 24 (a := 24) (b := 24) (by decide +kernel)) (iv_c _ (a := (-8)) (b := (-8)) (by decide +kernel)) (by decide +kernel)) (by decide +kernel)) (by decide) c9
                  have nb8 := sg_nbqU ef55 ef56 (sg_kc (8) (iv_add (a' := 8) (b' := 8) ey53 (iv_add (a' := 16) (b' := 16) ey5 (iv_c 24 (a := 24) (b := 24) (by decide +kernel)) (iv_c _ (a := (-8)) (b := (-8)) (by decide +kernel)) (by decide +kernel)) (iv_c _ (a := (-8)) (b := (-8)) (by decide +kernel)) (by decide +kernel)) (by decide +kernel)) (by decide) c57
                  have nl24 := sg_nb1_le x1 24
                  have nl16 := sg_nb1_le x1 16
                  have nl8 := sg_nb1_le x1 8
                  have nl0 := sg_nb1_le x1 0
                  have hnb : sg_nb x1 = sg_nb1 x1 24 + sg_nb1 x1 16 + sg_nb1 x1 8 + sg_nb1 x1 0 := rfl
                  have hx46 : f75.toInt = ((sgL1 P) + 1) := sgC240_eq (l := ((sgL1 P) + 1)) pf75 (by omega) (by omega)
                  have hz46 : f76.toInt = ((sgL1 P) + 1) + 1 := by rw [sg_inc (k := 1) ef76 hf75 (by decide +kernel), hx46]
                  have hy46 : iv 1 240 f76 := ⟨by omega, by omega⟩
                  refine pf_X10_1q X hK hG hS h0 wl_1_43 (iv_of hy46 (a' := 0) (b' := 240) (by decide +kernel)) dX10_append_46 (fun H locs hG hS => ?_)
                  have hl49 : f76.toInt = ((sgL1 P) + 1) + 1 := by rw [sg_inc (k := 1) ef76 hf75 (by decide +kernel), sgC240_eq (l := ((sgL1 P) + 1)) pf75 (by omega) (by omega)]
                  rw [hl49] at hG
                  obtain ⟨y77, ey77⟩ : ∃ y : Int32, y = y53 + Int32.ofInt (-8) := ⟨_, rfl⟩
                  refine lv_iinc (v := y77) (lv' := [(2, .int y77), (3, .int f56), (0, .ref a0), (1, .int x1)]) X.1 X.2.1 dX10_append_49 hl (k := 1) rfl ey77.symm (by decide) rfl (fun ls hl => ?_)
                  refine lv_goto (tgt := 3) X.1 X.2.1 dX10_append_52 (by decide) ?_
                  refine lv_iload_n X.1 X.2.1 dX10_append_3 rfl (lv_at hl 0 rfl) ?_
                  refine lv_if_lt (tgt := 55) X.1 X.2.1 dX10_append_4 (by decide) (fun c78 => ?_) (fun c78 => ?_)
                  · exact ((iv_no (iv_lt (b' := (-1)) c78 (iv_add (a' := 0) (b' := 0) ey77 (iv_add (a' := 8) (b' := 8) ey53 (iv_add (a' := 16) (b' := 16) ey5 (iv_c 24 (a := 24) (b := 24) (by decide +kernel)) (iv_c _ (a := (-8)) (b := (-8)) (by decide +kernel)) (by decide +kernel)) (iv_c _ (a := (-8)) (b := (-8)) (by decide +kernel)) (by decide +kernel)) (iv_c _ (a := (-8)) (b := (-8)) (by decide +kernel)) (by decide +kernel)) (iv_c 0 (a := 0) (b := 0) (by decide +kernel)) (by decide +kernel)) (by decide +kernel))).elim
                  · refine lv_iload_n X.1 X.2.1 dX10_append_7 rfl (lv_at hl 3 rfl) ?_
                    refine lv_iload_n X.1 X.2.1 dX10_append_8 rfl (lv_at hl 0 rfl) ?_
                    obtain ⟨f79, ef79⟩ : ∃ y : Int32, y = (x1.toUInt32 >>> ((y77 : Int32).toUInt32 &&& Int32.toUInt32 31)).toInt32 := ⟨_, rfl⟩
                    refine lv_iushr (v := f79) X.1 X.2.1 dX10_append_9 ef79.symm ?_
                    refine lv_sipush (v := 255) X.1 X.2.1 dX10_append_10 (by decide +kernel) ?_
                    refine lv_iand X.1 X.2.1 dX10_append_13 ?_
                    refine lv_topi (fun f80 ef80 => ?_)
                    refine lv_istore_n (lv' := [(3, .int f80), (2, .int y77), (0, .ref a0), (1, .int x1)]) X.1 X.2.1 dX10_append_14 rfl hl (by decide) rfl (fun ls hl => ?_)
                    refine lv_iload_n X.1 X.2.1 dX10_append_15 rfl (lv_at hl 0 rfl) ?_
                    refine lv_if_eq (tgt := 49) X.1 X.2.1 dX10_append_16 (by decide) (fun c81 => ?_) (fun c81 => ?_)
                    · obtain ⟨y82, ey82⟩ : ∃ y : Int32, y = y77 + Int32.ofInt (-8) := ⟨_, rfl⟩
                      refine lv_iinc (v := y82) (lv' := [(2, .int y82), (3, .int f80), (0, .ref a0), (1, .int x1)]) X.1 X.2.1 dX10_append_49 hl (k := 1) rfl ey82.symm (by decide) rfl (fun ls hl => ?_)
                      refine lv_goto (tgt := 3) X.1 X.2.1 dX10_append_52 (by decide) ?_
                      refine lv_iload_n X.1 X.2.1 dX10_append_3 rfl (lv_at hl 0 rfl) ?_
                      refine lv_if_lt (tgt := 55) X.1 X.2.1 dX10_append_4 (by decide) (fun c83 => ?_) (fun c83 => ?_)
                      · have hap : sgAp x1 (sgT1 P, sgL1 P) = ((sgUp (sgUp (sgT1 P) ((sgL1 P)).toNat (sgB1 x1 16)) (((sgL1 P) + 1)).toNat (sgB1 x1 8)), (((sgL1 P) + 1) + 1)) := by unfold sgAp; rw [sgA1_0 ef2 ef3 (sg_kc (24) (iv_c 24 (a := 24) (b := 24) (by decide +kernel)) (by decide +kernel)) (by decide) c4, sgA1_1 ef7 ef8 (sg_kc (16) (iv_add (a' := 16) (b' := 16) ey5 (iv_c 24 (a := 24) (b := 24) (by decide +kernel)) (iv_c _ (a := (-8)) (b := (-8)) (by decide +kernel)) (by decide +kernel)) (by decide +kernel)) (by decide) c9, sgA1_1 ef55 ef56 (sg_kc (8) (iv_add (a' := 8) (b' := 8) ey53 (iv_add (a' := 16) (b' := 16) ey5 (iv_c 24 (a := 24) (b := 24) (by decide +kernel)) (iv_c _ (a := (-8)) (b := (-8)) (by decide +kernel)) (by decide +kernel)) (iv_c _ (a := (-8)) (b := (-8)) (by decide +kernel)) (by decide +kernel)) (by decide +kernel)) (by decide) c57, sgA1_0 ef79 ef80 (sg_kc (0) (iv_add (a' := 0) (b' := 0) ey77 (iv_add (a' := 8) (b' := 8) ey53 (iv_add (a' := 16) (b' := 16) ey5 (iv_c 24 (a := 24) (b := 24) (by decide +kernel)) (iv_c _ (a := (-8)) (b := (-8)) (by decide +kernel)) (by decide +kernel)) (iv_c _ (a := (-8)) (b := (-8)) (by decide +kernel)) (by decide +kernel)) (iv_c _ (a := (-8)) (b := (-8)) (by decide +kernel)) (by decide +kernel)) (by decide +kernel)) (by decide) c81]
                        exact sg_vret2 X hr hlk hS (fun t ht hW => (by rw [hap]; exact sg_post hb hK hC hG hS ht hW)) dX10_append_55
                      · exact ((iv_no (iv_le (b' := (-8)) (iv_ge_of c83) (iv_c 0 (a := 0) (b := 0) (by decide +kernel)) (iv_add (a' := (-8)) (b' := (-8)) ey82 (iv_add (a' := 0) (b' := 0) ey77 (iv_add (a' := 8) (b' := 8) ey53 (iv_add (a' := 16) (b' := 16) ey5 (iv_c 24 (a := 24) (b := 24) (by decide +kernel)) (iv_c _ (a := (-8)) (b := (-8)) (by decide +kernel)) (by decide +kernel)) (iv_c _ (a := (-8)) (b := (-8)) (by decide +kernel)) (by decide +kernel)) (iv_c _ (a := (-8)) (b := (-8)) (by decide +kernel)) (by decide +kernel)) (iv_c _ (a := (-8)) (b := (-8)) (by decide +kernel)) (by decide +kernel)) (by decide +kernel)) (by decide +kernel))).elim
                    · refine lv_aload_n X.1 X.2.1 dX10_append_19 rfl (lv_at hl 2 rfl) ?_
                      refine gf_X10_1 X hK hG h0 wl_1_43 dX10_append_20 (fun f84 hf84 pf84 kf84 => ?_)
                      refine lv_sipush (v := 240) X.1 X.2.1 dX10_append_23 (by decide +kernel) ?_
                      have nb24 := sg_nbpU ef2 ef3 (sg_kc (24) (iv_c 24 (a := 24) (b := 24) (by decide +kernel)) (by decide +kernel)) (by decide) c4
                      have nb16 := sg_nbqU ef7 ef8 (sg_kc (16) (iv_add (a' := 16) (b' := 16) ey5 (iv_c 24 (a := 24) (b := 24) (by decide +kernel)) (iv_c _ (a := (-8)) (b := (-8)) (by decide +kernel)) (by decide +kernel)) (by decide +kernel)) (by decide) c9
                      have nb8 := sg_nbqU ef55 ef56 (sg_kc (8) (iv_add (a' := 8) (b' := 8) ey53 (iv_add (a' := 16) (b' := 16) ey5 (iv_c 24 (a := 24) (b := 24) (by decide +kernel)) (iv_c _ (a := (-8)) (b := (-8)) (by decide +kernel)) (by decide +kernel)) (iv_c _ (a := (-8)) (b := (-8)) (by decide +kernel)) (by decide +kernel)) (by decide +kernel)) (by decide) c57
                      have nb0 := sg_nbqU ef79 ef80 (sg_kc (0) (iv_add (a' := 0) (b' := 0) ey77 (iv_add (a' := 8) (b' := 8) ey53 (iv_add (a' := 16) (b' := 16) ey5 (iv_c 24 (a := 24) (b := 24) (by decide +kernel)) (iv_c _ (a := (-8)) (b := (-8)) (by decide +kernel)) (by decide +kernel)) (iv_c _ (a := (-8)) (b := (-8)) (by decide +kernel)) (by decide +kernel)) (iv_c _ (a := (-8)) (b := (-8)) (by decide +kernel)) (by decide +kernel)) (by decide +kernel)) (by decide) c81
                      have nl24 := sg_nb1_le x1 24
                      have nl16 := sg_nb1_le x1 16
                      have nl8 := sg_nb1_le x1 8
                      have nl0 := sg_nb1_le x1 0
                      have hnb : sg_nb x1 = sg_nb1 x1 24 + sg_nb1 x1 16 + sg_nb1 x1 8 + sg_nb1 x1 0 := rfl
                      have hx26 : f84.toInt = (((sgL1 P) + 1) + 1) := sgC240_eq (l := (((sgL1 P) + 1) + 1)) pf84 (by omega) (by omega)
                      have hy26 : iv 0 239 f84 := ⟨by omega, by omega⟩
                      refine lv_icmp_ge (tgt := 49) X.1 X.2.1 dX10_append_26 (by decide) (fun c85 => ?_) (fun c85 => ?_)
                      · exact ((iv_no (iv_le (b' := 239) c85 (iv_c 240 (a := 240) (b := 240) (by decide +kernel)) hy26 (by decide +kernel)) (by decide +kernel))).elim
                      · refine lv_aload_n X.1 X.2.1 dX10_append_29 rfl (lv_at hl 2 rfl) ?_
                        refine gf_X10_0 X hK hG h0 wl_1_41 dX10_append_30 (fun q86 hq86 kq86 => ?_)
                        refine lv_aload_n X.1 X.2.1 dX10_append_33 rfl (lv_at hl 2 rfl) ?_
                        refine gg_X10_1 X hK hG h0 wl_1_43 kf84 dX10_append_34 ?_
                        refine lv_iload_n X.1 X.2.1 dX10_append_37 rfl (lv_at hl 0 rfl) ?_
                        refine as_42q X hK hG hS hq86 (iv_vpin hy26 (by decide +kernel)) dX10_append_38 (fun H locs hG hS => ?_)
                        rw [sgC240_ix (l := (((sgL1 P) + 1) + 1)) pf84 (by omega) (by omega), sgB1_of ef79 ef80 (sg_kc (0) (iv_add (a' := 0) (b' := 0) ey77 (iv_add (a' := 8) (b' := 8) ey53 (iv_add (a' := 16) (b' := 16) ey5 (iv_c 24 (a := 24) (b := 24) (by decide +kernel)) (iv_c _ (a := (-8)) (b := (-8)) (by decide +kernel)) (by decide +kernel)) (iv_c _ (a := (-8)) (b := (-8)) (by decide +kernel)) (by decide +kernel)) (iv_c _ (a := (-8)) (b := (-8)) (by decide +kernel)) (by decide +kernel)) (by decide +kernel)) (by decide)] at hG
                        refine lv_aload_n X.1 X.2.1 dX10_append_39 rfl (lv_at hl 2 rfl) ?_
                        refine lv_dup X.1 X.2.1 dX10_append_40 rfl ?_
                        refine gf_X10_1 X hK hG h0 wl_1_43 dX10_append_41 (fun f87 hf87 pf87 kf87 => ?_)
                        refine lv_iconst (v := 1) X.1 X.2.1 dX10_append_44 (by decide +kernel) ?_
                        refine lv_iadd X.1 X.2.1 dX10_append_45 ?_
                        refine lv_topi (fun f88 ef88 => ?_)
                        have nb24 := sg_nbpU ef2 ef3 (sg_kc (24) (iv_c 24 (a := 24) (b := 24) (by decide +kernel)) (by decide +kernel)) (by decide) c4
                        have nb16 := sg_nbqU ef7 ef8 (sg_kc (16) (iv_add (a' := 16) (b' := 16) ey5 (iv_c 24 (a := 24) (b := 24) (by decide +kernel)) (iv_c _ (a := (-8)) (b := (-8)) (by decide +kernel)) (by decide +kernel)) (by decide +kernel)) (by decide) c9
                        have nb8 := sg_nbqU ef55 ef56 (sg_kc (8) (iv_add (a' := 8) (b' := 8) ey53 (iv_add (a' := 16) (b' := 16) ey5 (iv_c 24 (a := 24) (b := 24) (by decide +kernel)) (iv_c _ (a := (-8)) (b := (-8)) (by decide +kernel)) (by decide +kernel)) (iv_c _ (a := (-8)) (b := (-8)) (by decide +kernel)) (by decide +kernel)) (by decide +kernel)) (by decide) c57
                        have nb0 := sg_nbqU ef79 ef80 (sg_kc (0) (iv_add (a' := 0) (b' := 0) ey77 (iv_add (a' := 8) (b' := 8) ey53 (iv_add (a' := 16) (b' := 16) ey5 (iv_c 24 (a := 24) (b := 24) (by decide +kernel)) (iv_c _ (a := (-8)) (b := (-8)) (by decide +kernel)) (by decide +kernel)) (iv_c _ (a := (-8)) (b := (-8)) (by decide +kernel)) (by decide +kernel)) (iv_c _ (a := (-8)) (b := (-8)) (by decide +kernel)) (by decide +kernel)) (by decide +kernel)) (by decide) c81
                        have nl24 := sg_nb1_le x1 24
                        have nl16 := sg_nb1_le x1 16
                        have nl8 := sg_nb1_le x1 8
                        have nl0 := sg_nb1_le x1 0
                        have hnb : sg_nb x1 = sg_nb1 x1 24 + sg_nb1 x1 16 + sg_nb1 x1 8 + sg_nb1 x1 0 := rfl
                        have hx46 : f87.toInt = (((sgL1 P) + 1) + 1) := sgC240_eq (l := (((sgL1 P) + 1) + 1)) pf87 (by omega) (by omega)
                        have hz46 : f88.toInt = (((sgL1 P) + 1) + 1) + 1 := by rw [sg_inc (k := 1) ef88 hf87 (by decide +kernel), hx46]
                        have hy46 : iv 1 240 f88 := ⟨by omega, by omega⟩
                        refine pf_X10_1q X hK hG hS h0 wl_1_43 (iv_of hy46 (a' := 0) (b' := 240) (by decide +kernel)) dX10_append_46 (fun H locs hG hS => ?_)
                        have hl49 : f88.toInt = (((sgL1 P) + 1) + 1) + 1 := by rw [sg_inc (k := 1) ef88 hf87 (by decide +kernel), sgC240_eq (l := (((sgL1 P) + 1) + 1)) pf87 (by omega) (by omega)]
                        rw [hl49] at hG
                        obtain ⟨y89, ey89⟩ : ∃ y : Int32, y = y77 + Int32.ofInt (-8) := ⟨_, rfl⟩
                        refine lv_iinc (v := y89) (lv' := [(2, .int y89), (3, .int f80), (0, .ref a0), (1, .int x1)]) X.1 X.2.1 dX10_append_49 hl (k := 1) rfl ey89.symm (by decide) rfl (fun ls hl => ?_)
                        refine lv_goto (tgt := 3) X.1 X.2.1 dX10_append_52 (by decide) ?_
                        refine lv_iload_n X.1 X.2.1 dX10_append_3 rfl (lv_at hl 0 rfl) ?_
                        refine lv_if_lt (tgt := 55) X.1 X.2.1 dX10_append_4 (by decide) (fun c90 => ?_) (fun c90 => ?_)
                        · have hap : sgAp x1 (sgT1 P, sgL1 P) = ((sgUp (sgUp (sgUp (sgT1 P) ((sgL1 P)).toNat (sgB1 x1 16)) (((sgL1 P) + 1)).toNat (sgB1 x1 8)) ((((sgL1 P) + 1) + 1)).toNat (sgB1 x1 0)), ((((sgL1 P) + 1) + 1) + 1)) := by unfold sgAp; rw [sgA1_0 ef2 ef3 (sg_kc (24) (iv_c 24 (a := 24) (b := 24) (by decide +kernel)) (by decide +kernel)) (by decide) c4, sgA1_1 ef7 ef8 (sg_kc (16) (iv_add (a' := 16) (b' := 16) ey5 (iv_c 24 (a := 24) (b := 24) (by decide +kernel)) (iv_c _ (a := (-8)) (b := (-8)) (by decide +kernel)) (by decide +kernel)) (by decide +kernel)) (by decide) c9, sgA1_1 ef55 ef56 (sg_kc (8) (iv_add (a' := 8) (b' := 8) ey53 (iv_add (a' := 16) (b' := 16) ey5 (iv_c 24 (a := 24) (b := 24) (by decide +kernel)) (iv_c _ (a := (-8)) (b := (-8)) (by decide +kernel)) (by decide +kernel)) (iv_c _ (a := (-8)) (b := (-8)) (by decide +kernel)) (by decide +kernel)) (by decide +kernel)) (by decide) c57, sgA1_1 ef79 ef80 (sg_kc (0) (iv_add (a' := 0) (b' := 0) ey77 (iv_add (a' := 8) (b' := 8) ey53 (iv_add (a' := 16) (b' := 16) ey5 (iv_c 24 (a := 24) (b := 24) (by decide +kernel)) (iv_c _ (a := (-8)) (b := (-8)) (by decide +kernel)) (by decide +kernel)) (iv_c _ (a := (-8)) (b := (-8)) (by decide +kernel)) (by decide +kernel)) (iv_c _ (a := (-8)) (b := (-8)) (by decide +kernel)) (by decide +kernel)) (by decide +kernel)) (by decide) c81]
                          exact sg_vret2 X hr hlk hS (fun t ht hW => (by rw [hap]; exact sg_post hb hK hC hG hS ht hW)) dX10_append_55
                        · exact ((iv_no (iv_le (b' := (-8)) (iv_ge_of c90) (iv_c 0 (a := 0) (b := 0) (by decide +kernel)) (iv_add (a' := (-8)) (b' := (-8)) ey89 (iv_add (a' := 0) (b' := 0) ey77 (iv_add (a' := 8) (b' := 8) ey53 (iv_add (a' := 16) (b' := 16) ey5 (iv_c 24 (a := 24) (b := 24) (by decide +kernel)) (iv_c _ (a := (-8)) (b := (-8)) (by decide +kernel)) (by decide +kernel)) (iv_c _ (a := (-8)) (b := (-8)) (by decide +kernel)) (by decide +kernel)) (iv_c _ (a := (-8)) (b := (-8)) (by decide +kernel)) (by decide +kernel)) (iv_c _ (a := (-8)) (b := (-8)) (by decide +kernel)) (by decide +kernel)) (by decide +kernel)) (by decide +kernel))).elim
    · refine lv_aload_n X.1 X.2.1 dX10_append_19 rfl (lv_at hl 2 rfl) ?_
      refine gf_X10_1 X hK hG h0 wl_1_43 dX10_append_20 (fun f91 hf91 pf91 kf91 => ?_)
      refine lv_sipush (v := 240) X.1 X.2.1 dX10_append_23 (by decide +kernel) ?_
      have hG := sg_st hG
      have nb24 := sg_nbqU ef2 ef3 (sg_kc (24) (iv_c 24 (a := 24) (b := 24) (by decide +kernel)) (by decide +kernel)) (by decide) c4
      have nl24 := sg_nb1_le x1 24
      have nl16 := sg_nb1_le x1 16
      have nl8 := sg_nb1_le x1 8
      have nl0 := sg_nb1_le x1 0
      have hnb : sg_nb x1 = sg_nb1 x1 24 + sg_nb1 x1 16 + sg_nb1 x1 8 + sg_nb1 x1 0 := rfl
      have hx26 : f91.toInt = (sgL1 P) := sgC240_eq (l := (sgL1 P)) pf91 (by omega) (by omega)
      have hy26 : iv 0 239 f91 := ⟨by omega, by omega⟩
      refine lv_icmp_ge (tgt := 49) X.1 X.2.1 dX10_append_26 (by decide) (fun c92 => ?_) (fun c92 => ?_)
      · exact ((iv_no (iv_le (b' := 239) c92 (iv_c 240 (a := 240) (b := 240) (by decide +kernel)) hy26 (by decide +kernel)) (by decide +kernel))).elim
      · refine lv_aload_n X.1 X.2.1 dX10_append_29 rfl (lv_at hl 2 rfl) ?_
        refine gf_X10_0 X hK hG h0 wl_1_41 dX10_append_30 (fun q93 hq93 kq93 => ?_)
        refine lv_aload_n X.1 X.2.1 dX10_append_33 rfl (lv_at hl 2 rfl) ?_
        refine gg_X10_1 X hK hG h0 wl_1_43 kf91 dX10_append_34 ?_
        refine lv_iload_n X.1 X.2.1 dX10_append_37 rfl (lv_at hl 0 rfl) ?_
        refine as_42q X hK hG hS hq93 (iv_vpin hy26 (by decide +kernel)) dX10_append_38 (fun H locs hG hS => ?_)
        rw [sgC240_ix (l := (sgL1 P)) pf91 (by omega) (by omega), sgB1_of ef2 ef3 (sg_kc (24) (iv_c 24 (a := 24) (b := 24) (by decide +kernel)) (by decide +kernel)) (by decide)] at hG
        refine lv_aload_n X.1 X.2.1 dX10_append_39 rfl (lv_at hl 2 rfl) ?_
        refine lv_dup X.1 X.2.1 dX10_append_40 rfl ?_
        refine gf_X10_1 X hK hG h0 wl_1_43 dX10_append_41 (fun f94 hf94 pf94 kf94 => ?_)
        refine lv_iconst (v := 1) X.1 X.2.1 dX10_append_44 (by decide +kernel) ?_
        refine lv_iadd X.1 X.2.1 dX10_append_45 ?_
        refine lv_topi (fun f95 ef95 => ?_)
        have nb24 := sg_nbqU ef2 ef3 (sg_kc (24) (iv_c 24 (a := 24) (b := 24) (by decide +kernel)) (by decide +kernel)) (by decide) c4
        have nl24 := sg_nb1_le x1 24
        have nl16 := sg_nb1_le x1 16
        have nl8 := sg_nb1_le x1 8
        have nl0 := sg_nb1_le x1 0
        have hnb : sg_nb x1 = sg_nb1 x1 24 + sg_nb1 x1 16 + sg_nb1 x1 8 + sg_nb1 x1 0 := rfl
        have hx46 : f94.toInt = (sgL1 P) := sgC240_eq (l := (sgL1 P)) pf94 (by omega) (by omega)
        have hz46 : f95.toInt = (sgL1 P) + 1 := by rw [sg_inc (k := 1) ef95 hf94 (by decide +kernel), hx46]
        have hy46 : iv 1 240 f95 := ⟨by omega, by omega⟩
        refine pf_X10_1q X hK hG hS h0 wl_1_43 (iv_of hy46 (a' := 0) (b' := 240) (by decide +kernel)) dX10_append_46 (fun H locs hG hS => ?_)
        have hl49 : f95.toInt = (sgL1 P) + 1 := by rw [sg_inc (k := 1) ef95 hf94 (by decide +kernel), sgC240_eq (l := (sgL1 P)) pf94 (by omega) (by omega)]
        rw [hl49] at hG
        obtain ⟨y96, ey96⟩ : ∃ y : Int32, y = 24 + Int32.ofInt (-8) := ⟨_, rfl⟩
        refine lv_iinc (v := y96) (lv' := [(2, .int y96), (3, .int f3), (0, .ref a0), (1, .int x1)]) X.1 X.2.1 dX10_append_49 hl (k := 1) rfl ey96.symm (by decide) rfl (fun ls hl => ?_)
        refine lv_goto (tgt := 3) X.1 X.2.1 dX10_append_52 (by decide) ?_
        refine lv_iload_n X.1 X.2.1 dX10_append_3 rfl (lv_at hl 0 rfl) ?_
        refine lv_if_lt (tgt := 55) X.1 X.2.1 dX10_append_4 (by decide) (fun c97 => ?_) (fun c97 => ?_)
        · exact ((iv_no (iv_lt (b' := (-1)) c97 (iv_add (a' := 16) (b' := 16) ey96 (iv_c 24 (a := 24) (b := 24) (by decide +kernel)) (iv_c _ (a := (-8)) (b := (-8)) (by decide +kernel)) (by decide +kernel)) (iv_c 0 (a := 0) (b := 0) (by decide +kernel)) (by decide +kernel)) (by decide +kernel))).elim
        · refine lv_iload_n X.1 X.2.1 dX10_append_7 rfl (lv_at hl 3 rfl) ?_
          refine lv_iload_n X.1 X.2.1 dX10_append_8 rfl (lv_at hl 0 rfl) ?_
          obtain ⟨f98, ef98⟩ : ∃ y : Int32, y = (x1.toUInt32 >>> ((y96 : Int32).toUInt32 &&& Int32.toUInt32 31)).toInt32 := ⟨_, rfl⟩
          refine lv_iushr (v := f98) X.1 X.2.1 dX10_append_9 ef98.symm ?_
          refine lv_sipush (v := 255) X.1 X.2.1 dX10_append_10 (by decide +kernel) ?_
          refine lv_iand X.1 X.2.1 dX10_append_13 ?_
          refine lv_topi (fun f99 ef99 => ?_)
          refine lv_istore_n (lv' := [(3, .int f99), (2, .int y96), (0, .ref a0), (1, .int x1)]) X.1 X.2.1 dX10_append_14 rfl hl (by decide) rfl (fun ls hl => ?_)
          refine lv_iload_n X.1 X.2.1 dX10_append_15 rfl (lv_at hl 0 rfl) ?_
          refine lv_if_eq (tgt := 49) X.1 X.2.1 dX10_append_16 (by decide) (fun c100 => ?_) (fun c100 => ?_)
          · obtain ⟨y101, ey101⟩ : ∃ y : Int32, y = y96 + Int32.ofInt (-8) := ⟨_, rfl⟩
            refine lv_iinc (v := y101) (lv' := [(2, .int y101), (3, .int f99), (0, .ref a0), (1, .int x1)]) X.1 X.2.1 dX10_append_49 hl (k := 1) rfl ey101.symm (by decide) rfl (fun ls hl => ?_)
            refine lv_goto (tgt := 3) X.1 X.2.1 dX10_append_52 (by decide) ?_
            refine lv_iload_n X.1 X.2.1 dX10_append_3 rfl (lv_at hl 0 rfl) ?_
            refine lv_if_lt (tgt := 55) X.1 X.2.1 dX10_append_4 (by decide) (fun c102 => ?_) (fun c102 => ?_)
            · exact ((iv_no (iv_lt (b' := (-1)) c102 (iv_add (a' := 8) (b' := 8) ey101 (iv_add (a' := 16) (b' := 16) ey96 (iv_c 24 (a := 24) (b := 24) (by decide +kernel)) (iv_c _ (a := (-8)) (b := (-8)) (by decide +kernel)) (by decide +kernel)) (iv_c _ (a := (-8)) (b := (-8)) (by decide +kernel)) (by decide +kernel)) (iv_c 0 (a := 0) (b := 0) (by decide +kernel)) (by decide +kernel)) (by decide +kernel))).elim
            · refine lv_iload_n X.1 X.2.1 dX10_append_7 rfl (lv_at hl 3 rfl) ?_
              refine lv_iload_n X.1 X.2.1 dX10_append_8 rfl (lv_at hl 0 rfl) ?_
              obtain ⟨f103, ef103⟩ : ∃ y : Int32, y = (x1.toUInt32 >>> ((y101 : Int32).toUInt32 &&& Int32.toUInt32 31)).toInt32 := ⟨_, rfl⟩
              refine lv_iushr (v := f103) X.1 X.2.1 dX10_append_9 ef103.symm ?_
              refine lv_sipush (v := 255) X.1 X.2.1 dX10_append_10 (by decide +kernel) ?_
              refine lv_iand X.1 X.2.1 dX10_append_13 ?_
              refine lv_topi (fun f104 ef104 => ?_)
              refine lv_istore_n (lv' := [(3, .int f104), (2, .int y101), (0, .ref a0), (1, .int x1)]) X.1 X.2.1 dX10_append_14 rfl hl (by decide) rfl (fun ls hl => ?_)
              refine lv_iload_n X.1 X.2.1 dX10_append_15 rfl (lv_at hl 0 rfl) ?_
              refine lv_if_eq (tgt := 49) X.1 X.2.1 dX10_append_16 (by decide) (fun c105 => ?_) (fun c105 => ?_)
              · obtain ⟨y106, ey106⟩ : ∃ y : Int32, y = y101 + Int32.ofInt (-8) := ⟨_, rfl⟩
                refine lv_iinc (v := y106) (lv' := [(2, .int y106), (3, .int f104), (0, .ref a0), (1, .int x1)]) X.1 X.2.1 dX10_append_49 hl (k := 1) rfl ey106.symm (by decide) rfl (fun ls hl => ?_)
                refine lv_goto (tgt := 3) X.1 X.2.1 dX10_append_52 (by decide) ?_
                refine lv_iload_n X.1 X.2.1 dX10_append_3 rfl (lv_at hl 0 rfl) ?_
                refine lv_if_lt (tgt := 55) X.1 X.2.1 dX10_append_4 (by decide) (fun c107 => ?_) (fun c107 => ?_)
                · exact ((iv_no (iv_lt (b' := (-1)) c107 (iv_add (a' := 0) (b' := 0) ey106 (iv_add (a' := 8) (b' := 8) ey101 (iv_add (a' := 16) (b' := 16) ey96 (iv_c 24 (a := 24) (b := 24) (by decide +kernel)) (iv_c _ (a := (-8)) (b := (-8)) (by decide +kernel)) (by decide +kernel)) (iv_c _ (a := (-8)) (b := (-8)) (by decide +kernel)) (by decide +kernel)) (iv_c _ (a := (-8)) (b := (-8)) (by decide +kernel)) (by decide +kernel)) (iv_c 0 (a := 0) (b := 0) (by decide +kernel)) (by decide +kernel)) (by decide +kernel))).elim
                · refine lv_iload_n X.1 X.2.1 dX10_append_7 rfl (lv_at hl 3 rfl) ?_
                  refine lv_iload_n X.1 X.2.1 dX10_append_8 rfl (lv_at hl 0 rfl) ?_
                  obtain ⟨f108, ef108⟩ : ∃ y : Int32, y = (x1.toUInt32 >>> ((y106 : Int32).toUInt32 &&& Int32.toUInt32 31)).toInt32 := ⟨_, rfl⟩
                  refine lv_iushr (v := f108) X.1 X.2.1 dX10_append_9 ef108.symm ?_
                  refine lv_sipush (v := 255) X.1 X.2.1 dX10_append_10 (by decide +kernel) ?_
                  refine lv_iand X.1 X.2.1 dX10_append_13 ?_
                  refine lv_topi (fun f109 ef109 => ?_)
                  refine lv_istore_n (lv' := [(3, .int f109), (2, .int y106), (0, .ref a0), (1, .int x1)]) X.1 X.2.1 dX10_append_14 rfl hl (by decide) rfl (fun ls hl => ?_)
                  refine lv_iload_n X.1 X.2.1 dX10_append_15 rfl (lv_at hl 0 rfl) ?_
                  refine lv_if_eq (tgt := 49) X.1 X.2.1 dX10_append_16 (by decide) (fun c110 => ?_) (fun c110 => ?_)
                  · obtain ⟨y111, ey111⟩ : ∃ y : Int32, y = y106 + Int32.ofInt (-8) := ⟨_, rfl⟩
                    refine lv_iinc (v := y111) (lv' := [(2, .int y111), (3, .int f109), (0, .ref a0), (1, .int x1)]) X.1 X.2.1 dX10_append_49 hl (k := 1) rfl ey111.symm (by decide) rfl (fun ls hl => ?_)
                    refine lv_goto (tgt := 3) X.1 X.2.1 dX10_append_52 (by decide) ?_
                    refine lv_iload_n X.1 X.2.1 dX10_append_3 rfl (lv_at hl 0 rfl) ?_
                    refine lv_if_lt (tgt := 55) X.1 X.2.1 dX10_append_4 (by decide) (fun c112 => ?_) (fun c112 => ?_)
                    · have hap : sgAp x1 (sgT1 P, sgL1 P) = ((sgUp (sgT1 P) ((sgL1 P)).toNat (sgB1 x1 24)), ((sgL1 P) + 1)) := by unfold sgAp; rw [sgA1_1 ef2 ef3 (sg_kc (24) (iv_c 24 (a := 24) (b := 24) (by decide +kernel)) (by decide +kernel)) (by decide) c4, sgA1_0 ef98 ef99 (sg_kc (16) (iv_add (a' := 16) (b' := 16) ey96 (iv_c 24 (a := 24) (b := 24) (by decide +kernel)) (iv_c _ (a := (-8)) (b := (-8)) (by decide +kernel)) (by decide +kernel)) (by decide +kernel)) (by decide) c100, sgA1_0 ef103 ef104 (sg_kc (8) (iv_add (a' := 8) (b' := 8) ey101 (iv_add (a' := 16) (b' := 16) ey96 (iv_c 24 (a := 24) (b := 24) (by decide +kernel)) (iv_c _ (a := (-8)) (b := (-8)) (by decide +kernel)) (by decide +kernel)) (iv_c _ (a := (-8)) (b := (-8)) (by decide +kernel)) (by decide +kernel)) (by decide +kernel)) (by decide) c105, sgA1_0 ef108 ef109 (sg_kc (0) (iv_add (a' := 0) (b' := 0) ey106 (iv_add (a' := 8) (b' := 8) ey101 (iv_add (a' := 16) (b' := 16) ey96 (iv_c 24 (a := 24) (b := 24) (by decide +kernel)) (iv_c _ (a := (-8)) (b := (-8)) (by decide +kernel)) (by decide +kernel)) (iv_c _ (a := (-8)) (b := (-8)) (by decide +kernel)) (by decide +kernel)) (iv_c _ (a := (-8)) (b := (-8)) (by decide +kernel)) (by decide +kernel)) (by decide +kernel)) (by decide) c110]
                      exact sg_vret2 X hr hlk hS (fun t ht hW => (by rw [hap]; exact sg_post hb hK hC hG hS ht hW)) dX10_append_55
                    · exact ((iv_no (iv_le (b' := (-8)) (iv_ge_of c112) (iv_c 0 (a := 0) (b := 0) (by decide +kernel)) (iv_add (a' := (-8)) (b' := (-8)) ey111 (iv_add (a' := 0) (b' := 0) ey106 (iv_add (a' := 8) (b' := 8) ey101 (iv_add (a' := 16) (b' := 16) ey96 (iv_c 24 (a := 24) (b := 24) (by decide +kernel)) (iv_c _ (a := (-8)) (b := (-8)) (by decide +kernel)) (by decide +kernel)) (iv_c _ (a := (-8)) (b := (-8)) (by decide +kernel)) (by decide +kernel)) (iv_c _ (a := (-8)) (b := (-8)) (by decide +kernel)) (by decide +kernel)) (iv_c _ (a := (-8)) (b := (-8)) (by decide +kernel)) (by decide +kernel)) (by decide +kernel)) (by decide +kernel))).elim
                  · refine lv_aload_n X.1 X.2.1 dX10_append_19 rfl (lv_at hl 2 rfl) ?_
                    refine gf_X10_1 X hK hG h0 wl_1_43 dX10_append_20 (fun f113 hf113 pf113 kf113 => ?_)
                    refine lv_sipush (v := 240) X.1 X.2.1 dX10_append_23 (by decide +kernel) ?_
                    have nb24 := sg_nbqU ef2 ef3 (sg_kc (24) (iv_c 24 (a := 24) (b := 24) (by decide +kernel)) (by decide +kernel)) (by decide) c4
                    have nb16 := sg_nbpU ef98 ef99 (sg_kc (16) (iv_add (a' := 16) (b' := 16) ey96 (iv_c 24 (a := 24) (b := 24) (by decide +kernel)) (iv_c _ (a := (-8)) (b := (-8)) (by decide +kernel)) (by decide +kernel)) (by decide +kernel)) (by decide) c100
                    have nb8 := sg_nbpU ef103 ef104 (sg_kc (8) (iv_add (a' := 8) (b' := 8) ey101 (iv_add (a' := 16) (b' := 16) ey96 (iv_c 24 (a := 24) (b := 24) (by decide +kernel)) (iv_c _ (a := (-8)) (b := (-8)) (by decide +kernel)) (by decide +kernel)) (iv_c _ (a := (-8)) (b := (-8)) (by decide +kernel)) (by decide +kernel)) (by decide +kernel)) (by decide) c105
                    have nb0 := sg_nbqU ef108 ef109 (sg_kc (0) (iv_add (a' := 0) (b' := 0) ey106 (iv_add (a' := 8) (b' := 8) ey101 (iv_add (a' := 16) (b' := 16) ey96 (iv_c 24 (a := 24) (b := 24) (by decide +kernel)) (iv_c _ (a := (-8)) (b := (-8)) (by decide +kernel)) (by decide +kernel)) (iv_c _ (a := (-8)) (b := (-8)) (by decide +kernel)) (by decide +kernel)) (iv_c _ (a := (-8)) (b := (-8)) (by decide +kernel)) (by decide +kernel)) (by decide +kernel)) (by decide) c110
                    have nl24 := sg_nb1_le x1 24
                    have nl16 := sg_nb1_le x1 16
                    have nl8 := sg_nb1_le x1 8
                    have nl0 := sg_nb1_le x1 0
                    have hnb : sg_nb x1 = sg_nb1 x1 24 + sg_nb1 x1 16 + sg_nb1 x1 8 + sg_nb1 x1 0 := rfl
                    have hx26 : f113.toInt = ((sgL1 P) + 1) := sgC240_eq (l := ((sgL1 P) + 1)) pf113 (by omega) (by omega)
                    have hy26 : iv 0 239 f113 := ⟨by omega, by omega⟩
                    refine lv_icmp_ge (tgt := 49) X.1 X.2.1 dX10_append_26 (by decide) (fun c114 => ?_) (fun c114 => ?_)
                    · exact ((iv_no (iv_le (b' := 239) c114 (iv_c 240 (a := 240) (b := 240) (by decide +kernel)) hy26 (by decide +kernel)) (by decide +kernel))).elim
                    · refine lv_aload_n X.1 X.2.1 dX10_append_29 rfl (lv_at hl 2 rfl) ?_
                      refine gf_X10_0 X hK hG h0 wl_1_41 dX10_append_30 (fun q115 hq115 kq115 => ?_)
                      refine lv_aload_n X.1 X.2.1 dX10_append_33 rfl (lv_at hl 2 rfl) ?_
                      refine gg_X10_1 X hK hG h0 wl_1_43 kf113 dX10_append_34 ?_
                      refine lv_iload_n X.1 X.2.1 dX10_append_37 rfl (lv_at hl 0 rfl) ?_
                      refine as_42q X hK hG hS hq115 (iv_vpin hy26 (by decide +kernel)) dX10_append_38 (fun H locs hG hS => ?_)
                      rw [sgC240_ix (l := ((sgL1 P) + 1)) pf113 (by omega) (by omega), sgB1_of ef108 ef109 (sg_kc (0) (iv_add (a' := 0) (b' := 0) ey106 (iv_add (a' := 8) (b' := 8) ey101 (iv_add (a' := 16) (b' := 16) ey96 (iv_c 24 (a := 24) (b := 24) (by decide +kernel)) (iv_c _ (a := (-8)) (b := (-8)) (by decide +kernel)) (by decide +kernel)) (iv_c _ (a := (-8)) (b := (-8)) (by decide +kernel)) (by decide +kernel)) (iv_c _ (a := (-8)) (b := (-8)) (by decide +kernel)) (by decide +kernel)) (by decide +kernel)) (by decide)] at hG
                      refine lv_aload_n X.1 X.2.1 dX10_append_39 rfl (lv_at hl 2 rfl) ?_
                      refine lv_dup X.1 X.2.1 dX10_append_40 rfl ?_
                      refine gf_X10_1 X hK hG h0 wl_1_43 dX10_append_41 (fun f116 hf116 pf116 kf116 => ?_)
                      refine lv_iconst (v := 1) X.1 X.2.1 dX10_append_44 (by decide +kernel) ?_
                      refine lv_iadd X.1 X.2.1 dX10_append_45 ?_
                      refine lv_topi (fun f117 ef117 => ?_)
                      have nb24 := sg_nbqU ef2 ef3 (sg_kc (24) (iv_c 24 (a := 24) (b := 24) (by decide +kernel)) (by decide +kernel)) (by decide) c4
                      have nb16 := sg_nbpU ef98 ef99 (sg_kc (16) (iv_add (a' := 16) (b' := 16) ey96 (iv_c 24 (a := 24) (b := 24) (by decide +kernel)) (iv_c _ (a := (-8)) (b := (-8)) (by decide +kernel)) (by decide +kernel)) (by decide +kernel)) (by decide) c100
                      have nb8 := sg_nbpU ef103 ef104 (sg_kc (8) (iv_add (a' := 8) (b' := 8) ey101 (iv_add (a' := 16) (b' := 16) ey96 (iv_c 24 (a := 24) (b := 24) (by decide +kernel)) (iv_c _ (a := (-8)) (b := (-8)) (by decide +kernel)) (by decide +kernel)) (iv_c _ (a := (-8)) (b := (-8)) (by decide +kernel)) (by decide +kernel)) (by decide +kernel)) (by decide) c105
                      have nb0 := sg_nbqU ef108 ef109 (sg_kc (0) (iv_add (a' := 0) (b' := 0) ey106 (iv_add (a' := 8) (b' := 8) ey101 (iv_add (a' := 16) (b' := 16) ey96 (iv_c 24 (a := 24) (b := 24) (by decide +kernel)) (iv_c _ (a := (-8)) (b := (-8)) (by decide +kernel)) (by decide +kernel)) (iv_c _ (a := (-8)) (b := (-8)) (by decide +kernel)) (by decide +kernel)) (iv_c _ (a := (-8)) (b := (-8)) (by decide +kernel)) (by decide +kernel)) (by decide +kernel)) (by decide) c110
                      have nl24 := sg_nb1_le x1 24
                      have nl16 := sg_nb1_le x1 16
                      have nl8 := sg_nb1_le x1 8
                      have nl0 := sg_nb1_le x1 0
                      have hnb : sg_nb x1 = sg_nb1 x1 24 + sg_nb1 x1 16 + sg_nb1 x1 8 + sg_nb1 x1 0 := rfl
                      have hx46 : f116.toInt = ((sgL1 P) + 1) := sgC240_eq (l := ((sgL1 P) + 1)) pf116 (by omega) (by omega)
                      have hz46 : f117.toInt = ((sgL1 P) + 1) + 1 := by rw [sg_inc (k := 1) ef117 hf116 (by decide +kernel), hx46]
                      have hy46 : iv 1 240 f117 := ⟨by omega, by omega⟩
                      refine pf_X10_1q X hK hG hS h0 wl_1_43 (iv_of hy46 (a' := 0) (b' := 240) (by decide +kernel)) dX10_append_46 (fun H locs hG hS => ?_)
                      have hl49 : f117.toInt = ((sgL1 P) + 1) + 1 := by rw [sg_inc (k := 1) ef117 hf116 (by decide +kernel), sgC240_eq (l := ((sgL1 P) + 1)) pf116 (by omega) (by omega)]
                      rw [hl49] at hG
                      obtain ⟨y118, ey118⟩ : ∃ y : Int32, y = y106 + Int32.ofInt (-8) := ⟨_, rfl⟩
                      refine lv_iinc (v := y118) (lv' := [(2, .int y118), (3, .int f109), (0, .ref a0), (1, .int x1)]) X.1 X.2.1 dX10_append_49 hl (k := 1) rfl ey118.symm (by decide) rfl (fun ls hl => ?_)
                      refine lv_goto (tgt := 3) X.1 X.2.1 dX10_append_52 (by decide) ?_
                      refine lv_iload_n X.1 X.2.1 dX10_append_3 rfl (lv_at hl 0 rfl) ?_
                      refine lv_if_lt (tgt := 55) X.1 X.2.1 dX10_append_4 (by decide) (fun c119 => ?_) (fun c119 => ?_)
                      · have hap : sgAp x1 (sgT1 P, sgL1 P) = ((sgUp (sgUp (sgT1 P) ((sgL1 P)).toNat (sgB1 x1 24)) (((sgL1 P) + 1)).toNat (sgB1 x1 0)), (((sgL1 P) + 1) + 1)) := by unfold sgAp; rw [sgA1_1 ef2 ef3 (sg_kc (24) (iv_c 24 (a := 24) (b := 24) (by decide +kernel)) (by decide +kernel)) (by decide) c4, sgA1_0 ef98 ef99 (sg_kc (16) (iv_add (a' := 16) (b' := 16) ey96 (iv_c 24 (a := 24) (b := 24) (by decide +kernel)) (iv_c _ (a := (-8)) (b := (-8)) (by decide +kernel)) (by decide +kernel)) (by decide +kernel)) (by decide) c100, sgA1_0 ef103 ef104 (sg_kc (8) (iv_add (a' := 8) (b' := 8) ey101 (iv_add (a' := 16) (b' := 16) ey96 (iv_c 24 (a := 24) (b := 24) (by decide +kernel)) (iv_c _ (a := (-8)) (b := (-8)) (by decide +kernel)) (by decide +kernel)) (iv_c _ (a := (-8)) (b := (-8)) (by decide +kernel)) (by decide +kernel)) (by decide +kernel)) (by decide) c105, sgA1_1 ef108 ef109 (sg_kc (0) (iv_add (a' := 0) (b' := 0) ey106 (iv_add (a' := 8) (b' := 8) ey101 (iv_add (a' := 16) (b' := 16) ey96 (iv_c 24 (a := 24) (b := 24) (by decide +kernel)) (iv_c _ (a := (-8)) (b := (-8)) (by decide +kernel)) (by decide +kernel)) (iv_c _ (a := (-8)) (b := (-8)) (by decide +kernel)) (by decide +kernel)) (iv_c _ (a := (-8)) (b := (-8)) (by decide +kernel)) (by decide +kernel)) (by decide +kernel)) (by decide) c110]
                        exact sg_vret2 X hr hlk hS (fun t ht hW => (by rw [hap]; exact sg_post hb hK hC hG hS ht hW)) dX10_append_55
                      · exact ((iv_no (iv_le (b' := (-8)) (iv_ge_of c119) (iv_c 0 (a := 0) (b := 0) (by decide +kernel)) (iv_add (a' := (-8)) (b' := (-8)) ey118 (iv_add (a' := 0) (b' := 0) ey106 (iv_add (a' := 8) (b' := 8) ey101 (iv_add (a' := 16) (b' := 16) ey96 (iv_c 24 (a := 24) (b := 24) (by decide +kernel)) (iv_c _ (a := (-8)) (b := (-8)) (by decide +kernel)) (by decide +kernel)) (iv_c _ (a := (-8)) (b := (-8)) (by decide +kernel)) (by decide +kernel)) (iv_c _ (a := (-8)) (b := (-8)) (by decide +kernel)) (by decide +kernel)) (iv_c _ (a := (-8)) (b := (-8)) (by decide +kernel)) (by decide +kernel)) (by decide +kernel)) (by decide +kernel))).elim
              · refine lv_aload_n X.1 X.2.1 dX10_append_19 rfl (lv_at hl 2 rfl) ?_
                refine gf_X10_1 X hK hG h0 wl_1_43 dX10_append_20 (fun f120 hf120 pf120 kf120 => ?_)
                refine lv_sipush (v := 240) X.1 X.2.1 dX10_append_23 (by decide +kernel) ?_
                have nb24 := sg_nbqU ef2 ef3 (sg_kc (24) (iv_c 24 (a := 24) (b := 24) (by decide +kernel)) (by decide +kernel)) (by decide) c4
                have nb16 := sg_nbpU ef98 ef99 (sg_kc (16) (iv_add (a' := 16) (b' := 16) ey96 (iv_c 24 (a := 24) (b := 24) (by decide +kernel)) (iv_c _ (a := (-8)) (b := (-8)) (by decide +kernel)) (by decide +kernel)) (by decide +kernel)) (by decide) c100
                have nb8 := sg_nbqU ef103 ef104 (sg_kc (8) (iv_add (a' := 8) (b' := 8) ey101 (iv_add (a' := 16) (b' := 16) ey96 (iv_c 24 (a := 24) (b := 24) (by decide +kernel)) (iv_c _ (a := (-8)) (b := (-8)) (by decide +kernel)) (by decide +kernel)) (iv_c _ (a := (-8)) (b := (-8)) (by decide +kernel)) (by decide +kernel)) (by decide +kernel)) (by decide) c105
                have nl24 := sg_nb1_le x1 24
                have nl16 := sg_nb1_le x1 16
                have nl8 := sg_nb1_le x1 8
                have nl0 := sg_nb1_le x1 0
                have hnb : sg_nb x1 = sg_nb1 x1 24 + sg_nb1 x1 16 + sg_nb1 x1 8 + sg_nb1 x1 0 := rfl
                have hx26 : f120.toInt = ((sgL1 P) + 1) := sgC240_eq (l := ((sgL1 P) + 1)) pf120 (by omega) (by omega)
                have hy26 : iv 0 239 f120 := ⟨by omega, by omega⟩
                refine lv_icmp_ge (tgt := 49) X.1 X.2.1 dX10_append_26 (by decide) (fun c121 => ?_) (fun c121 => ?_)
                · exact ((iv_no (iv_le (b' := 239) c121 (iv_c 240 (a := 240) (b := 240) (by decide +kernel)) hy26 (by decide +kernel)) (by decide +kernel))).elim
                · refine lv_aload_n X.1 X.2.1 dX10_append_29 rfl (lv_at hl 2 rfl) ?_
                  refine gf_X10_0 X hK hG h0 wl_1_41 dX10_append_30 (fun q122 hq122 kq122 => ?_)
                  refine lv_aload_n X.1 X.2.1 dX10_append_33 rfl (lv_at hl 2 rfl) ?_
                  refine gg_X10_1 X hK hG h0 wl_1_43 kf120 dX10_append_34 ?_
                  refine lv_iload_n X.1 X.2.1 dX10_append_37 rfl (lv_at hl 0 rfl) ?_
                  refine as_42q X hK hG hS hq122 (iv_vpin hy26 (by decide +kernel)) dX10_append_38 (fun H locs hG hS => ?_)
                  rw [sgC240_ix (l := ((sgL1 P) + 1)) pf120 (by omega) (by omega), sgB1_of ef103 ef104 (sg_kc (8) (iv_add (a' := 8) (b' := 8) ey101 (iv_add (a' := 16) (b' := 16) ey96 (iv_c 24 (a := 24) (b := 24) (by decide +kernel)) (iv_c _ (a := (-8)) (b := (-8)) (by decide +kernel)) (by decide +kernel)) (iv_c _ (a := (-8)) (b := (-8)) (by decide +kernel)) (by decide +kernel)) (by decide +kernel)) (by decide)] at hG
                  refine lv_aload_n X.1 X.2.1 dX10_append_39 rfl (lv_at hl 2 rfl) ?_
                  refine lv_dup X.1 X.2.1 dX10_append_40 rfl ?_
                  refine gf_X10_1 X hK hG h0 wl_1_43 dX10_append_41 (fun f123 hf123 pf123 kf123 => ?_)
                  refine lv_iconst (v := 1) X.1 X.2.1 dX10_append_44 (by decide +kernel) ?_
                  refine lv_iadd X.1 X.2.1 dX10_append_45 ?_
                  refine lv_topi (fun f124 ef124 => ?_)
                  have nb24 := sg_nbqU ef2 ef3 (sg_kc (24) (iv_c 24 (a := 24) (b := 24) (by decide +kernel)) (by decide +kernel)) (by decide) c4
                  have nb16 := sg_nbpU ef98 ef99 (sg_kc (16) (iv_add (a' := 16) (b' := 16) ey96 (iv_c 24 (a := 24) (b := 24) (by decide +kernel)) (iv_c _ (a := (-8)) (b := (-8)) (by decide +kernel)) (by decide +kernel)) (by decide +kernel)) (by decide) c100
                  have nb8 := sg_nbqU ef103 ef104 (sg_kc (8) (iv_add (a' := 8) (b' := 8) ey101 (iv_add (a' := 16) (b' := 16) ey96 (iv_c 24 (a := 24) (b := 24) (by decide +kernel)) (iv_c _ (a := (-8)) (b := (-8)) (by decide +kernel)) (by decide +kernel)) (iv_c _ (a := (-8)) (b := (-8)) (by decide +kernel)) (by decide +kernel)) (by decide +kernel)) (by decide) c105
                  have nl24 := sg_nb1_le x1 24
                  have nl16 := sg_nb1_le x1 16
                  have nl8 := sg_nb1_le x1 8
                  have nl0 := sg_nb1_le x1 0
                  have hnb : sg_nb x1 = sg_nb1 x1 24 + sg_nb1 x1 16 + sg_nb1 x1 8 + sg_nb1 x1 0 := rfl
                  have hx46 : f123.toInt = ((sgL1 P) + 1) := sgC240_eq (l := ((sgL1 P) + 1)) pf123 (by omega) (by omega)
                  have hz46 : f124.toInt = ((sgL1 P) + 1) + 1 := by rw [sg_inc (k := 1) ef124 hf123 (by decide +kernel), hx46]
                  have hy46 : iv 1 240 f124 := ⟨by omega, by omega⟩
                  refine pf_X10_1q X hK hG hS h0 wl_1_43 (iv_of hy46 (a' := 0) (b' := 240) (by decide +kernel)) dX10_append_46 (fun H locs hG hS => ?_)
                  have hl49 : f124.toInt = ((sgL1 P) + 1) + 1 := by rw [sg_inc (k := 1) ef124 hf123 (by decide +kernel), sgC240_eq (l := ((sgL1 P) + 1)) pf123 (by omega) (by omega)]
                  rw [hl49] at hG
                  obtain ⟨y125, ey125⟩ : ∃ y : Int32, y = y101 + Int32.ofInt (-8) := ⟨_, rfl⟩
                  refine lv_iinc (v := y125) (lv' := [(2, .int y125), (3, .int f104), (0, .ref a0), (1, .int x1)]) X.1 X.2.1 dX10_append_49 hl (k := 1) rfl ey125.symm (by decide) rfl (fun ls hl => ?_)
                  refine lv_goto (tgt := 3) X.1 X.2.1 dX10_append_52 (by decide) ?_
                  refine lv_iload_n X.1 X.2.1 dX10_append_3 rfl (lv_at hl 0 rfl) ?_
                  refine lv_if_lt (tgt := 55) X.1 X.2.1 dX10_append_4 (by decide) (fun c126 => ?_) (fun c126 => ?_)
                  · exact ((iv_no (iv_lt (b' := (-1)) c126 (iv_add (a' := 0) (b' := 0) ey125 (iv_add (a' := 8) (b' := 8) ey101 (iv_add (a' := 16) (b' := 16) ey96 (iv_c 24 (a := 24) (b := 24) (by decide +kernel)) (iv_c _ (a := (-8)) (b := (-8)) (by decide +kernel)) (by decide +kernel)) (iv_c _ (a := (-8)) (b := (-8)) (by decide +kernel)) (by decide +kernel)) (iv_c _ (a := (-8)) (b := (-8)) (by decide +kernel)) (by decide +kernel)) (iv_c 0 (a := 0) (b := 0) (by decide +kernel)) (by decide +kernel)) (by decide +kernel))).elim
                  · refine lv_iload_n X.1 X.2.1 dX10_append_7 rfl (lv_at hl 3 rfl) ?_
                    refine lv_iload_n X.1 X.2.1 dX10_append_8 rfl (lv_at hl 0 rfl) ?_
                    obtain ⟨f127, ef127⟩ : ∃ y : Int32, y = (x1.toUInt32 >>> ((y125 : Int32).toUInt32 &&& Int32.toUInt32 31)).toInt32 := ⟨_, rfl⟩
                    refine lv_iushr (v := f127) X.1 X.2.1 dX10_append_9 ef127.symm ?_
                    refine lv_sipush (v := 255) X.1 X.2.1 dX10_append_10 (by decide +kernel) ?_
                    refine lv_iand X.1 X.2.1 dX10_append_13 ?_
                    refine lv_topi (fun f128 ef128 => ?_)
                    refine lv_istore_n (lv' := [(3, .int f128), (2, .int y125), (0, .ref a0), (1, .int x1)]) X.1 X.2.1 dX10_append_14 rfl hl (by decide) rfl (fun ls hl => ?_)
                    refine lv_iload_n X.1 X.2.1 dX10_append_15 rfl (lv_at hl 0 rfl) ?_
                    refine lv_if_eq (tgt := 49) X.1 X.2.1 dX10_append_16 (by decide) (fun c129 => ?_) (fun c129 => ?_)
                    · obtain ⟨y130, ey130⟩ : ∃ y : Int32, y = y125 + Int32.ofInt (-8) := ⟨_, rfl⟩
                      refine lv_iinc (v := y130) (lv' := [(2, .int y130), (3, .int f128), (0, .ref a0), (1, .int x1)]) X.1 X.2.1 dX10_append_49 hl (k := 1) rfl ey130.symm (by decide) rfl (fun ls hl => ?_)
                      refine lv_goto (tgt := 3) X.1 X.2.1 dX10_append_52 (by decide) ?_
                      refine lv_iload_n X.1 X.2.1 dX10_append_3 rfl (lv_at hl 0 rfl) ?_
                      refine lv_if_lt (tgt := 55) X.1 X.2.1 dX10_append_4 (by decide) (fun c131 => ?_) (fun c131 => ?_)
                      · have hap : sgAp x1 (sgT1 P, sgL1 P) = ((sgUp (sgUp (sgT1 P) ((sgL1 P)).toNat (sgB1 x1 24)) (((sgL1 P) + 1)).toNat (sgB1 x1 8)), (((sgL1 P) + 1) + 1)) := by unfold sgAp; rw [sgA1_1 ef2 ef3 (sg_kc (24) (iv_c 24 (a := 24) (b := 24) (by decide +kernel)) (by decide +kernel)) (by decide) c4, sgA1_0 ef98 ef99 (sg_kc (16) (iv_add (a' := 16) (b' := 16) ey96 (iv_c 24 (a := 24) (b := 24) (by decide +kernel)) (iv_c _ (a := (-8)) (b := (-8)) (by decide +kernel)) (by decide +kernel)) (by decide +kernel)) (by decide) c100, sgA1_1 ef103 ef104 (sg_kc (8) (iv_add (a' := 8) (b' := 8) ey101 (iv_add (a' := 16) (b' := 16) ey96 (iv_c 24 (a := 24) (b := 24) (by decide +kernel)) (iv_c _ (a := (-8)) (b := (-8)) (by decide +kernel)) (by decide +kernel)) (iv_c _ (a := (-8)) (b := (-8)) (by decide +kernel)) (by decide +kernel)) (by decide +kernel)) (by decide) c105, sgA1_0 ef127 ef128 (sg_kc (0) (iv_add (a' := 0) (b' := 0) ey125 (iv_add (a' := 8) (b' := 8) ey101 (iv_add (a' := 16) (b' := 16) ey96 (iv_c 24 (a := 24) (b := 24) (by decide +kernel)) (iv_c _ (a := (-8)) (b := (-8)) (by decide +kernel)) (by decide +kernel)) (iv_c _ (a := (-8)) (b := (-8)) (by decide +kernel)) (by decide +kernel)) (iv_c _ (a := (-8)) (b := (-8)) (by decide +kernel)) (by decide +kernel)) (by decide +kernel)) (by decide) c129]
                        exact sg_vret2 X hr hlk hS (fun t ht hW => (by rw [hap]; exact sg_post hb hK hC hG hS ht hW)) dX10_append_55
                      · exact ((iv_no (iv_le (b' := (-8)) (iv_ge_of c131) (iv_c 0 (a := 0) (b := 0) (by decide +kernel)) (iv_add (a' := (-8)) (b' := (-8)) ey130 (iv_add (a' := 0) (b' := 0) ey125 (iv_add (a' := 8) (b' := 8) ey101 (iv_add (a' := 16) (b' := 16) ey96 (iv_c 24 (a := 24) (b := 24) (by decide +kernel)) (iv_c _ (a := (-8)) (b := (-8)) (by decide +kernel)) (by decide +kernel)) (iv_c _ (a := (-8)) (b := (-8)) (by decide +kernel)) (by decide +kernel)) (iv_c _ (a := (-8)) (b := (-8)) (by decide +kernel)) (by decide +kernel)) (iv_c _ (a := (-8)) (b := (-8)) (by decide +kernel)) (by decide +kernel)) (by decide +kernel)) (by decide +kernel))).elim
                    · refine lv_aload_n X.1 X.2.1 dX10_append_19 rfl (lv_at hl 2 rfl) ?_
                      refine gf_X10_1 X hK hG h0 wl_1_43 dX10_append_20 (fun f132 hf132 pf132 kf132 => ?_)
                      refine lv_sipush (v := 240) X.1 X.2.1 dX10_append_23 (by decide +kernel) ?_
                      have nb24 := sg_nbqU ef2 ef3 (sg_kc (24) (iv_c 24 (a := 24) (b := 24) (by decide +kernel)) (by decide +kernel)) (by decide) c4
                      have nb16 := sg_nbpU ef98 ef99 (sg_kc (16) (iv_add (a' := 16) (b' := 16) ey96 (iv_c 24 (a := 24) (b := 24) (by decide +kernel)) (iv_c _ (a := (-8)) (b := (-8)) (by decide +kernel)) (by decide +kernel)) (by decide +kernel)) (by decide) c100
                      have nb8 := sg_nbqU ef103 ef104 (sg_kc (8) (iv_add (a' := 8) (b' := 8) ey101 (iv_add (a' := 16) (b' := 16) ey96 (iv_c 24 (a := 24) (b := 24) (by decide +kernel)) (iv_c _ (a := (-8)) (b := (-8)) (by decide +kernel)) (by decide +kernel)) (iv_c _ (a := (-8)) (b := (-8)) (by decide +kernel)) (by decide +kernel)) (by decide +kernel)) (by decide) c105
                      have nb0 := sg_nbqU ef127 ef128 (sg_kc (0) (iv_add (a' := 0) (b' := 0) ey125 (iv_add (a' := 8) (b' := 8) ey101 (iv_add (a' := 16) (b' := 16) ey96 (iv_c 24 (a := 24) (b := 24) (by decide +kernel)) (iv_c _ (a := (-8)) (b := (-8)) (by decide +kernel)) (by decide +kernel)) (iv_c _ (a := (-8)) (b := (-8)) (by decide +kernel)) (by decide +kernel)) (iv_c _ (a := (-8)) (b := (-8)) (by decide +kernel)) (by decide +kernel)) (by decide +kernel)) (by decide) c129
                      have nl24 := sg_nb1_le x1 24
                      have nl16 := sg_nb1_le x1 16
                      have nl8 := sg_nb1_le x1 8
                      have nl0 := sg_nb1_le x1 0
                      have hnb : sg_nb x1 = sg_nb1 x1 24 + sg_nb1 x1 16 + sg_nb1 x1 8 + sg_nb1 x1 0 := rfl
                      have hx26 : f132.toInt = (((sgL1 P) + 1) + 1) := sgC240_eq (l := (((sgL1 P) + 1) + 1)) pf132 (by omega) (by omega)
                      have hy26 : iv 0 239 f132 := ⟨by omega, by omega⟩
                      refine lv_icmp_ge (tgt := 49) X.1 X.2.1 dX10_append_26 (by decide) (fun c133 => ?_) (fun c133 => ?_)
                      · exact ((iv_no (iv_le (b' := 239) c133 (iv_c 240 (a := 240) (b := 240) (by decide +kernel)) hy26 (by decide +kernel)) (by decide +kernel))).elim
                      · refine lv_aload_n X.1 X.2.1 dX10_append_29 rfl (lv_at hl 2 rfl) ?_
                        refine gf_X10_0 X hK hG h0 wl_1_41 dX10_append_30 (fun q134 hq134 kq134 => ?_)
                        refine lv_aload_n X.1 X.2.1 dX10_append_33 rfl (lv_at hl 2 rfl) ?_
                        refine gg_X10_1 X hK hG h0 wl_1_43 kf132 dX10_append_34 ?_
                        refine lv_iload_n X.1 X.2.1 dX10_append_37 rfl (lv_at hl 0 rfl) ?_
                        refine as_42q X hK hG hS hq134 (iv_vpin hy26 (by decide +kernel)) dX10_append_38 (fun H locs hG hS => ?_)
                        rw [sgC240_ix (l := (((sgL1 P) + 1) + 1)) pf132 (by omega) (by omega), sgB1_of ef127 ef128 (sg_kc (0) (iv_add (a' := 0) (b' := 0) ey125 (iv_add (a' := 8) (b' := 8) ey101 (iv_add (a' := 16) (b' := 16) ey96 (iv_c 24 (a := 24) (b := 24) (by decide +kernel)) (iv_c _ (a := (-8)) (b := (-8)) (by decide +kernel)) (by decide +kernel)) (iv_c _ (a := (-8)) (b := (-8)) (by decide +kernel)) (by decide +kernel)) (iv_c _ (a := (-8)) (b := (-8)) (by decide +kernel)) (by decide +kernel)) (by decide +kernel)) (by decide)] at hG
                        refine lv_aload_n X.1 X.2.1 dX10_append_39 rfl (lv_at hl 2 rfl) ?_
                        refine lv_dup X.1 X.2.1 dX10_append_40 rfl ?_
                        refine gf_X10_1 X hK hG h0 wl_1_43 dX10_append_41 (fun f135 hf135 pf135 kf135 => ?_)
                        refine lv_iconst (v := 1) X.1 X.2.1 dX10_append_44 (by decide +kernel) ?_
                        refine lv_iadd X.1 X.2.1 dX10_append_45 ?_
                        refine lv_topi (fun f136 ef136 => ?_)
                        have nb24 := sg_nbqU ef2 ef3 (sg_kc (24) (iv_c 24 (a := 24) (b := 24) (by decide +kernel)) (by decide +kernel)) (by decide) c4
                        have nb16 := sg_nbpU ef98 ef99 (sg_kc (16) (iv_add (a' := 16) (b' := 16) ey96 (iv_c 24 (a := 24) (b := 24) (by decide +kernel)) (iv_c _ (a := (-8)) (b := (-8)) (by decide +kernel)) (by decide +kernel)) (by decide +kernel)) (by decide) c100
                        have nb8 := sg_nbqU ef103 ef104 (sg_kc (8) (iv_add (a' := 8) (b' := 8) ey101 (iv_add (a' := 16) (b' := 16) ey96 (iv_c 24 (a := 24) (b := 24) (by decide +kernel)) (iv_c _ (a := (-8)) (b := (-8)) (by decide +kernel)) (by decide +kernel)) (iv_c _ (a := (-8)) (b := (-8)) (by decide +kernel)) (by decide +kernel)) (by decide +kernel)) (by decide) c105
                        have nb0 := sg_nbqU ef127 ef128 (sg_kc (0) (iv_add (a' := 0) (b' := 0) ey125 (iv_add (a' := 8) (b' := 8) ey101 (iv_add (a' := 16) (b' := 16) ey96 (iv_c 24 (a := 24) (b := 24) (by decide +kernel)) (iv_c _ (a := (-8)) (b := (-8)) (by decide +kernel)) (by decide +kernel)) (iv_c _ (a := (-8)) (b := (-8)) (by decide +kernel)) (by decide +kernel)) (iv_c _ (a := (-8)) (b := (-8)) (by decide +kernel)) (by decide +kernel)) (by decide +kernel)) (by decide) c129
                        have nl24 := sg_nb1_le x1 24
                        have nl16 := sg_nb1_le x1 16
                        have nl8 := sg_nb1_le x1 8
                        have nl0 := sg_nb1_le x1 0
                        have hnb : sg_nb x1 = sg_nb1 x1 24 + sg_nb1 x1 16 + sg_nb1 x1 8 + sg_nb1 x1 0 := rfl
                        have hx46 : f135.toInt = (((sgL1 P) + 1) + 1) := sgC240_eq (l := (((sgL1 P) + 1) + 1)) pf135 (by omega) (by omega)
                        have hz46 : f136.toInt = (((sgL1 P) + 1) + 1) + 1 := by rw [sg_inc (k := 1) ef136 hf135 (by decide +kernel), hx46]
                        have hy46 : iv 1 240 f136 := ⟨by omega, by omega⟩
                        refine pf_X10_1q X hK hG hS h0 wl_1_43 (iv_of hy46 (a' := 0) (b' := 240) (by decide +kernel)) dX10_append_46 (fun H locs hG hS => ?_)
                        have hl49 : f136.toInt = (((sgL1 P) + 1) + 1) + 1 := by rw [sg_inc (k := 1) ef136 hf135 (by decide +kernel), sgC240_eq (l := (((sgL1 P) + 1) + 1)) pf135 (by omega) (by omega)]
                        rw [hl49] at hG
                        obtain ⟨y137, ey137⟩ : ∃ y : Int32, y = y125 + Int32.ofInt (-8) := ⟨_, rfl⟩
                        refine lv_iinc (v := y137) (lv' := [(2, .int y137), (3, .int f128), (0, .ref a0), (1, .int x1)]) X.1 X.2.1 dX10_append_49 hl (k := 1) rfl ey137.symm (by decide) rfl (fun ls hl => ?_)
                        refine lv_goto (tgt := 3) X.1 X.2.1 dX10_append_52 (by decide) ?_
                        refine lv_iload_n X.1 X.2.1 dX10_append_3 rfl (lv_at hl 0 rfl) ?_
                        refine lv_if_lt (tgt := 55) X.1 X.2.1 dX10_append_4 (by decide) (fun c138 => ?_) (fun c138 => ?_)
                        · have hap : sgAp x1 (sgT1 P, sgL1 P) = ((sgUp (sgUp (sgUp (sgT1 P) ((sgL1 P)).toNat (sgB1 x1 24)) (((sgL1 P) + 1)).toNat (sgB1 x1 8)) ((((sgL1 P) + 1) + 1)).toNat (sgB1 x1 0)), ((((sgL1 P) + 1) + 1) + 1)) := by unfold sgAp; rw [sgA1_1 ef2 ef3 (sg_kc (24) (iv_c 24 (a := 24) (b := 24) (by decide +kernel)) (by decide +kernel)) (by decide) c4, sgA1_0 ef98 ef99 (sg_kc (16) (iv_add (a' := 16) (b' := 16) ey96 (iv_c 24 (a := 24) (b := 24) (by decide +kernel)) (iv_c _ (a := (-8)) (b := (-8)) (by decide +kernel)) (by decide +kernel)) (by decide +kernel)) (by decide) c100, sgA1_1 ef103 ef104 (sg_kc (8) (iv_add (a' := 8) (b' := 8) ey101 (iv_add (a' := 16) (b' := 16) ey96 (iv_c 24 (a := 24) (b := 24) (by decide +kernel)) (iv_c _ (a := (-8)) (b := (-8)) (by decide +kernel)) (by decide +kernel)) (iv_c _ (a := (-8)) (b := (-8)) (by decide +kernel)) (by decide +kernel)) (by decide +kernel)) (by decide) c105, sgA1_1 ef127 ef128 (sg_kc (0) (iv_add (a' := 0) (b' := 0) ey125 (iv_add (a' := 8) (b' := 8) ey101 (iv_add (a' := 16) (b' := 16) ey96 (iv_c 24 (a := 24) (b := 24) (by decide +kernel)) (iv_c _ (a := (-8)) (b := (-8)) (by decide +kernel)) (by decide +kernel)) (iv_c _ (a := (-8)) (b := (-8)) (by decide +kernel)) (by decide +kernel)) (iv_c _ (a := (-8)) (b := (-8)) (by decide +kernel)) (by decide +kernel)) (by decide +kernel)) (by decide) c129]
                          exact sg_vret2 X hr hlk hS (fun t ht hW => (by rw [hap]; exact sg_post hb hK hC hG hS ht hW)) dX10_append_55
                        · exact ((iv_no (iv_le (b' := (-8)) (iv_ge_of c138) (iv_c 0 (a := 0) (b := 0) (by decide +kernel)) (iv_add (a' := (-8)) (b' := (-8)) ey137 (iv_add (a' := 0) (b' := 0) ey125 (iv_add (a' := 8) (b' := 8) ey101 (iv_add (a' := 16) (b' := 16) ey96 (iv_c 24 (a := 24) (b := 24) (by decide +kernel)) (iv_c _ (a := (-8)) (b := (-8)) (by decide +kernel)) (by decide +kernel)) (iv_c _ (a := (-8)) (b := (-8)) (by decide +kernel)) (by decide +kernel)) (iv_c _ (a := (-8)) (b := (-8)) (by decide +kernel)) (by decide +kernel)) (iv_c _ (a := (-8)) (b := (-8)) (by decide +kernel)) (by decide +kernel)) (by decide +kernel)) (by decide +kernel))).elim
          · refine lv_aload_n X.1 X.2.1 dX10_append_19 rfl (lv_at hl 2 rfl) ?_
            refine gf_X10_1 X hK hG h0 wl_1_43 dX10_append_20 (fun f139 hf139 pf139 kf139 => ?_)
            refine lv_sipush (v := 240) X.1 X.2.1 dX10_append_23 (by decide +kernel) ?_
            have nb24 := sg_nbqU ef2 ef3 (sg_kc (24) (iv_c 24 (a := 24) (b := 24) (by decide +kernel)) (by decide +kernel)) (by decide) c4
            have nb16 := sg_nbqU ef98 ef99 (sg_kc (16) (iv_add (a' := 16) (b' := 16) ey96 (iv_c 24 (a := 24) (b := 24) (by decide +kernel)) (iv_c _ (a := (-8)) (b := (-8)) (by decide +kernel)) (by decide +kernel)) (by decide +kernel)) (by decide) c100
            have nl24 := sg_nb1_le x1 24
            have nl16 := sg_nb1_le x1 16
            have nl8 := sg_nb1_le x1 8
            have nl0 := sg_nb1_le x1 0
            have hnb : sg_nb x1 = sg_nb1 x1 24 + sg_nb1 x1 16 + sg_nb1 x1 8 + sg_nb1 x1 0 := rfl
            have hx26 : f139.toInt = ((sgL1 P) + 1) := sgC240_eq (l := ((sgL1 P) + 1)) pf139 (by omega) (by omega)
            have hy26 : iv 0 239 f139 := ⟨by omega, by omega⟩
            refine lv_icmp_ge (tgt := 49) X.1 X.2.1 dX10_append_26 (by decide) (fun c140 => ?_) (fun c140 => ?_)
            · exact ((iv_no (iv_le (b' := 239) c140 (iv_c 240 (a := 240) (b := 240) (by decide +kernel)) hy26 (by decide +kernel)) (by decide +kernel))).elim
            · refine lv_aload_n X.1 X.2.1 dX10_append_29 rfl (lv_at hl 2 rfl) ?_
              refine gf_X10_0 X hK hG h0 wl_1_41 dX10_append_30 (fun q141 hq141 kq141 => ?_)
              refine lv_aload_n X.1 X.2.1 dX10_append_33 rfl (lv_at hl 2 rfl) ?_
              refine gg_X10_1 X hK hG h0 wl_1_43 kf139 dX10_append_34 ?_
              refine lv_iload_n X.1 X.2.1 dX10_append_37 rfl (lv_at hl 0 rfl) ?_
              refine as_42q X hK hG hS hq141 (iv_vpin hy26 (by decide +kernel)) dX10_append_38 (fun H locs hG hS => ?_)
              rw [sgC240_ix (l := ((sgL1 P) + 1)) pf139 (by omega) (by omega), sgB1_of ef98 ef99 (sg_kc (16) (iv_add (a' := 16) (b' := 16) ey96 (iv_c 24 (a := 24) (b := 24) (by decide +kernel)) (iv_c _ (a := (-8)) (b := (-8)) (by decide +kernel)) (by decide +kernel)) (by decide +kernel)) (by decide)] at hG
              refine lv_aload_n X.1 X.2.1 dX10_append_39 rfl (lv_at hl 2 rfl) ?_
              refine lv_dup X.1 X.2.1 dX10_append_40 rfl ?_
              refine gf_X10_1 X hK hG h0 wl_1_43 dX10_append_41 (fun f142 hf142 pf142 kf142 => ?_)
              refine lv_iconst (v := 1) X.1 X.2.1 dX10_append_44 (by decide +kernel) ?_
              refine lv_iadd X.1 X.2.1 dX10_append_45 ?_
              refine lv_topi (fun f143 ef143 => ?_)
              have nb24 := sg_nbqU ef2 ef3 (sg_kc (24) (iv_c 24 (a := 24) (b := 24) (by decide +kernel)) (by decide +kernel)) (by decide) c4
              have nb16 := sg_nbqU ef98 ef99 (sg_kc (16) (iv_add (a' := 16) (b' := 16) ey96 (iv_c 24 (a := 24) (b := 24) (by decide +kernel)) (iv_c _ (a := (-8)) (b := (-8)) (by decide +kernel)) (by decide +kernel)) (by decide +kernel)) (by decide) c100
              have nl24 := sg_nb1_le x1 24
              have nl16 := sg_nb1_le x1 16
              have nl8 := sg_nb1_le x1 8
              have nl0 := sg_nb1_le x1 0
              have hnb : sg_nb x1 = sg_nb1 x1 24 + sg_nb1 x1 16 + sg_nb1 x1 8 + sg_nb1 x1 0 := rfl
              have hx46 : f142.toInt = ((sgL1 P) + 1) := sgC240_eq (l := ((sgL1 P) + 1)) pf142 (by omega) (by omega)
              have hz46 : f143.toInt = ((sgL1 P) + 1) + 1 := by rw [sg_inc (k := 1) ef143 hf142 (by decide +kernel), hx46]
              have hy46 : iv 1 240 f143 := ⟨by omega, by omega⟩
              refine pf_X10_1q X hK hG hS h0 wl_1_43 (iv_of hy46 (a' := 0) (b' := 240) (by decide +kernel)) dX10_append_46 (fun H locs hG hS => ?_)
              have hl49 : f143.toInt = ((sgL1 P) + 1) + 1 := by rw [sg_inc (k := 1) ef143 hf142 (by decide +kernel), sgC240_eq (l := ((sgL1 P) + 1)) pf142 (by omega) (by omega)]
              rw [hl49] at hG
              obtain ⟨y144, ey144⟩ : ∃ y : Int32, y = y96 + Int32.ofInt (-8) := ⟨_, rfl⟩
              refine lv_iinc (v := y144) (lv' := [(2, .int y144), (3, .int f99), (0, .ref a0), (1, .int x1)]) X.1 X.2.1 dX10_append_49 hl (k := 1) rfl ey144.symm (by decide) rfl (fun ls hl => ?_)
              refine lv_goto (tgt := 3) X.1 X.2.1 dX10_append_52 (by decide) ?_
              refine lv_iload_n X.1 X.2.1 dX10_append_3 rfl (lv_at hl 0 rfl) ?_
              refine lv_if_lt (tgt := 55) X.1 X.2.1 dX10_append_4 (by decide) (fun c145 => ?_) (fun c145 => ?_)
              · exact ((iv_no (iv_lt (b' := (-1)) c145 (iv_add (a' := 8) (b' := 8) ey144 (iv_add (a' := 16) (b' := 16) ey96 (iv_c 24 (a := 24) (b := 24) (by decide +kernel)) (iv_c _ (a := (-8)) (b := (-8)) (by decide +kernel)) (by decide +kernel)) (iv_c _ (a := (-8)) (b := (-8)) (by decide +kernel)) (by decide +kernel)) (iv_c 0 (a := 0) (b := 0) (by decide +kernel)) (by decide +kernel)) (by decide +kernel))).elim
              · refine lv_iload_n X.1 X.2.1 dX10_append_7 rfl (lv_at hl 3 rfl) ?_
                refine lv_iload_n X.1 X.2.1 dX10_append_8 rfl (lv_at hl 0 rfl) ?_
                obtain ⟨f146, ef146⟩ : ∃ y : Int32, y = (x1.toUInt32 >>> ((y144 : Int32).toUInt32 &&& Int32.toUInt32 31)).toInt32 := ⟨_, rfl⟩
                refine lv_iushr (v := f146) X.1 X.2.1 dX10_append_9 ef146.symm ?_
                refine lv_sipush (v := 255) X.1 X.2.1 dX10_append_10 (by decide +kernel) ?_
                refine lv_iand X.1 X.2.1 dX10_append_13 ?_
                refine lv_topi (fun f147 ef147 => ?_)
                refine lv_istore_n (lv' := [(3, .int f147), (2, .int y144), (0, .ref a0), (1, .int x1)]) X.1 X.2.1 dX10_append_14 rfl hl (by decide) rfl (fun ls hl => ?_)
                refine lv_iload_n X.1 X.2.1 dX10_append_15 rfl (lv_at hl 0 rfl) ?_
                refine lv_if_eq (tgt := 49) X.1 X.2.1 dX10_append_16 (by decide) (fun c148 => ?_) (fun c148 => ?_)
                · obtain ⟨y149, ey149⟩ : ∃ y : Int32, y = y144 + Int32.ofInt (-8) := ⟨_, rfl⟩
                  refine lv_iinc (v := y149) (lv' := [(2, .int y149), (3, .int f147), (0, .ref a0), (1, .int x1)]) X.1 X.2.1 dX10_append_49 hl (k := 1) rfl ey149.symm (by decide) rfl (fun ls hl => ?_)
                  refine lv_goto (tgt := 3) X.1 X.2.1 dX10_append_52 (by decide) ?_
                  refine lv_iload_n X.1 X.2.1 dX10_append_3 rfl (lv_at hl 0 rfl) ?_
                  refine lv_if_lt (tgt := 55) X.1 X.2.1 dX10_append_4 (by decide) (fun c150 => ?_) (fun c150 => ?_)
                  · exact ((iv_no (iv_lt (b' := (-1)) c150 (iv_add (a' := 0) (b' := 0) ey149 (iv_add (a' := 8) (b' := 8) ey144 (iv_add (a' := 16) (b' := 16) ey96 (iv_c 24 (a := 24) (b := 24) (by decide +kernel)) (iv_c _ (a := (-8)) (b := (-8)) (by decide +kernel)) (by decide +kernel)) (iv_c _ (a := (-8)) (b := (-8)) (by decide +kernel)) (by decide +kernel)) (iv_c _ (a := (-8)) (b := (-8)) (by decide +kernel)) (by decide +kernel)) (iv_c 0 (a := 0) (b := 0) (by decide +kernel)) (by decide +kernel)) (by decide +kernel))).elim
                  · refine lv_iload_n X.1 X.2.1 dX10_append_7 rfl (lv_at hl 3 rfl) ?_
                    refine lv_iload_n X.1 X.2.1 dX10_append_8 rfl (lv_at hl 0 rfl) ?_
                    obtain ⟨f151, ef151⟩ : ∃ y : Int32, y = (x1.toUInt32 >>> ((y149 : Int32).toUInt32 &&& Int32.toUInt32 31)).toInt32 := ⟨_, rfl⟩
                    refine lv_iushr (v := f151) X.1 X.2.1 dX10_append_9 ef151.symm ?_
                    refine lv_sipush (v := 255) X.1 X.2.1 dX10_append_10 (by decide +kernel) ?_
                    refine lv_iand X.1 X.2.1 dX10_append_13 ?_
                    refine lv_topi (fun f152 ef152 => ?_)
                    refine lv_istore_n (lv' := [(3, .int f152), (2, .int y149), (0, .ref a0), (1, .int x1)]) X.1 X.2.1 dX10_append_14 rfl hl (by decide) rfl (fun ls hl => ?_)
                    refine lv_iload_n X.1 X.2.1 dX10_append_15 rfl (lv_at hl 0 rfl) ?_
                    refine lv_if_eq (tgt := 49) X.1 X.2.1 dX10_append_16 (by decide) (fun c153 => ?_) (fun c153 => ?_)
                    · obtain ⟨y154, ey154⟩ : ∃ y : Int32, y = y149 + Int32.ofInt (-8) := ⟨_, rfl⟩
                      refine lv_iinc (v := y154) (lv' := [(2, .int y154), (3, .int f152), (0, .ref a0), (1, .int x1)]) X.1 X.2.1 dX10_append_49 hl (k := 1) rfl ey154.symm (by decide) rfl (fun ls hl => ?_)
                      refine lv_goto (tgt := 3) X.1 X.2.1 dX10_append_52 (by decide) ?_
                      refine lv_iload_n X.1 X.2.1 dX10_append_3 rfl (lv_at hl 0 rfl) ?_
                      refine lv_if_lt (tgt := 55) X.1 X.2.1 dX10_append_4 (by decide) (fun c155 => ?_) (fun c155 => ?_)
                      · have hap : sgAp x1 (sgT1 P, sgL1 P) = ((sgUp (sgUp (sgT1 P) ((sgL1 P)).toNat (sgB1 x1 24)) (((sgL1 P) + 1)).toNat (sgB1 x1 16)), (((sgL1 P) + 1) + 1)) := by unfold sgAp; rw [sgA1_1 ef2 ef3 (sg_kc (24) (iv_c 24 (a := 24) (b := 24) (by decide +kernel)) (by decide +kernel)) (by decide) c4, sgA1_1 ef98 ef99 (sg_kc (16) (iv_add (a' := 16) (b' := 16) ey96 (iv_c 24 (a := 24) (b := 24) (by decide +kernel)) (iv_c _ (a := (-8)) (b := (-8)) (by decide +kernel)) (by decide +kernel)) (by decide +kernel)) (by decide) c100, sgA1_0 ef146 ef147 (sg_kc (8) (iv_add (a' := 8) (b' := 8) ey144 (iv_add (a' := 16) (b' := 16) ey96 (iv_c 24 (a := 24) (b := 24) (by decide +kernel)) (iv_c _ (a := (-8)) (b := (-8)) (by decide +kernel)) (by decide +kernel)) (iv_c _ (a := (-8)) (b := (-8)) (by decide +kernel)) (by decide +kernel)) (by decide +kernel)) (by decide) c148, sgA1_0 ef151 ef152 (sg_kc (0) (iv_add (a' := 0) (b' := 0) ey149 (iv_add (a' := 8) (b' := 8) ey144 (iv_add (a' := 16) (b' := 16) ey96 (iv_c 24 (a := 24) (b := 24) (by decide +kernel)) (iv_c _ (a := (-8)) (b := (-8)) (by decide +kernel)) (by decide +kernel)) (iv_c _ (a := (-8)) (b := (-8)) (by decide +kernel)) (by decide +kernel)) (iv_c _ (a := (-8)) (b := (-8)) (by decide +kernel)) (by decide +kernel)) (by decide +kernel)) (by decide) c153]
                        exact sg_vret2 X hr hlk hS (fun t ht hW => (by rw [hap]; exact sg_post hb hK hC hG hS ht hW)) dX10_append_55
                      · exact ((iv_no (iv_le (b' := (-8)) (iv_ge_of c155) (iv_c 0 (a := 0) (b := 0) (by decide +kernel)) (iv_add (a' := (-8)) (b' := (-8)) ey154 (iv_add (a' := 0) (b' := 0) ey149 (iv_add (a' := 8) (b' := 8) ey144 (iv_add (a' := 16) (b' := 16) ey96 (iv_c 24 (a := 24) (b := 24) (by decide +kernel)) (iv_c _ (a := (-8)) (b := (-8)) (by decide +kernel)) (by decide +kernel)) (iv_c _ (a := (-8)) (b := (-8)) (by decide +kernel)) (by decide +kernel)) (iv_c _ (a := (-8)) (b := (-8)) (by decide +kernel)) (by decide +kernel)) (iv_c _ (a := (-8)) (b := (-8)) (by decide +kernel)) (by decide +kernel)) (by decide +kernel)) (by decide +kernel))).elim
                    · refine lv_aload_n X.1 X.2.1 dX10_append_19 rfl (lv_at hl 2 rfl) ?_
                      refine gf_X10_1 X hK hG h0 wl_1_43 dX10_append_20 (fun f156 hf156 pf156 kf156 => ?_)
                      refine lv_sipush (v := 240) X.1 X.2.1 dX10_append_23 (by decide +kernel) ?_
                      have nb24 := sg_nbqU ef2 ef3 (sg_kc (24) (iv_c 24 (a := 24) (b := 24) (by decide +kernel)) (by decide +kernel)) (by decide) c4
                      have nb16 := sg_nbqU ef98 ef99 (sg_kc (16) (iv_add (a' := 16) (b' := 16) ey96 (iv_c 24 (a := 24) (b := 24) (by decide +kernel)) (iv_c _ (a := (-8)) (b := (-8)) (by decide +kernel)) (by decide +kernel)) (by decide +kernel)) (by decide) c100
                      have nb8 := sg_nbpU ef146 ef147 (sg_kc (8) (iv_add (a' := 8) (b' := 8) ey144 (iv_add (a' := 16) (b' := 16) ey96 (iv_c 24 (a := 24) (b := 24) (by decide +kernel)) (iv_c _ (a := (-8)) (b := (-8)) (by decide +kernel)) (by decide +kernel)) (iv_c _ (a := (-8)) (b := (-8)) (by decide +kernel)) (by decide +kernel)) (by decide +kernel)) (by decide) c148
                      have nb0 := sg_nbqU ef151 ef152 (sg_kc (0) (iv_add (a' := 0) (b' := 0) ey149 (iv_add (a' := 8) (b' := 8) ey144 (iv_add (a' := 16) (b' := 16) ey96 (iv_c 24 (a := 24) (b := 24) (by decide +kernel)) (iv_c _ (a := (-8)) (b := (-8)) (by decide +kernel)) (by decide +kernel)) (iv_c _ (a := (-8)) (b := (-8)) (by decide +kernel)) (by decide +kernel)) (iv_c _ (a := (-8)) (b := (-8)) (by decide +kernel)) (by decide +kernel)) (by decide +kernel)) (by decide) c153
                      have nl24 := sg_nb1_le x1 24
                      have nl16 := sg_nb1_le x1 16
                      have nl8 := sg_nb1_le x1 8
                      have nl0 := sg_nb1_le x1 0
                      have hnb : sg_nb x1 = sg_nb1 x1 24 + sg_nb1 x1 16 + sg_nb1 x1 8 + sg_nb1 x1 0 := rfl
                      have hx26 : f156.toInt = (((sgL1 P) + 1) + 1) := sgC240_eq (l := (((sgL1 P) + 1) + 1)) pf156 (by omega) (by omega)
                      have hy26 : iv 0 239 f156 := ⟨by omega, by omega⟩
                      refine lv_icmp_ge (tgt := 49) X.1 X.2.1 dX10_append_26 (by decide) (fun c157 => ?_) (fun c157 => ?_)
                      · exact ((iv_no (iv_le (b' := 239) c157 (iv_c 240 (a := 240) (b := 240) (by decide +kernel)) hy26 (by decide +kernel)) (by decide +kernel))).elim
                      · refine lv_aload_n X.1 X.2.1 dX10_append_29 rfl (lv_at hl 2 rfl) ?_
                        refine gf_X10_0 X hK hG h0 wl_1_41 dX10_append_30 (fun q158 hq158 kq158 => ?_)
                        refine lv_aload_n X.1 X.2.1 dX10_append_33 rfl (lv_at hl 2 rfl) ?_
                        refine gg_X10_1 X hK hG h0 wl_1_43 kf156 dX10_append_34 ?_
                        refine lv_iload_n X.1 X.2.1 dX10_append_37 rfl (lv_at hl 0 rfl) ?_
                        refine as_42q X hK hG hS hq158 (iv_vpin hy26 (by decide +kernel)) dX10_append_38 (fun H locs hG hS => ?_)
                        rw [sgC240_ix (l := (((sgL1 P) + 1) + 1)) pf156 (by omega) (by omega), sgB1_of ef151 ef152 (sg_kc (0) (iv_add (a' := 0) (b' := 0) ey149 (iv_add (a' := 8) (b' := 8) ey144 (iv_add (a' := 16) (b' := 16) ey96 (iv_c 24 (a := 24) (b := 24) (by decide +kernel)) (iv_c _ (a := (-8)) (b := (-8)) (by decide +kernel)) (by decide +kernel)) (iv_c _ (a := (-8)) (b := (-8)) (by decide +kernel)) (by decide +kernel)) (iv_c _ (a := (-8)) (b := (-8)) (by decide +kernel)) (by decide +kernel)) (by decide +kernel)) (by decide)] at hG
                        refine lv_aload_n X.1 X.2.1 dX10_append_39 rfl (lv_at hl 2 rfl) ?_
                        refine lv_dup X.1 X.2.1 dX10_append_40 rfl ?_
                        refine gf_X10_1 X hK hG h0 wl_1_43 dX10_append_41 (fun f159 hf159 pf159 kf159 => ?_)
                        refine lv_iconst (v := 1) X.1 X.2.1 dX10_append_44 (by decide +kernel) ?_
                        refine lv_iadd X.1 X.2.1 dX10_append_45 ?_
                        refine lv_topi (fun f160 ef160 => ?_)
                        have nb24 := sg_nbqU ef2 ef3 (sg_kc (24) (iv_c 24 (a := 24) (b := 24) (by decide +kernel)) (by decide +kernel)) (by decide) c4
                        have nb16 := sg_nbqU ef98 ef99 (sg_kc (16) (iv_add (a' := 16) (b' := 16) ey96 (iv_c 24 (a := 24) (b := 24) (by decide +kernel)) (iv_c _ (a := (-8)) (b := (-8)) (by decide +kernel)) (by decide +kernel)) (by decide +kernel)) (by decide) c100
                        have nb8 := sg_nbpU ef146 ef147 (sg_kc (8) (iv_add (a' := 8) (b' := 8) ey144 (iv_add (a' := 16) (b' := 16) ey96 (iv_c 24 (a := 24) (b := 24) (by decide +kernel)) (iv_c _ (a := (-8)) (b := (-8)) (by decide +kernel)) (by decide +kernel)) (iv_c _ (a := (-8)) (b := (-8)) (by decide +kernel)) (by decide +kernel)) (by decide +kernel)) (by decide) c148
                        have nb0 := sg_nbqU ef151 ef152 (sg_kc (0) (iv_add (a' := 0) (b' := 0) ey149 (iv_add (a' := 8) (b' := 8) ey144 (iv_add (a' := 16) (b' := 16) ey96 (iv_c 24 (a := 24) (b := 24) (by decide +kernel)) (iv_c _ (a := (-8)) (b := (-8)) (by decide +kernel)) (by decide +kernel)) (iv_c _ (a := (-8)) (b := (-8)) (by decide +kernel)) (by decide +kernel)) (iv_c _ (a := (-8)) (b := (-8)) (by decide +kernel)) (by decide +kernel)) (by decide +kernel)) (by decide) c153
                        have nl24 := sg_nb1_le x1 24
                        have nl16 := sg_nb1_le x1 16
                        have nl8 := sg_nb1_le x1 8
                        have nl0 := sg_nb1_le x1 0
                        have hnb : sg_nb x1 = sg_nb1 x1 24 + sg_nb1 x1 16 + sg_nb1 x1 8 + sg_nb1 x1 0 := rfl
                        have hx46 : f159.toInt = (((sgL1 P) + 1) + 1) := sgC240_eq (l := (((sgL1 P) + 1) + 1)) pf159 (by omega) (by omega)
                        have hz46 : f160.toInt = (((sgL1 P) + 1) + 1) + 1 := by rw [sg_inc (k := 1) ef160 hf159 (by decide +kernel), hx46]
                        have hy46 : iv 1 240 f160 := ⟨by omega, by omega⟩
                        refine pf_X10_1q X hK hG hS h0 wl_1_43 (iv_of hy46 (a' := 0) (b' := 240) (by decide +kernel)) dX10_append_46 (fun H locs hG hS => ?_)
                        have hl49 : f160.toInt = (((sgL1 P) + 1) + 1) + 1 := by rw [sg_inc (k := 1) ef160 hf159 (by decide +kernel), sgC240_eq (l := (((sgL1 P) + 1) + 1)) pf159 (by omega) (by omega)]
                        rw [hl49] at hG
                        obtain ⟨y161, ey161⟩ : ∃ y : Int32, y = y149 + Int32.ofInt (-8) := ⟨_, rfl⟩
                        refine lv_iinc (v := y161) (lv' := [(2, .int y161), (3, .int f152), (0, .ref a0), (1, .int x1)]) X.1 X.2.1 dX10_append_49 hl (k := 1) rfl ey161.symm (by decide) rfl (fun ls hl => ?_)
                        refine lv_goto (tgt := 3) X.1 X.2.1 dX10_append_52 (by decide) ?_
                        refine lv_iload_n X.1 X.2.1 dX10_append_3 rfl (lv_at hl 0 rfl) ?_
                        refine lv_if_lt (tgt := 55) X.1 X.2.1 dX10_append_4 (by decide) (fun c162 => ?_) (fun c162 => ?_)
                        · have hap : sgAp x1 (sgT1 P, sgL1 P) = ((sgUp (sgUp (sgUp (sgT1 P) ((sgL1 P)).toNat (sgB1 x1 24)) (((sgL1 P) + 1)).toNat (sgB1 x1 16)) ((((sgL1 P) + 1) + 1)).toNat (sgB1 x1 0)), ((((sgL1 P) + 1) + 1) + 1)) := by unfold sgAp; rw [sgA1_1 ef2 ef3 (sg_kc (24) (iv_c 24 (a := 24) (b := 24) (by decide +kernel)) (by decide +kernel)) (by decide) c4, sgA1_1 ef98 ef99 (sg_kc (16) (iv_add (a' := 16) (b' := 16) ey96 (iv_c 24 (a := 24) (b := 24) (by decide +kernel)) (iv_c _ (a := (-8)) (b := (-8)) (by decide +kernel)) (by decide +kernel)) (by decide +kernel)) (by decide) c100, sgA1_0 ef146 ef147 (sg_kc (8) (iv_add (a' := 8) (b' := 8) ey144 (iv_add (a' := 16) (b' := 16) ey96 (iv_c 24 (a := 24) (b := 24) (by decide +kernel)) (iv_c _ (a := (-8)) (b := (-8)) (by decide +kernel)) (by decide +kernel)) (iv_c _ (a := (-8)) (b := (-8)) (by decide +kernel)) (by decide +kernel)) (by decide +kernel)) (by decide) c148, sgA1_1 ef151 ef152 (sg_kc (0) (iv_add (a' := 0) (b' := 0) ey149 (iv_add (a' := 8) (b' := 8) ey144 (iv_add (a' := 16) (b' := 16) ey96 (iv_c 24 (a := 24) (b := 24) (by decide +kernel)) (iv_c _ (a := (-8)) (b := (-8)) (by decide +kernel)) (by decide +kernel)) (iv_c _ (a := (-8)) (b := (-8)) (by decide +kernel)) (by decide +kernel)) (iv_c _ (a := (-8)) (b := (-8)) (by decide +kernel)) (by decide +kernel)) (by decide +kernel)) (by decide) c153]
                          exact sg_vret2 X hr hlk hS (fun t ht hW => (by rw [hap]; exact sg_post hb hK hC hG hS ht hW)) dX10_append_55
                        · exact ((iv_no (iv_le (b' := (-8)) (iv_ge_of c162) (iv_c 0 (a := 0) (b := 0) (by decide +kernel)) (iv_add (a' := (-8)) (b' := (-8)) ey161 (iv_add (a' := 0) (b' := 0) ey149 (iv_add (a' := 8) (b' := 8) ey144 (iv_add (a' := 16) (b' := 16) ey96 (iv_c 24 (a := 24) (b := 24) (by decide +kernel)) (iv_c _ (a := (-8)) (b := (-8)) (by decide +kernel)) (by decide +kernel)) (iv_c _ (a := (-8)) (b := (-8)) (by decide +kernel)) (by decide +kernel)) (iv_c _ (a := (-8)) (b := (-8)) (by decide +kernel)) (by decide +kernel)) (iv_c _ (a := (-8)) (b := (-8)) (by decide +kernel)) (by decide +kernel)) (by decide +kernel)) (by decide +kernel))).elim
                · refine lv_aload_n X.1 X.2.1 dX10_append_19 rfl (lv_at hl 2 rfl) ?_
                  refine gf_X10_1 X hK hG h0 wl_1_43 dX10_append_20 (fun f163 hf163 pf163 kf163 => ?_)
                  refine lv_sipush (v := 240) X.1 X.2.1 dX10_append_23 (by decide +kernel) ?_
                  have nb24 := sg_nbqU ef2 ef3 (sg_kc (24) (iv_c 24 (a := 24) (b := 24) (by decide +kernel)) (by decide +kernel)) (by decide) c4
                  have nb16 := sg_nbqU ef98 ef99 (sg_kc (16) (iv_add (a' := 16) (b' := 16) ey96 (iv_c 24 (a := 24) (b := 24) (by decide +kernel)) (iv_c _ (a := (-8)) (b := (-8)) (by decide +kernel)) (by decide +kernel)) (by decide +kernel)) (by decide) c100
                  have nb8 := sg_nbqU ef146 ef147 (sg_kc (8) (iv_add (a' := 8) (b' := 8) ey144 (iv_add (a' := 16) (b' := 16) ey96 (iv_c 24 (a := 24) (b := 24) (by decide +kernel)) (iv_c _ (a := (-8)) (b := (-8)) (by decide +kernel)) (by decide +kernel)) (iv_c _ (a := (-8)) (b := (-8)) (by decide +kernel)) (by decide +kernel)) (by decide +kernel)) (by decide) c148
                  have nl24 := sg_nb1_le x1 24
                  have nl16 := sg_nb1_le x1 16
                  have nl8 := sg_nb1_le x1 8
                  have nl0 := sg_nb1_le x1 0
                  have hnb : sg_nb x1 = sg_nb1 x1 24 + sg_nb1 x1 16 + sg_nb1 x1 8 + sg_nb1 x1 0 := rfl
                  have hx26 : f163.toInt = (((sgL1 P) + 1) + 1) := sgC240_eq (l := (((sgL1 P) + 1) + 1)) pf163 (by omega) (by omega)
                  have hy26 : iv 0 239 f163 := ⟨by omega, by omega⟩
                  refine lv_icmp_ge (tgt := 49) X.1 X.2.1 dX10_append_26 (by decide) (fun c164 => ?_) (fun c164 => ?_)
                  · exact ((iv_no (iv_le (b' := 239) c164 (iv_c 240 (a := 240) (b := 240) (by decide +kernel)) hy26 (by decide +kernel)) (by decide +kernel))).elim
                  · refine lv_aload_n X.1 X.2.1 dX10_append_29 rfl (lv_at hl 2 rfl) ?_
                    refine gf_X10_0 X hK hG h0 wl_1_41 dX10_append_30 (fun q165 hq165 kq165 => ?_)
                    refine lv_aload_n X.1 X.2.1 dX10_append_33 rfl (lv_at hl 2 rfl) ?_
                    refine gg_X10_1 X hK hG h0 wl_1_43 kf163 dX10_append_34 ?_
                    refine lv_iload_n X.1 X.2.1 dX10_append_37 rfl (lv_at hl 0 rfl) ?_
                    refine as_42q X hK hG hS hq165 (iv_vpin hy26 (by decide +kernel)) dX10_append_38 (fun H locs hG hS => ?_)
                    rw [sgC240_ix (l := (((sgL1 P) + 1) + 1)) pf163 (by omega) (by omega), sgB1_of ef146 ef147 (sg_kc (8) (iv_add (a' := 8) (b' := 8) ey144 (iv_add (a' := 16) (b' := 16) ey96 (iv_c 24 (a := 24) (b := 24) (by decide +kernel)) (iv_c _ (a := (-8)) (b := (-8)) (by decide +kernel)) (by decide +kernel)) (iv_c _ (a := (-8)) (b := (-8)) (by decide +kernel)) (by decide +kernel)) (by decide +kernel)) (by decide)] at hG
                    refine lv_aload_n X.1 X.2.1 dX10_append_39 rfl (lv_at hl 2 rfl) ?_
                    refine lv_dup X.1 X.2.1 dX10_append_40 rfl ?_
                    refine gf_X10_1 X hK hG h0 wl_1_43 dX10_append_41 (fun f166 hf166 pf166 kf166 => ?_)
                    refine lv_iconst (v := 1) X.1 X.2.1 dX10_append_44 (by decide +kernel) ?_
                    refine lv_iadd X.1 X.2.1 dX10_append_45 ?_
                    refine lv_topi (fun f167 ef167 => ?_)
                    have nb24 := sg_nbqU ef2 ef3 (sg_kc (24) (iv_c 24 (a := 24) (b := 24) (by decide +kernel)) (by decide +kernel)) (by decide) c4
                    have nb16 := sg_nbqU ef98 ef99 (sg_kc (16) (iv_add (a' := 16) (b' := 16) ey96 (iv_c 24 (a := 24) (b := 24) (by decide +kernel)) (iv_c _ (a := (-8)) (b := (-8)) (by decide +kernel)) (by decide +kernel)) (by decide +kernel)) (by decide) c100
                    have nb8 := sg_nbqU ef146 ef147 (sg_kc (8) (iv_add (a' := 8) (b' := 8) ey144 (iv_add (a' := 16) (b' := 16) ey96 (iv_c 24 (a := 24) (b := 24) (by decide +kernel)) (iv_c _ (a := (-8)) (b := (-8)) (by decide +kernel)) (by decide +kernel)) (iv_c _ (a := (-8)) (b := (-8)) (by decide +kernel)) (by decide +kernel)) (by decide +kernel)) (by decide) c148
                    have nl24 := sg_nb1_le x1 24
                    have nl16 := sg_nb1_le x1 16
                    have nl8 := sg_nb1_le x1 8
                    have nl0 := sg_nb1_le x1 0
                    have hnb : sg_nb x1 = sg_nb1 x1 24 + sg_nb1 x1 16 + sg_nb1 x1 8 + sg_nb1 x1 0 := rfl
                    have hx46 : f166.toInt = (((sgL1 P) + 1) + 1) := sgC240_eq (l := (((sgL1 P) + 1) + 1)) pf166 (by omega) (by omega)
                    have hz46 : f167.toInt = (((sgL1 P) + 1) + 1) + 1 := by rw [sg_inc (k := 1) ef167 hf166 (by decide +kernel), hx46]
                    have hy46 : iv 1 240 f167 := ⟨by omega, by omega⟩
                    refine pf_X10_1q X hK hG hS h0 wl_1_43 (iv_of hy46 (a' := 0) (b' := 240) (by decide +kernel)) dX10_append_46 (fun H locs hG hS => ?_)
                    have hl49 : f167.toInt = (((sgL1 P) + 1) + 1) + 1 := by rw [sg_inc (k := 1) ef167 hf166 (by decide +kernel), sgC240_eq (l := (((sgL1 P) + 1) + 1)) pf166 (by omega) (by omega)]
                    rw [hl49] at hG
                    obtain ⟨y168, ey168⟩ : ∃ y : Int32, y = y144 + Int32.ofInt (-8) := ⟨_, rfl⟩
                    refine lv_iinc (v := y168) (lv' := [(2, .int y168), (3, .int f147), (0, .ref a0), (1, .int x1)]) X.1 X.2.1 dX10_append_49 hl (k := 1) rfl ey168.symm (by decide) rfl (fun ls hl => ?_)
                    refine lv_goto (tgt := 3) X.1 X.2.1 dX10_append_52 (by decide) ?_
                    refine lv_iload_n X.1 X.2.1 dX10_append_3 rfl (lv_at hl 0 rfl) ?_
                    refine lv_if_lt (tgt := 55) X.1 X.2.1 dX10_append_4 (by decide) (fun c169 => ?_) (fun c169 => ?_)
                    · exact ((iv_no (iv_lt (b' := (-1)) c169 (iv_add (a' := 0) (b' := 0) ey168 (iv_add (a' := 8) (b' := 8) ey144 (iv_add (a' := 16) (b' := 16) ey96 (iv_c 24 (a := 24) (b := 24) (by decide +kernel)) (iv_c _ (a := (-8)) (b := (-8)) (by decide +kernel)) (by decide +kernel)) (iv_c _ (a := (-8)) (b := (-8)) (by decide +kernel)) (by decide +kernel)) (iv_c _ (a := (-8)) (b := (-8)) (by decide +kernel)) (by decide +kernel)) (iv_c 0 (a := 0) (b := 0) (by decide +kernel)) (by decide +kernel)) (by decide +kernel))).elim
                    · refine lv_iload_n X.1 X.2.1 dX10_append_7 rfl (lv_at hl 3 rfl) ?_
                      refine lv_iload_n X.1 X.2.1 dX10_append_8 rfl (lv_at hl 0 rfl) ?_
                      obtain ⟨f170, ef170⟩ : ∃ y : Int32, y = (x1.toUInt32 >>> ((y168 : Int32).toUInt32 &&& Int32.toUInt32 31)).toInt32 := ⟨_, rfl⟩
                      refine lv_iushr (v := f170) X.1 X.2.1 dX10_append_9 ef170.symm ?_
                      refine lv_sipush (v := 255) X.1 X.2.1 dX10_append_10 (by decide +kernel) ?_
                      refine lv_iand X.1 X.2.1 dX10_append_13 ?_
                      refine lv_topi (fun f171 ef171 => ?_)
                      refine lv_istore_n (lv' := [(3, .int f171), (2, .int y168), (0, .ref a0), (1, .int x1)]) X.1 X.2.1 dX10_append_14 rfl hl (by decide) rfl (fun ls hl => ?_)
                      refine lv_iload_n X.1 X.2.1 dX10_append_15 rfl (lv_at hl 0 rfl) ?_
                      refine lv_if_eq (tgt := 49) X.1 X.2.1 dX10_append_16 (by decide) (fun c172 => ?_) (fun c172 => ?_)
                      · obtain ⟨y173, ey173⟩ : ∃ y : Int32, y = y168 + Int32.ofInt (-8) := ⟨_, rfl⟩
                        refine lv_iinc (v := y173) (lv' := [(2, .int y173), (3, .int f171), (0, .ref a0), (1, .int x1)]) X.1 X.2.1 dX10_append_49 hl (k := 1) rfl ey173.symm (by decide) rfl (fun ls hl => ?_)
                        refine lv_goto (tgt := 3) X.1 X.2.1 dX10_append_52 (by decide) ?_
                        refine lv_iload_n X.1 X.2.1 dX10_append_3 rfl (lv_at hl 0 rfl) ?_
                        refine lv_if_lt (tgt := 55) X.1 X.2.1 dX10_append_4 (by decide) (fun c174 => ?_) (fun c174 => ?_)
                        · have hap : sgAp x1 (sgT1 P, sgL1 P) = ((sgUp (sgUp (sgUp (sgT1 P) ((sgL1 P)).toNat (sgB1 x1 24)) (((sgL1 P) + 1)).toNat (sgB1 x1 16)) ((((sgL1 P) + 1) + 1)).toNat (sgB1 x1 8)), ((((sgL1 P) + 1) + 1) + 1)) := by unfold sgAp; rw [sgA1_1 ef2 ef3 (sg_kc (24) (iv_c 24 (a := 24) (b := 24) (by decide +kernel)) (by decide +kernel)) (by decide) c4, sgA1_1 ef98 ef99 (sg_kc (16) (iv_add (a' := 16) (b' := 16) ey96 (iv_c 24 (a := 24) (b := 24) (by decide +kernel)) (iv_c _ (a := (-8)) (b := (-8)) (by decide +kernel)) (by decide +kernel)) (by decide +kernel)) (by decide) c100, sgA1_1 ef146 ef147 (sg_kc (8) (iv_add (a' := 8) (b' := 8) ey144 (iv_add (a' := 16) (b' := 16) ey96 (iv_c 24 (a := 24) (b := 24) (by decide +kernel)) (iv_c _ (a := (-8)) (b := (-8)) (by decide +kernel)) (by decide +kernel)) (iv_c _ (a := (-8)) (b := (-8)) (by decide +kernel)) (by decide +kernel)) (by decide +kernel)) (by decide) c148, sgA1_0 ef170 ef171 (sg_kc (0) (iv_add (a' := 0) (b' := 0) ey168 (iv_add (a' := 8) (b' := 8) ey144 (iv_add (a' := 16) (b' := 16) ey96 (iv_c 24 (a := 24) (b := 24) (by decide +kernel)) (iv_c _ (a := (-8)) (b := (-8)) (by decide +kernel)) (by decide +kernel)) (iv_c _ (a := (-8)) (b := (-8)) (by decide +kernel)) (by decide +kernel)) (iv_c _ (a := (-8)) (b := (-8)) (by decide +kernel)) (by decide +kernel)) (by decide +kernel)) (by decide) c172]
                          exact sg_vret2 X hr hlk hS (fun t ht hW => (by rw [hap]; exact sg_post hb hK hC hG hS ht hW)) dX10_append_55
                        · exact ((iv_no (iv_le (b' := (-8)) (iv_ge_of c174) (iv_c 0 (a := 0) (b := 0) (by decide +kernel)) (iv_add (a' := (-8)) (b' := (-8)) ey173 (iv_add (a' := 0) (b' := 0) ey168 (iv_add (a' := 8) (b' := 8) ey144 (iv_add (a' := 16) (b' := 16) ey96 (iv_c 24 (a := 24) (b := 24) (by decide +kernel)) (iv_c _ (a := (-8)) (b := (-8)) (by decide +kernel)) (by decide +kernel)) (iv_c _ (a := (-8)) (b := (-8)) (by decide +kernel)) (by decide +kernel)) (iv_c _ (a := (-8)) (b := (-8)) (by decide +kernel)) (by decide +kernel)) (iv_c _ (a := (-8)) (b := (-8)) (by decide +kernel)) (by decide +kernel)) (by decide +kernel)) (by decide +kernel))).elim
                      · refine lv_aload_n X.1 X.2.1 dX10_append_19 rfl (lv_at hl 2 rfl) ?_
                        refine gf_X10_1 X hK hG h0 wl_1_43 dX10_append_20 (fun f175 hf175 pf175 kf175 => ?_)
                        refine lv_sipush (v := 240) X.1 X.2.1 dX10_append_23 (by decide +kernel) ?_
                        have nb24 := sg_nbqU ef2 ef3 (sg_kc (24) (iv_c 24 (a := 24) (b := 24) (by decide +kernel)) (by decide +kernel)) (by decide) c4
                        have nb16 := sg_nbqU ef98 ef99 (sg_kc (16) (iv_add (a' := 16) (b' := 16) ey96 (iv_c 24 (a := 24) (b := 24) (by decide +kernel)) (iv_c _ (a := (-8)) (b := (-8)) (by decide +kernel)) (by decide +kernel)) (by decide +kernel)) (by decide) c100
                        have nb8 := sg_nbqU ef146 ef147 (sg_kc (8) (iv_add (a' := 8) (b' := 8) ey144 (iv_add (a' := 16) (b' := 16) ey96 (iv_c 24 (a := 24) (b := 24) (by decide +kernel)) (iv_c _ (a := (-8)) (b := (-8)) (by decide +kernel)) (by decide +kernel)) (iv_c _ (a := (-8)) (b := (-8)) (by decide +kernel)) (by decide +kernel)) (by decide +kernel)) (by decide) c148
                        have nb0 := sg_nbqU ef170 ef171 (sg_kc (0) (iv_add (a' := 0) (b' := 0) ey168 (iv_add (a' := 8) (b' := 8) ey144 (iv_add (a' := 16) (b' := 16) ey96 (iv_c 24 (a := 24) (b := 24) (by decide +kernel)) (iv_c _ (a := (-8)) (b := (-8)) (by decide +kernel)) (by decide +kernel)) (iv_c _ (a := (-8)) (b := (-8)) (by decide +kernel)) (by decide +kernel)) (iv_c _ (a := (-8)) (b := (-8)) (by decide +kernel)) (by decide +kernel)) (by decide +kernel)) (by decide) c172
                        have nl24 := sg_nb1_le x1 24
                        have nl16 := sg_nb1_le x1 16
                        have nl8 := sg_nb1_le x1 8
                        have nl0 := sg_nb1_le x1 0
                        have hnb : sg_nb x1 = sg_nb1 x1 24 + sg_nb1 x1 16 + sg_nb1 x1 8 + sg_nb1 x1 0 := rfl
                        have hx26 : f175.toInt = ((((sgL1 P) + 1) + 1) + 1) := sgC240_eq (l := ((((sgL1 P) + 1) + 1) + 1)) pf175 (by omega) (by omega)
                        have hy26 : iv 0 239 f175 := ⟨by omega, by omega⟩
                        refine lv_icmp_ge (tgt := 49) X.1 X.2.1 dX10_append_26 (by decide) (fun c176 => ?_) (fun c176 => ?_)
                        · exact ((iv_no (iv_le (b' := 239) c176 (iv_c 240 (a := 240) (b := 240) (by decide +kernel)) hy26 (by decide +kernel)) (by decide +kernel))).elim
                        · refine lv_aload_n X.1 X.2.1 dX10_append_29 rfl (lv_at hl 2 rfl) ?_
                          refine gf_X10_0 X hK hG h0 wl_1_41 dX10_append_30 (fun q177 hq177 kq177 => ?_)
                          refine lv_aload_n X.1 X.2.1 dX10_append_33 rfl (lv_at hl 2 rfl) ?_
                          refine gg_X10_1 X hK hG h0 wl_1_43 kf175 dX10_append_34 ?_
                          refine lv_iload_n X.1 X.2.1 dX10_append_37 rfl (lv_at hl 0 rfl) ?_
                          refine as_42q X hK hG hS hq177 (iv_vpin hy26 (by decide +kernel)) dX10_append_38 (fun H locs hG hS => ?_)
                          rw [sgC240_ix (l := ((((sgL1 P) + 1) + 1) + 1)) pf175 (by omega) (by omega), sgB1_of ef170 ef171 (sg_kc (0) (iv_add (a' := 0) (b' := 0) ey168 (iv_add (a' := 8) (b' := 8) ey144 (iv_add (a' := 16) (b' := 16) ey96 (iv_c 24 (a := 24) (b := 24) (by decide +kernel)) (iv_c _ (a := (-8)) (b := (-8)) (by decide +kernel)) (by decide +kernel)) (iv_c _ (a := (-8)) (b := (-8)) (by decide +kernel)) (by decide +kernel)) (iv_c _ (a := (-8)) (b := (-8)) (by decide +kernel)) (by decide +kernel)) (by decide +kernel)) (by decide)] at hG
                          refine lv_aload_n X.1 X.2.1 dX10_append_39 rfl (lv_at hl 2 rfl) ?_
                          refine lv_dup X.1 X.2.1 dX10_append_40 rfl ?_
                          refine gf_X10_1 X hK hG h0 wl_1_43 dX10_append_41 (fun f178 hf178 pf178 kf178 => ?_)
                          refine lv_iconst (v := 1) X.1 X.2.1 dX10_append_44 (by decide +kernel) ?_
                          refine lv_iadd X.1 X.2.1 dX10_append_45 ?_
                          refine lv_topi (fun f179 ef179 => ?_)
                          have nb24 := sg_nbqU ef2 ef3 (sg_kc (24) (iv_c 24 (a := 24) (b := 24) (by decide +kernel)) (by decide +kernel)) (by decide) c4
                          have nb16 := sg_nbqU ef98 ef99 (sg_kc (16) (iv_add (a' := 16) (b' := 16) ey96 (iv_c 24 (a := 24) (b := 24) (by decide +kernel)) (iv_c _ (a := (-8)) (b := (-8)) (by decide +kernel)) (by decide +kernel)) (by decide +kernel)) (by decide) c100
                          have nb8 := sg_nbqU ef146 ef147 (sg_kc (8) (iv_add (a' := 8) (b' := 8) ey144 (iv_add (a' := 16) (b' := 16) ey96 (iv_c 24 (a := 24) (b := 24) (by decide +kernel)) (iv_c _ (a := (-8)) (b := (-8)) (by decide +kernel)) (by decide +kernel)) (iv_c _ (a := (-8)) (b := (-8)) (by decide +kernel)) (by decide +kernel)) (by decide +kernel)) (by decide) c148
                          have nb0 := sg_nbqU ef170 ef171 (sg_kc (0) (iv_add (a' := 0) (b' := 0) ey168 (iv_add (a' := 8) (b' := 8) ey144 (iv_add (a' := 16) (b' := 16) ey96 (iv_c 24 (a := 24) (b := 24) (by decide +kernel)) (iv_c _ (a := (-8)) (b := (-8)) (by decide +kernel)) (by decide +kernel)) (iv_c _ (a := (-8)) (b := (-8)) (by decide +kernel)) (by decide +kernel)) (iv_c _ (a := (-8)) (b := (-8)) (by decide +kernel)) (by decide +kernel)) (by decide +kernel)) (by decide) c172
                          have nl24 := sg_nb1_le x1 24
                          have nl16 := sg_nb1_le x1 16
                          have nl8 := sg_nb1_le x1 8
                          have nl0 := sg_nb1_le x1 0
                          have hnb : sg_nb x1 = sg_nb1 x1 24 + sg_nb1 x1 16 + sg_nb1 x1 8 + sg_nb1 x1 0 := rfl
                          have hx46 : f178.toInt = ((((sgL1 P) + 1) + 1) + 1) := sgC240_eq (l := ((((sgL1 P) + 1) + 1) + 1)) pf178 (by omega) (by omega)
                          have hz46 : f179.toInt = ((((sgL1 P) + 1) + 1) + 1) + 1 := by rw [sg_inc (k := 1) ef179 hf178 (by decide +kernel), hx46]
                          have hy46 : iv 1 240 f179 := ⟨by omega, by omega⟩
                          refine pf_X10_1q X hK hG hS h0 wl_1_43 (iv_of hy46 (a' := 0) (b' := 240) (by decide +kernel)) dX10_append_46 (fun H locs hG hS => ?_)
                          have hl49 : f179.toInt = ((((sgL1 P) + 1) + 1) + 1) + 1 := by rw [sg_inc (k := 1) ef179 hf178 (by decide +kernel), sgC240_eq (l := ((((sgL1 P) + 1) + 1) + 1)) pf178 (by omega) (by omega)]
                          rw [hl49] at hG
                          obtain ⟨y180, ey180⟩ : ∃ y : Int32, y = y168 + Int32.ofInt (-8) := ⟨_, rfl⟩
                          refine lv_iinc (v := y180) (lv' := [(2, .int y180), (3, .int f171), (0, .ref a0), (1, .int x1)]) X.1 X.2.1 dX10_append_49 hl (k := 1) rfl ey180.symm (by decide) rfl (fun ls hl => ?_)
                          refine lv_goto (tgt := 3) X.1 X.2.1 dX10_append_52 (by decide) ?_
                          refine lv_iload_n X.1 X.2.1 dX10_append_3 rfl (lv_at hl 0 rfl) ?_
                          refine lv_if_lt (tgt := 55) X.1 X.2.1 dX10_append_4 (by decide) (fun c181 => ?_) (fun c181 => ?_)
                          · have hap : sgAp x1 (sgT1 P, sgL1 P) = ((sgUp (sgUp (sgUp (sgUp (sgT1 P) ((sgL1 P)).toNat (sgB1 x1 24)) (((sgL1 P) + 1)).toNat (sgB1 x1 16)) ((((sgL1 P) + 1) + 1)).toNat (sgB1 x1 8)) (((((sgL1 P) + 1) + 1) + 1)).toNat (sgB1 x1 0)), (((((sgL1 P) + 1) + 1) + 1) + 1)) := by unfold sgAp; rw [sgA1_1 ef2 ef3 (sg_kc (24) (iv_c 24 (a := 24) (b := 24) (by decide +kernel)) (by decide +kernel)) (by decide) c4, sgA1_1 ef98 ef99 (sg_kc (16) (iv_add (a' := 16) (b' := 16) ey96 (iv_c 24 (a := 24) (b := 24) (by decide +kernel)) (iv_c _ (a := (-8)) (b := (-8)) (by decide +kernel)) (by decide +kernel)) (by decide +kernel)) (by decide) c100, sgA1_1 ef146 ef147 (sg_kc (8) (iv_add (a' := 8) (b' := 8) ey144 (iv_add (a' := 16) (b' := 16) ey96 (iv_c 24 (a := 24) (b := 24) (by decide +kernel)) (iv_c _ (a := (-8)) (b := (-8)) (by decide +kernel)) (by decide +kernel)) (iv_c _ (a := (-8)) (b := (-8)) (by decide +kernel)) (by decide +kernel)) (by decide +kernel)) (by decide) c148, sgA1_1 ef170 ef171 (sg_kc (0) (iv_add (a' := 0) (b' := 0) ey168 (iv_add (a' := 8) (b' := 8) ey144 (iv_add (a' := 16) (b' := 16) ey96 (iv_c 24 (a := 24) (b := 24) (by decide +kernel)) (iv_c _ (a := (-8)) (b := (-8)) (by decide +kernel)) (by decide +kernel)) (iv_c _ (a := (-8)) (b := (-8)) (by decide +kernel)) (by decide +kernel)) (iv_c _ (a := (-8)) (b := (-8)) (by decide +kernel)) (by decide +kernel)) (by decide +kernel)) (by decide) c172]
                            exact sg_vret2 X hr hlk hS (fun t ht hW => (by rw [hap]; exact sg_post hb hK hC hG hS ht hW)) dX10_append_55
                          · exact ((iv_no (iv_le (b' := (-8)) (iv_ge_of c181) (iv_c 0 (a := 0) (b := 0) (by decide +kernel)) (iv_add (a' := (-8)) (b' := (-8)) ey180 (iv_add (a' := 0) (b' := 0) ey168 (iv_add (a' := 8) (b' := 8) ey144 (iv_add (a' := 16) (b' := 16) ey96 (iv_c 24 (a := 24) (b := 24) (by decide +kernel)) (iv_c _ (a := (-8)) (b := (-8)) (by decide +kernel)) (by decide +kernel)) (iv_c _ (a := (-8)) (b := (-8)) (by decide +kernel)) (by decide +kernel)) (iv_c _ (a := (-8)) (b := (-8)) (by decide +kernel)) (by decide +kernel)) (iv_c _ (a := (-8)) (b := (-8)) (by decide +kernel)) (by decide +kernel)) (by decide +kernel)) (by decide +kernel))).elim

theorem ca_X10_append_b   (X : CallFix p m c cc nL s args sg_tbl own) (hK : va_K D vwCl tys s) (hG : sgG (KT P) D vwCl (fun q : Nat => base ≤ q) tys ad ks H) (hC : sgC base s) (hS : va_S (fun q : Nat => base ≤ q) s.heap H locs) (hb : base ≤ s.heap.size) (a0 : Nat) (h0 : isK ad ks 10 a0) (x1 : Int32) (hl0 : 0 ≤ sgL1 P ∧ sgL1 P + sg_nb x1 ≤ 240) (hl : Cond.methodLink own index yX10_append ∈ sg_tbl) (hsize : ls.size = nL) (hst : st0 = [.int x1].reverse ++ .ref a0 :: rest) (hW : (rest.map fun v => v.category).sum ≤ 8) (hR : 1 ≤ R.frames ∧ 23 ≤ R.locals) (hf : cells ≤ R.cells ∧ slots ≤ R.slots) (hdg : decode cc pc = .ok (.invokevirtual index, 3)) (kk : ∀ (t : State) (H1 : Heap) (locs1 : List Loc), t.heap = H1 → ((fun t => sgB (KT (sgSt P (sgAp x1 (sgT1 P, sgL1 P)).1 (sgAp x1 (sgT1 P, sgL1 P)).2 (sgT2 P) (sgL2 P))) D vwCl base tys ad ks t) t) → va_S (fun q : Nat => base ≤ q) s.heap H1 locs1 → W p l e R s m args below meth c H1 locs1 cells slots Q (F0 m (pc + 3) ls rest)) : W p l e R s m args below meth c H locs cells slots Q (F0 m pc ls st0) :=
  sg_callV2v X hK hG hC hS hb (m_X10_append_b l a0 h0 x1 hl0) h0 (k := 10) (ci := 10) rfl (C := RX10) (T := TX10) (N := 4) rfl wl_3_17 wl_1_2 wl_3_15 wl_3_16 (n := 1) (by decide +kernel) rfl rfl rfl hl hsize hst hW hR hf hdg kk

set_option maxHeartbeats 8000000 in
set_option maxRecDepth 100000 in
theorem m_X10_fullBytes_b (l : Launch) {D : va_G} {base : Nat} {tys : List (ClassId × FieldType)} {ad ks : List Nat} {P : sgPm} {Hx : Heap} (x0 : Int32) : sgPi l (KT P) D vwCl base tys ad ks Hx yX10_fullBytes cX10_fullBytes 3 (some .int) ({ frames := 0, cells := 0, slots := 0, locals := 0 }) [.int x0] (fun r : Int32 => iv 0 4 r ∧ r.toInt = sg_nb x0) := by
  refine sg_ofP (Pq := fun Hx => va_Qi (fun r (_ : Unit) => (fun r : Int32 => iv 0 4 r ∧ r.toInt = sg_nb x0) r) (fun _ t => t.heap = Hx) (fun _ : Nat => False)) (by decide +kernel) (Nat.le_of_ble_eq_true rfl) (fun p e s m below meth c X hr hlk hb hK hC hG ls hl => ?_)
  have hS : va_S (fun _ : Nat => False) s.heap s.heap [] := va_S.rf
  have hl : lv_has ls 3 [(0, .int x0)] := hl
  refine lv_iconst (v := 0) X.1 X.2.1 dX10_fullBytes_0 (by decide +kernel) ?_
  refine lv_istore_n (lv' := [(1, .int 0), (0, .int x0)]) X.1 X.2.1 dX10_fullBytes_1 rfl hl (by decide) rfl (fun ls hl => ?_)
  refine lv_bipush (v := 24) X.1 X.2.1 dX10_fullBytes_2 (by decide +kernel) ?_
  refine lv_istore_n (lv' := [(2, .int 24), (1, .int 0), (0, .int x0)]) X.1 X.2.1 dX10_fullBytes_4 rfl hl (by decide) rfl (fun ls hl => ?_)
  refine lv_iload_n X.1 X.2.1 dX10_fullBytes_5 rfl (lv_at hl 0 rfl) ?_
  refine lv_if_lt (tgt := 28) X.1 X.2.1 dX10_fullBytes_6 (by decide) (fun c1 => ?_) (fun c1 => ?_)
  · exact ((iv_no (iv_lt (b' := (-1)) c1 (iv_c 24 (a := 24) (b := 24) (by decide +kernel)) (iv_c 0 (a := 0) (b := 0) (by decide +kernel)) (by decide +kernel)) (by decide +kernel))).elim
  · refine lv_iload_n X.1 X.2.1 dX10_fullBytes_9 rfl (lv_at hl 2 rfl) ?_
    refine lv_iload_n X.1 X.2.1 dX10_fullBytes_10 rfl (lv_at hl 0 rfl) ?_
    obtain ⟨f2, ef2⟩ : ∃ y : Int32, y = (x0.toUInt32 >>> ((24 : Int32).toUInt32 &&& Int32.toUInt32 31)).toInt32 := ⟨_, rfl⟩
    refine lv_iushr (v := f2) X.1 X.2.1 dX10_fullBytes_11 ef2.symm ?_
    refine lv_sipush (v := 255) X.1 X.2.1 dX10_fullBytes_12 (by decide +kernel) ?_
    refine lv_iand X.1 X.2.1 dX10_fullBytes_15 ?_
    refine lv_topi (fun f3 ef3 => ?_)
    refine lv_if_eq (tgt := 22) X.1 X.2.1 dX10_fullBytes_16 (by decide) (fun c4 => ?_) (fun c4 => ?_)
    · obtain ⟨y5, ey5⟩ : ∃ y : Int32, y = 24 + Int32.ofInt (-8) := ⟨_, rfl⟩
      refine lv_iinc (v := y5) (lv' := [(2, .int y5), (1, .int 0), (0, .int x0)]) X.1 X.2.1 dX10_fullBytes_22 hl (k := 0) rfl ey5.symm (by decide) rfl (fun ls hl => ?_)
      refine lv_goto (tgt := 5) X.1 X.2.1 dX10_fullBytes_25 (by decide) ?_
      refine lv_iload_n X.1 X.2.1 dX10_fullBytes_5 rfl (lv_at hl 0 rfl) ?_
      refine lv_if_lt (tgt := 28) X.1 X.2.1 dX10_fullBytes_6 (by decide) (fun c6 => ?_) (fun c6 => ?_)
      · exact ((iv_no (iv_lt (b' := (-1)) c6 (iv_add (a' := 16) (b' := 16) ey5 (iv_c 24 (a := 24) (b := 24) (by decide +kernel)) (iv_c _ (a := (-8)) (b := (-8)) (by decide +kernel)) (by decide +kernel)) (iv_c 0 (a := 0) (b := 0) (by decide +kernel)) (by decide +kernel)) (by decide +kernel))).elim
      · refine lv_iload_n X.1 X.2.1 dX10_fullBytes_9 rfl (lv_at hl 2 rfl) ?_
        refine lv_iload_n X.1 X.2.1 dX10_fullBytes_10 rfl (lv_at hl 0 rfl) ?_
        obtain ⟨f7, ef7⟩ : ∃ y : Int32, y = (x0.toUInt32 >>> ((y5 : Int32).toUInt32 &&& Int32.toUInt32 31)).toInt32 := ⟨_, rfl⟩
        refine lv_iushr (v := f7) X.1 X.2.1 dX10_fullBytes_11 ef7.symm ?_
        refine lv_sipush (v := 255) X.1 X.2.1 dX10_fullBytes_12 (by decide +kernel) ?_
        refine lv_iand X.1 X.2.1 dX10_fullBytes_15 ?_
        refine lv_topi (fun f8 ef8 => ?_)
        refine lv_if_eq (tgt := 22) X.1 X.2.1 dX10_fullBytes_16 (by decide) (fun c9 => ?_) (fun c9 => ?_)
        · obtain ⟨y10, ey10⟩ : ∃ y : Int32, y = y5 + Int32.ofInt (-8) := ⟨_, rfl⟩
          refine lv_iinc (v := y10) (lv' := [(2, .int y10), (1, .int 0), (0, .int x0)]) X.1 X.2.1 dX10_fullBytes_22 hl (k := 0) rfl ey10.symm (by decide) rfl (fun ls hl => ?_)
          refine lv_goto (tgt := 5) X.1 X.2.1 dX10_fullBytes_25 (by decide) ?_
          refine lv_iload_n X.1 X.2.1 dX10_fullBytes_5 rfl (lv_at hl 0 rfl) ?_
          refine lv_if_lt (tgt := 28) X.1 X.2.1 dX10_fullBytes_6 (by decide) (fun c11 => ?_) (fun c11 => ?_)
          · exact ((iv_no (iv_lt (b' := (-1)) c11 (iv_add (a' := 8) (b' := 8) ey10 (iv_add (a' := 16) (b' := 16) ey5 (iv_c 24 (a := 24) (b := 24) (by decide +kernel)) (iv_c _ (a := (-8)) (b := (-8)) (by decide +kernel)) (by decide +kernel)) (iv_c _ (a := (-8)) (b := (-8)) (by decide +kernel)) (by decide +kernel)) (iv_c 0 (a := 0) (b := 0) (by decide +kernel)) (by decide +kernel)) (by decide +kernel))).elim
          · refine lv_iload_n X.1 X.2.1 dX10_fullBytes_9 rfl (lv_at hl 2 rfl) ?_
            refine lv_iload_n X.1 X.2.1 dX10_fullBytes_10 rfl (lv_at hl 0 rfl) ?_
            obtain ⟨f12, ef12⟩ : ∃ y : Int32, y = (x0.toUInt32 >>> ((y10 : Int32).toUInt32 &&& Int32.toUInt32 31)).toInt32 := ⟨_, rfl⟩
            refine lv_iushr (v := f12) X.1 X.2.1 dX10_fullBytes_11 ef12.symm ?_
            refine lv_sipush (v := 255) X.1 X.2.1 dX10_fullBytes_12 (by decide +kernel) ?_
            refine lv_iand X.1 X.2.1 dX10_fullBytes_15 ?_
            refine lv_topi (fun f13 ef13 => ?_)
            refine lv_if_eq (tgt := 22) X.1 X.2.1 dX10_fullBytes_16 (by decide) (fun c14 => ?_) (fun c14 => ?_)
            · obtain ⟨y15, ey15⟩ : ∃ y : Int32, y = y10 + Int32.ofInt (-8) := ⟨_, rfl⟩
              refine lv_iinc (v := y15) (lv' := [(2, .int y15), (1, .int 0), (0, .int x0)]) X.1 X.2.1 dX10_fullBytes_22 hl (k := 0) rfl ey15.symm (by decide) rfl (fun ls hl => ?_)
              refine lv_goto (tgt := 5) X.1 X.2.1 dX10_fullBytes_25 (by decide) ?_
              refine lv_iload_n X.1 X.2.1 dX10_fullBytes_5 rfl (lv_at hl 0 rfl) ?_
              refine lv_if_lt (tgt := 28) X.1 X.2.1 dX10_fullBytes_6 (by decide) (fun c16 => ?_) (fun c16 => ?_)
              · exact ((iv_no (iv_lt (b' := (-1)) c16 (iv_add (a' := 0) (b' := 0) ey15 (iv_add (a' := 8) (b' := 8) ey10 (iv_add (a' := 16) (b' := 16) ey5 (iv_c 24 (a := 24) (b := 24) (by decide +kernel)) (iv_c _ (a := (-8)) (b := (-8)) (by decide +kernel)) (by decide +kernel)) (iv_c _ (a := (-8)) (b := (-8)) (by decide +kernel)) (by decide +kernel)) (iv_c _ (a := (-8)) (b := (-8)) (by decide +kernel)) (by decide +kernel)) (iv_c 0 (a := 0) (b := 0) (by decide +kernel)) (by decide +kernel)) (by decide +kernel))).elim
              · refine lv_iload_n X.1 X.2.1 dX10_fullBytes_9 rfl (lv_at hl 2 rfl) ?_
                refine lv_iload_n X.1 X.2.1 dX10_fullBytes_10 rfl (lv_at hl 0 rfl) ?_
                obtain ⟨f17, ef17⟩ : ∃ y : Int32, y = (x0.toUInt32 >>> ((y15 : Int32).toUInt32 &&& Int32.toUInt32 31)).toInt32 := ⟨_, rfl⟩
                refine lv_iushr (v := f17) X.1 X.2.1 dX10_fullBytes_11 ef17.symm ?_
                refine lv_sipush (v := 255) X.1 X.2.1 dX10_fullBytes_12 (by decide +kernel) ?_
                refine lv_iand X.1 X.2.1 dX10_fullBytes_15 ?_
                refine lv_topi (fun f18 ef18 => ?_)
                refine lv_if_eq (tgt := 22) X.1 X.2.1 dX10_fullBytes_16 (by decide) (fun c19 => ?_) (fun c19 => ?_)
                · obtain ⟨y20, ey20⟩ : ∃ y : Int32, y = y15 + Int32.ofInt (-8) := ⟨_, rfl⟩
                  refine lv_iinc (v := y20) (lv' := [(2, .int y20), (1, .int 0), (0, .int x0)]) X.1 X.2.1 dX10_fullBytes_22 hl (k := 0) rfl ey20.symm (by decide) rfl (fun ls hl => ?_)
                  refine lv_goto (tgt := 5) X.1 X.2.1 dX10_fullBytes_25 (by decide) ?_
                  refine lv_iload_n X.1 X.2.1 dX10_fullBytes_5 rfl (lv_at hl 0 rfl) ?_
                  refine lv_if_lt (tgt := 28) X.1 X.2.1 dX10_fullBytes_6 (by decide) (fun c21 => ?_) (fun c21 => ?_)
                  · refine lv_iload_n X.1 X.2.1 dX10_fullBytes_28 rfl (lv_at hl 1 rfl) ?_
                    have nb24 := sg_nbpU ef2 ef3 (sg_kc (24) (iv_c 24 (a := 24) (b := 24) (by decide +kernel)) (by decide +kernel)) (by decide) c4
                    have nb16 := sg_nbpU ef7 ef8 (sg_kc (16) (iv_add (a' := 16) (b' := 16) ey5 (iv_c 24 (a := 24) (b := 24) (by decide +kernel)) (iv_c _ (a := (-8)) (b := (-8)) (by decide +kernel)) (by decide +kernel)) (by decide +kernel)) (by decide) c9
                    have nb8 := sg_nbpU ef12 ef13 (sg_kc (8) (iv_add (a' := 8) (b' := 8) ey10 (iv_add (a' := 16) (b' := 16) ey5 (iv_c 24 (a := 24) (b := 24) (by decide +kernel)) (iv_c _ (a := (-8)) (b := (-8)) (by decide +kernel)) (by decide +kernel)) (iv_c _ (a := (-8)) (b := (-8)) (by decide +kernel)) (by decide +kernel)) (by decide +kernel)) (by decide) c14
                    have nb0 := sg_nbpU ef17 ef18 (sg_kc (0) (iv_add (a' := 0) (b' := 0) ey15 (iv_add (a' := 8) (b' := 8) ey10 (iv_add (a' := 16) (b' := 16) ey5 (iv_c 24 (a := 24) (b := 24) (by decide +kernel)) (iv_c _ (a := (-8)) (b := (-8)) (by decide +kernel)) (by decide +kernel)) (iv_c _ (a := (-8)) (b := (-8)) (by decide +kernel)) (by decide +kernel)) (iv_c _ (a := (-8)) (b := (-8)) (by decide +kernel)) (by decide +kernel)) (by decide +kernel)) (by decide) c19
                    have cq22 : (0 : Int32).toInt = 0 := by decide +kernel
                    exact sg_iretP X hr hlk hS ⟨⟨by omega, by omega⟩, by unfold sg_nb; omega⟩ dX10_fullBytes_29
                  · exact ((iv_no (iv_le (b' := (-8)) (iv_ge_of c21) (iv_c 0 (a := 0) (b := 0) (by decide +kernel)) (iv_add (a' := (-8)) (b' := (-8)) ey20 (iv_add (a' := 0) (b' := 0) ey15 (iv_add (a' := 8) (b' := 8) ey10 (iv_add (a' := 16) (b' := 16) ey5 (iv_c 24 (a := 24) (b := 24) (by decide +kernel)) (iv_c _ (a := (-8)) (b := (-8)) (by decide +kernel)) (by decide +kernel)) (iv_c _ (a := (-8)) (b := (-8)) (by decide +kernel)) (by decide +kernel)) (iv_c _ (a := (-8)) (b := (-8)) (by decide +kernel)) (by decide +kernel)) (iv_c _ (a := (-8)) (b := (-8)) (by decide +kernel)) (by decide +kernel)) (by decide +kernel)) (by decide +kernel))).elim
                · obtain ⟨y23, ey23⟩ : ∃ y : Int32, y = 0 + Int32.ofInt 1 := ⟨_, rfl⟩
                  refine lv_iinc (v := y23) (lv' := [(1, .int y23), (2, .int y15), (0, .int x0)]) X.1 X.2.1 dX10_fullBytes_19 hl (k := 1) rfl ey23.symm (by decide) rfl (fun ls hl => ?_)
                  obtain ⟨y24, ey24⟩ : ∃ y : Int32, y = y15 + Int32.ofInt (-8) := ⟨_, rfl⟩
                  refine lv_iinc (v := y24) (lv' := [(2, .int y24), (1, .int y23), (0, .int x0)]) X.1 X.2.1 dX10_fullBytes_22 hl (k := 1) rfl ey24.symm (by decide) rfl (fun ls hl => ?_)
                  refine lv_goto (tgt := 5) X.1 X.2.1 dX10_fullBytes_25 (by decide) ?_
                  refine lv_iload_n X.1 X.2.1 dX10_fullBytes_5 rfl (lv_at hl 0 rfl) ?_
                  refine lv_if_lt (tgt := 28) X.1 X.2.1 dX10_fullBytes_6 (by decide) (fun c25 => ?_) (fun c25 => ?_)
                  · refine lv_iload_n X.1 X.2.1 dX10_fullBytes_28 rfl (lv_at hl 1 rfl) ?_
                    have nb24 := sg_nbpU ef2 ef3 (sg_kc (24) (iv_c 24 (a := 24) (b := 24) (by decide +kernel)) (by decide +kernel)) (by decide) c4
                    have nb16 := sg_nbpU ef7 ef8 (sg_kc (16) (iv_add (a' := 16) (b' := 16) ey5 (iv_c 24 (a := 24) (b := 24) (by decide +kernel)) (iv_c _ (a := (-8)) (b := (-8)) (by decide +kernel)) (by decide +kernel)) (by decide +kernel)) (by decide) c9
                    have nb8 := sg_nbpU ef12 ef13 (sg_kc (8) (iv_add (a' := 8) (b' := 8) ey10 (iv_add (a' := 16) (b' := 16) ey5 (iv_c 24 (a := 24) (b := 24) (by decide +kernel)) (iv_c _ (a := (-8)) (b := (-8)) (by decide +kernel)) (by decide +kernel)) (iv_c _ (a := (-8)) (b := (-8)) (by decide +kernel)) (by decide +kernel)) (by decide +kernel)) (by decide) c14
                    have nb0 := sg_nbqU ef17 ef18 (sg_kc (0) (iv_add (a' := 0) (b' := 0) ey15 (iv_add (a' := 8) (b' := 8) ey10 (iv_add (a' := 16) (b' := 16) ey5 (iv_c 24 (a := 24) (b := 24) (by decide +kernel)) (iv_c _ (a := (-8)) (b := (-8)) (by decide +kernel)) (by decide +kernel)) (iv_c _ (a := (-8)) (b := (-8)) (by decide +kernel)) (by decide +kernel)) (iv_c _ (a := (-8)) (b := (-8)) (by decide +kernel)) (by decide +kernel)) (by decide +kernel)) (by decide) c19
                    have cq26 : (0 : Int32).toInt = 0 := by decide +kernel
                    have xy23 : y23.toInt = (0 : Int32).toInt + 1 := sg_inc (k := 1) ey23 (iv_c 0 (a := 0) (b := 0) (by decide +kernel)) (by decide +kernel)
                    exact sg_iretP X hr hlk hS ⟨⟨by omega, by omega⟩, by unfold sg_nb; omega⟩ dX10_fullBytes_29
                  · exact ((iv_no (iv_le (b' := (-8)) (iv_ge_of c25) (iv_c 0 (a := 0) (b := 0) (by decide +kernel)) (iv_add (a' := (-8)) (b' := (-8)) ey24 (iv_add (a' := 0) (b' := 0) ey15 (iv_add (a' := 8) (b' := 8) ey10 (iv_add (a' := 16) (b' := 16) ey5 (iv_c 24 (a := 24) (b := 24) (by decide +kernel)) (iv_c _ (a := (-8)) (b := (-8)) (by decide +kernel)) (by decide +kernel)) (iv_c _ (a := (-8)) (b := (-8)) (by decide +kernel)) (by decide +kernel)) (iv_c _ (a := (-8)) (b := (-8)) (by decide +kernel)) (by decide +kernel)) (iv_c _ (a := (-8)) (b := (-8)) (by decide +kernel)) (by decide +kernel)) (by decide +kernel)) (by decide +kernel))).elim
            · obtain ⟨y27, ey27⟩ : ∃ y : Int32, y = 0 + Int32.ofInt 1 := ⟨_, rfl⟩
              refine lv_iinc (v := y27) (lv' := [(1, .int y27), (2, .int y10), (0, .int x0)]) X.1 X.2.1 dX10_fullBytes_19 hl (k := 1) rfl ey27.symm (by decide) rfl (fun ls hl => ?_)
              obtain ⟨y28, ey28⟩ : ∃ y : Int32, y = y10 + Int32.ofInt (-8) := ⟨_, rfl⟩
              refine lv_iinc (v := y28) (lv' := [(2, .int y28), (1, .int y27), (0, .int x0)]) X.1 X.2.1 dX10_fullBytes_22 hl (k := 1) rfl ey28.symm (by decide) rfl (fun ls hl => ?_)
              refine lv_goto (tgt := 5) X.1 X.2.1 dX10_fullBytes_25 (by decide) ?_
              refine lv_iload_n X.1 X.2.1 dX10_fullBytes_5 rfl (lv_at hl 0 rfl) ?_
              refine lv_if_lt (tgt := 28) X.1 X.2.1 dX10_fullBytes_6 (by decide) (fun c29 => ?_) (fun c29 => ?_)
              · exact ((iv_no (iv_lt (b' := (-1)) c29 (iv_add (a' := 0) (b' := 0) ey28 (iv_add (a' := 8) (b' := 8) ey10 (iv_add (a' := 16) (b' := 16) ey5 (iv_c 24 (a := 24) (b := 24) (by decide +kernel)) (iv_c _ (a := (-8)) (b := (-8)) (by decide +kernel)) (by decide +kernel)) (iv_c _ (a := (-8)) (b := (-8)) (by decide +kernel)) (by decide +kernel)) (iv_c _ (a := (-8)) (b := (-8)) (by decide +kernel)) (by decide +kernel)) (iv_c 0 (a := 0) (b := 0) (by decide +kernel)) (by decide +kernel)) (by decide +kernel))).elim
              · refine lv_iload_n X.1 X.2.1 dX10_fullBytes_9 rfl (lv_at hl 2 rfl) ?_
                refine lv_iload_n X.1 X.2.1 dX10_fullBytes_10 rfl (lv_at hl 0 rfl) ?_
                obtain ⟨f30, ef30⟩ : ∃ y : Int32, y = (x0.toUInt32 >>> ((y28 : Int32).toUInt32 &&& Int32.toUInt32 31)).toInt32 := ⟨_, rfl⟩
                refine lv_iushr (v := f30) X.1 X.2.1 dX10_fullBytes_11 ef30.symm ?_
                refine lv_sipush (v := 255) X.1 X.2.1 dX10_fullBytes_12 (by decide +kernel) ?_
                refine lv_iand X.1 X.2.1 dX10_fullBytes_15 ?_
                refine lv_topi (fun f31 ef31 => ?_)
                refine lv_if_eq (tgt := 22) X.1 X.2.1 dX10_fullBytes_16 (by decide) (fun c32 => ?_) (fun c32 => ?_)
                · obtain ⟨y33, ey33⟩ : ∃ y : Int32, y = y28 + Int32.ofInt (-8) := ⟨_, rfl⟩
                  refine lv_iinc (v := y33) (lv' := [(2, .int y33), (1, .int y27), (0, .int x0)]) X.1 X.2.1 dX10_fullBytes_22 hl (k := 0) rfl ey33.symm (by decide) rfl (fun ls hl => ?_)
                  refine lv_goto (tgt := 5) X.1 X.2.1 dX10_fullBytes_25 (by decide) ?_
                  refine lv_iload_n X.1 X.2.1 dX10_fullBytes_5 rfl (lv_at hl 0 rfl) ?_
                  refine lv_if_lt (tgt := 28) X.1 X.2.1 dX10_fullBytes_6 (by decide) (fun c34 => ?_) (fun c34 => ?_)
                  · refine lv_iload_n X.1 X.2.1 dX10_fullBytes_28 rfl (lv_at hl 1 rfl) ?_
                    have nb24 := sg_nbpU ef2 ef3 (sg_kc (24) (iv_c 24 (a := 24) (b := 24) (by decide +kernel)) (by decide +kernel)) (by decide) c4
                    have nb16 := sg_nbpU ef7 ef8 (sg_kc (16) (iv_add (a' := 16) (b' := 16) ey5 (iv_c 24 (a := 24) (b := 24) (by decide +kernel)) (iv_c _ (a := (-8)) (b := (-8)) (by decide +kernel)) (by decide +kernel)) (by decide +kernel)) (by decide) c9
                    have nb8 := sg_nbqU ef12 ef13 (sg_kc (8) (iv_add (a' := 8) (b' := 8) ey10 (iv_add (a' := 16) (b' := 16) ey5 (iv_c 24 (a := 24) (b := 24) (by decide +kernel)) (iv_c _ (a := (-8)) (b := (-8)) (by decide +kernel)) (by decide +kernel)) (iv_c _ (a := (-8)) (b := (-8)) (by decide +kernel)) (by decide +kernel)) (by decide +kernel)) (by decide) c14
                    have nb0 := sg_nbpU ef30 ef31 (sg_kc (0) (iv_add (a' := 0) (b' := 0) ey28 (iv_add (a' := 8) (b' := 8) ey10 (iv_add (a' := 16) (b' := 16) ey5 (iv_c 24 (a := 24) (b := 24) (by decide +kernel)) (iv_c _ (a := (-8)) (b := (-8)) (by decide +kernel)) (by decide +kernel)) (iv_c _ (a := (-8)) (b := (-8)) (by decide +kernel)) (by decide +kernel)) (iv_c _ (a := (-8)) (b := (-8)) (by decide +kernel)) (by decide +kernel)) (by decide +kernel)) (by decide) c32
                    have cq35 : (0 : Int32).toInt = 0 := by decide +kernel
                    have xy27 : y27.toInt = (0 : Int32).toInt + 1 := sg_inc (k := 1) ey27 (iv_c 0 (a := 0) (b := 0) (by decide +kernel)) (by decide +kernel)
                    exact sg_iretP X hr hlk hS ⟨⟨by omega, by omega⟩, by unfold sg_nb; omega⟩ dX10_fullBytes_29
                  · exact ((iv_no (iv_le (b' := (-8)) (iv_ge_of c34) (iv_c 0 (a := 0) (b := 0) (by decide +kernel)) (iv_add (a' := (-8)) (b' := (-8)) ey33 (iv_add (a' := 0) (b' := 0) ey28 (iv_add (a' := 8) (b' := 8) ey10 (iv_add (a' := 16) (b' := 16) ey5 (iv_c 24 (a := 24) (b := 24) (by decide +kernel)) (iv_c _ (a := (-8)) (b := (-8)) (by decide +kernel)) (by decide +kernel)) (iv_c _ (a := (-8)) (b := (-8)) (by decide +kernel)) (by decide +kernel)) (iv_c _ (a := (-8)) (b := (-8)) (by decide +kernel)) (by decide +kernel)) (iv_c _ (a := (-8)) (b := (-8)) (by decide +kernel)) (by decide +kernel)) (by decide +kernel)) (by decide +kernel))).elim
                · obtain ⟨y36, ey36⟩ : ∃ y : Int32, y = y27 + Int32.ofInt 1 := ⟨_, rfl⟩
                  refine lv_iinc (v := y36) (lv' := [(1, .int y36), (2, .int y28), (0, .int x0)]) X.1 X.2.1 dX10_fullBytes_19 hl (k := 1) rfl ey36.symm (by decide) rfl (fun ls hl => ?_)
                  obtain ⟨y37, ey37⟩ : ∃ y : Int32, y = y28 + Int32.ofInt (-8) := ⟨_, rfl⟩
                  refine lv_iinc (v := y37) (lv' := [(2, .int y37), (1, .int y36), (0, .int x0)]) X.1 X.2.1 dX10_fullBytes_22 hl (k := 1) rfl ey37.symm (by decide) rfl (fun ls hl => ?_)
                  refine lv_goto (tgt := 5) X.1 X.2.1 dX10_fullBytes_25 (by decide) ?_
                  refine lv_iload_n X.1 X.2.1 dX10_fullBytes_5 rfl (lv_at hl 0 rfl) ?_
                  refine lv_if_lt (tgt := 28) X.1 X.2.1 dX10_fullBytes_6 (by decide) (fun c38 => ?_) (fun c38 => ?_)
                  · refine lv_iload_n X.1 X.2.1 dX10_fullBytes_28 rfl (lv_at hl 1 rfl) ?_
                    have nb24 := sg_nbpU ef2 ef3 (sg_kc (24) (iv_c 24 (a := 24) (b := 24) (by decide +kernel)) (by decide +kernel)) (by decide) c4
                    have nb16 := sg_nbpU ef7 ef8 (sg_kc (16) (iv_add (a' := 16) (b' := 16) ey5 (iv_c 24 (a := 24) (b := 24) (by decide +kernel)) (iv_c _ (a := (-8)) (b := (-8)) (by decide +kernel)) (by decide +kernel)) (by decide +kernel)) (by decide) c9
                    have nb8 := sg_nbqU ef12 ef13 (sg_kc (8) (iv_add (a' := 8) (b' := 8) ey10 (iv_add (a' := 16) (b' := 16) ey5 (iv_c 24 (a := 24) (b := 24) (by decide +kernel)) (iv_c _ (a := (-8)) (b := (-8)) (by decide +kernel)) (by decide +kernel)) (iv_c _ (a := (-8)) (b := (-8)) (by decide +kernel)) (by decide +kernel)) (by decide +kernel)) (by decide) c14
                    have nb0 := sg_nbqU ef30 ef31 (sg_kc (0) (iv_add (a' := 0) (b' := 0) ey28 (iv_add (a' := 8) (b' := 8) ey10 (iv_add (a' := 16) (b' := 16) ey5 (iv_c 24 (a := 24) (b := 24) (by decide +kernel)) (iv_c _ (a := (-8)) (b := (-8)) (by decide +kernel)) (by decide +kernel)) (iv_c _ (a := (-8)) (b := (-8)) (by decide +kernel)) (by decide +kernel)) (iv_c _ (a := (-8)) (b := (-8)) (by decide +kernel)) (by decide +kernel)) (by decide +kernel)) (by decide) c32
                    have cq39 : (0 : Int32).toInt = 0 := by decide +kernel
                    have xy27 : y27.toInt = (0 : Int32).toInt + 1 := sg_inc (k := 1) ey27 (iv_c 0 (a := 0) (b := 0) (by decide +kernel)) (by decide +kernel)
                    have xy36 : y36.toInt = y27.toInt + 1 := sg_inc (k := 1) ey36 (iv_add (a' := 1) (b' := 1) ey27 (iv_c 0 (a := 0) (b := 0) (by decide +kernel)) (iv_c _ (a := 1) (b := 1) (by decide +kernel)) (by decide +kernel)) (by decide +kernel)
                    exact sg_iretP X hr hlk hS ⟨⟨by omega, by omega⟩, by unfold sg_nb; omega⟩ dX10_fullBytes_29
                  · exact ((iv_no (iv_le (b' := (-8)) (iv_ge_of c38) (iv_c 0 (a := 0) (b := 0) (by decide +kernel)) (iv_add (a' := (-8)) (b' := (-8)) ey37 (iv_add (a' := 0) (b' := 0) ey28 (iv_add (a' := 8) (b' := 8) ey10 (iv_add (a' := 16) (b' := 16) ey5 (iv_c 24 (a := 24) (b := 24) (by decide +kernel)) (iv_c _ (a := (-8)) (b := (-8)) (by decide +kernel)) (by decide +kernel)) (iv_c _ (a := (-8)) (b := (-8)) (by decide +kernel)) (by decide +kernel)) (iv_c _ (a := (-8)) (b := (-8)) (by decide +kernel)) (by decide +kernel)) (iv_c _ (a := (-8)) (b := (-8)) (by decide +kernel)) (by decide +kernel)) (by decide +kernel)) (by decide +kernel))).elim
        · obtain ⟨y40, ey40⟩ : ∃ y : Int32, y = 0 + Int32.ofInt 1 := ⟨_, rfl⟩
          refine lv_iinc (v := y40) (lv' := [(1, .int y40), (2, .int y5), (0, .int x0)]) X.1 X.2.1 dX10_fullBytes_19 hl (k := 1) rfl ey40.symm (by decide) rfl (fun ls hl => ?_)
          obtain ⟨y41, ey41⟩ : ∃ y : Int32, y = y5 + Int32.ofInt (-8) := ⟨_, rfl⟩
          refine lv_iinc (v := y41) (lv' := [(2, .int y41), (1, .int y40), (0, .int x0)]) X.1 X.2.1 dX10_fullBytes_22 hl (k := 1) rfl ey41.symm (by decide) rfl (fun ls hl => ?_)
          refine lv_goto (tgt := 5) X.1 X.2.1 dX10_fullBytes_25 (by decide) ?_
          refine lv_iload_n X.1 X.2.1 dX10_fullBytes_5 rfl (lv_at hl 0 rfl) ?_
          refine lv_if_lt (tgt := 28) X.1 X.2.1 dX10_fullBytes_6 (by decide) (fun c42 => ?_) (fun c42 => ?_)
          · exact ((iv_no (iv_lt (b' := (-1)) c42 (iv_add (a' := 8) (b' := 8) ey41 (iv_add (a' := 16) (b' := 16) ey5 (iv_c 24 (a := 24) (b := 24) (by decide +kernel)) (iv_c _ (a := (-8)) (b := (-8)) (by decide +kernel)) (by decide +kernel)) (iv_c _ (a := (-8)) (b := (-8)) (by decide +kernel)) (by decide +kernel)) (iv_c 0 (a := 0) (b := 0) (by decide +kernel)) (by decide +kernel)) (by decide +kernel))).elim
          · refine lv_iload_n X.1 X.2.1 dX10_fullBytes_9 rfl (lv_at hl 2 rfl) ?_
            refine lv_iload_n X.1 X.2.1 dX10_fullBytes_10 rfl (lv_at hl 0 rfl) ?_
            obtain ⟨f43, ef43⟩ : ∃ y : Int32, y = (x0.toUInt32 >>> ((y41 : Int32).toUInt32 &&& Int32.toUInt32 31)).toInt32 := ⟨_, rfl⟩
            refine lv_iushr (v := f43) X.1 X.2.1 dX10_fullBytes_11 ef43.symm ?_
            refine lv_sipush (v := 255) X.1 X.2.1 dX10_fullBytes_12 (by decide +kernel) ?_
            refine lv_iand X.1 X.2.1 dX10_fullBytes_15 ?_
            refine lv_topi (fun f44 ef44 => ?_)
            refine lv_if_eq (tgt := 22) X.1 X.2.1 dX10_fullBytes_16 (by decide) (fun c45 => ?_) (fun c45 => ?_)
            · obtain ⟨y46, ey46⟩ : ∃ y : Int32, y = y41 + Int32.ofInt (-8) := ⟨_, rfl⟩
              refine lv_iinc (v := y46) (lv' := [(2, .int y46), (1, .int y40), (0, .int x0)]) X.1 X.2.1 dX10_fullBytes_22 hl (k := 0) rfl ey46.symm (by decide) rfl (fun ls hl => ?_)
              refine lv_goto (tgt := 5) X.1 X.2.1 dX10_fullBytes_25 (by decide) ?_
              refine lv_iload_n X.1 X.2.1 dX10_fullBytes_5 rfl (lv_at hl 0 rfl) ?_
              refine lv_if_lt (tgt := 28) X.1 X.2.1 dX10_fullBytes_6 (by decide) (fun c47 => ?_) (fun c47 => ?_)
              · exact ((iv_no (iv_lt (b' := (-1)) c47 (iv_add (a' := 0) (b' := 0) ey46 (iv_add (a' := 8) (b' := 8) ey41 (iv_add (a' := 16) (b' := 16) ey5 (iv_c 24 (a := 24) (b := 24) (by decide +kernel)) (iv_c _ (a := (-8)) (b := (-8)) (by decide +kernel)) (by decide +kernel)) (iv_c _ (a := (-8)) (b := (-8)) (by decide +kernel)) (by decide +kernel)) (iv_c _ (a := (-8)) (b := (-8)) (by decide +kernel)) (by decide +kernel)) (iv_c 0 (a := 0) (b := 0) (by decide +kernel)) (by decide +kernel)) (by decide +kernel))).elim
              · refine lv_iload_n X.1 X.2.1 dX10_fullBytes_9 rfl (lv_at hl 2 rfl) ?_
                refine lv_iload_n X.1 X.2.1 dX10_fullBytes_10 rfl (lv_at hl 0 rfl) ?_
                obtain ⟨f48, ef48⟩ : ∃ y : Int32, y = (x0.toUInt32 >>> ((y46 : Int32).toUInt32 &&& Int32.toUInt32 31)).toInt32 := ⟨_, rfl⟩
                refine lv_iushr (v := f48) X.1 X.2.1 dX10_fullBytes_11 ef48.symm ?_
                refine lv_sipush (v := 255) X.1 X.2.1 dX10_fullBytes_12 (by decide +kernel) ?_
                refine lv_iand X.1 X.2.1 dX10_fullBytes_15 ?_
                refine lv_topi (fun f49 ef49 => ?_)
                refine lv_if_eq (tgt := 22) X.1 X.2.1 dX10_fullBytes_16 (by decide) (fun c50 => ?_) (fun c50 => ?_)
                · obtain ⟨y51, ey51⟩ : ∃ y : Int32, y = y46 + Int32.ofInt (-8) := ⟨_, rfl⟩
                  refine lv_iinc (v := y51) (lv' := [(2, .int y51), (1, .int y40), (0, .int x0)]) X.1 X.2.1 dX10_fullBytes_22 hl (k := 0) rfl ey51.symm (by decide) rfl (fun ls hl => ?_)
                  refine lv_goto (tgt := 5) X.1 X.2.1 dX10_fullBytes_25 (by decide) ?_
                  refine lv_iload_n X.1 X.2.1 dX10_fullBytes_5 rfl (lv_at hl 0 rfl) ?_
                  refine lv_if_lt (tgt := 28) X.1 X.2.1 dX10_fullBytes_6 (by decide) (fun c52 => ?_) (fun c52 => ?_)
                  · refine lv_iload_n X.1 X.2.1 dX10_fullBytes_28 rfl (lv_at hl 1 rfl) ?_
                    have nb24 := sg_nbpU ef2 ef3 (sg_kc (24) (iv_c 24 (a := 24) (b := 24) (by decide +kernel)) (by decide +kernel)) (by decide) c4
                    have nb16 := sg_nbqU ef7 ef8 (sg_kc (16) (iv_add (a' := 16) (b' := 16) ey5 (iv_c 24 (a := 24) (b := 24) (by decide +kernel)) (iv_c _ (a := (-8)) (b := (-8)) (by decide +kernel)) (by decide +kernel)) (by decide +kernel)) (by decide) c9
                    have nb8 := sg_nbpU ef43 ef44 (sg_kc (8) (iv_add (a' := 8) (b' := 8) ey41 (iv_add (a' := 16) (b' := 16) ey5 (iv_c 24 (a := 24) (b := 24) (by decide +kernel)) (iv_c _ (a := (-8)) (b := (-8)) (by decide +kernel)) (by decide +kernel)) (iv_c _ (a := (-8)) (b := (-8)) (by decide +kernel)) (by decide +kernel)) (by decide +kernel)) (by decide) c45
                    have nb0 := sg_nbpU ef48 ef49 (sg_kc (0) (iv_add (a' := 0) (b' := 0) ey46 (iv_add (a' := 8) (b' := 8) ey41 (iv_add (a' := 16) (b' := 16) ey5 (iv_c 24 (a := 24) (b := 24) (by decide +kernel)) (iv_c _ (a := (-8)) (b := (-8)) (by decide +kernel)) (by decide +kernel)) (iv_c _ (a := (-8)) (b := (-8)) (by decide +kernel)) (by decide +kernel)) (iv_c _ (a := (-8)) (b := (-8)) (by decide +kernel)) (by decide +kernel)) (by decide +kernel)) (by decide) c50
                    have cq53 : (0 : Int32).toInt = 0 := by decide +kernel
                    have xy40 : y40.toInt = (0 : Int32).toInt + 1 := sg_inc (k := 1) ey40 (iv_c 0 (a := 0) (b := 0) (by decide +kernel)) (by decide +kernel)
                    exact sg_iretP X hr hlk hS ⟨⟨by omega, by omega⟩, by unfold sg_nb; omega⟩ dX10_fullBytes_29
                  · exact ((iv_no (iv_le (b' := (-8)) (iv_ge_of c52) (iv_c 0 (a := 0) (b := 0) (by decide +kernel)) (iv_add (a' := (-8)) (b' := (-8)) ey51 (iv_add (a' := 0) (b' := 0) ey46 (iv_add (a' := 8) (b' := 8) ey41 (iv_add (a' := 16) (b' := 16) ey5 (iv_c 24 (a := 24) (b := 24) (by decide +kernel)) (iv_c _ (a := (-8)) (b := (-8)) (by decide +kernel)) (by decide +kernel)) (iv_c _ (a := (-8)) (b := (-8)) (by decide +kernel)) (by decide +kernel)) (iv_c _ (a := (-8)) (b := (-8)) (by decide +kernel)) (by decide +kernel)) (iv_c _ (a := (-8)) (b := (-8)) (by decide +kernel)) (by decide +kernel)) (by decide +kernel)) (by decide +kernel))).elim
                · obtain ⟨y54, ey54⟩ : ∃ y : Int32, y = y40 + Int32.ofInt 1 := ⟨_, rfl⟩
                  refine lv_iinc (v := y54) (lv' := [(1, .int y54), (2, .int y46), (0, .int x0)]) X.1 X.2.1 dX10_fullBytes_19 hl (k := 1) rfl ey54.symm (by decide) rfl (fun ls hl => ?_)
                  obtain ⟨y55, ey55⟩ : ∃ y : Int32, y = y46 + Int32.ofInt (-8) := ⟨_, rfl⟩
                  refine lv_iinc (v := y55) (lv' := [(2, .int y55), (1, .int y54), (0, .int x0)]) X.1 X.2.1 dX10_fullBytes_22 hl (k := 1) rfl ey55.symm (by decide) rfl (fun ls hl => ?_)
                  refine lv_goto (tgt := 5) X.1 X.2.1 dX10_fullBytes_25 (by decide) ?_
                  refine lv_iload_n X.1 X.2.1 dX10_fullBytes_5 rfl (lv_at hl 0 rfl) ?_
                  refine lv_if_lt (tgt := 28) X.1 X.2.1 dX10_fullBytes_6 (by decide) (fun c56 => ?_) (fun c56 => ?_)
                  · refine lv_iload_n X.1 X.2.1 dX10_fullBytes_28 rfl (lv_at hl 1 rfl) ?_
                    have nb24 := sg_nbpU ef2 ef3 (sg_kc (24) (iv_c 24 (a := 24) (b := 24) (by decide +kernel)) (by decide +kernel)) (by decide) c4
                    have nb16 := sg_nbqU ef7 ef8 (sg_kc (16) (iv_add (a' := 16) (b' := 16) ey5 (iv_c 24 (a := 24) (b := 24) (by decide +kernel)) (iv_c _ (a := (-8)) (b := (-8)) (by decide +kernel)) (by decide +kernel)) (by decide +kernel)) (by decide) c9
                    have nb8 := sg_nbpU ef43 ef44 (sg_kc (8) (iv_add (a' := 8) (b' := 8) ey41 (iv_add (a' := 16) (b' := 16) ey5 (iv_c 24 (a := 24) (b := 24) (by decide +kernel)) (iv_c _ (a := (-8)) (b := (-8)) (by decide +kernel)) (by decide +kernel)) (iv_c _ (a := (-8)) (b := (-8)) (by decide +kernel)) (by decide +kernel)) (by decide +kernel)) (by decide) c45
                    have nb0 := sg_nbqU ef48 ef49 (sg_kc (0) (iv_add (a' := 0) (b' := 0) ey46 (iv_add (a' := 8) (b' := 8) ey41 (iv_add (a' := 16) (b' := 16) ey5 (iv_c 24 (a := 24) (b := 24) (by decide +kernel)) (iv_c _ (a := (-8)) (b := (-8)) (by decide +kernel)) (by decide +kernel)) (iv_c _ (a := (-8)) (b := (-8)) (by decide +kernel)) (by decide +kernel)) (iv_c _ (a := (-8)) (b := (-8)) (by decide +kernel)) (by decide +kernel)) (by decide +kernel)) (by decide) c50
                    have cq57 : (0 : Int32).toInt = 0 := by decide +kernel
                    have xy40 : y40.toInt = (0 : Int32).toInt + 1 := sg_inc (k := 1) ey40 (iv_c 0 (a := 0) (b := 0) (by decide +kernel)) (by decide +kernel)
                    have xy54 : y54.toInt = y40.toInt + 1 := sg_inc (k := 1) ey54 (iv_add (a' := 1) (b' := 1) ey40 (iv_c 0 (a := 0) (b := 0) (by decide +kernel)) (iv_c _ (a := 1) (b := 1) (by decide +kernel)) (by decide +kernel)) (by decide +kernel)
                    exact sg_iretP X hr hlk hS ⟨⟨by omega, by omega⟩, by unfold sg_nb; omega⟩ dX10_fullBytes_29
                  · exact ((iv_no (iv_le (b' := (-8)) (iv_ge_of c56) (iv_c 0 (a := 0) (b := 0) (by decide +kernel)) (iv_add (a' := (-8)) (b' := (-8)) ey55 (iv_add (a' := 0) (b' := 0) ey46 (iv_add (a' := 8) (b' := 8) ey41 (iv_add (a' := 16) (b' := 16) ey5 (iv_c 24 (a := 24) (b := 24) (by decide +kernel)) (iv_c _ (a := (-8)) (b := (-8)) (by decide +kernel)) (by decide +kernel)) (iv_c _ (a := (-8)) (b := (-8)) (by decide +kernel)) (by decide +kernel)) (iv_c _ (a := (-8)) (b := (-8)) (by decide +kernel)) (by decide +kernel)) (iv_c _ (a := (-8)) (b := (-8)) (by decide +kernel)) (by decide +kernel)) (by decide +kernel)) (by decide +kernel))).elim
            · obtain ⟨y58, ey58⟩ : ∃ y : Int32, y = y40 + Int32.ofInt 1 := ⟨_, rfl⟩
              refine lv_iinc (v := y58) (lv' := [(1, .int y58), (2, .int y41), (0, .int x0)]) X.1 X.2.1 dX10_fullBytes_19 hl (k := 1) rfl ey58.symm (by decide) rfl (fun ls hl => ?_)
              obtain ⟨y59, ey59⟩ : ∃ y : Int32, y = y41 + Int32.ofInt (-8) := ⟨_, rfl⟩
              refine lv_iinc (v := y59) (lv' := [(2, .int y59), (1, .int y58), (0, .int x0)]) X.1 X.2.1 dX10_fullBytes_22 hl (k := 1) rfl ey59.symm (by decide) rfl (fun ls hl => ?_)
              refine lv_goto (tgt := 5) X.1 X.2.1 dX10_fullBytes_25 (by decide) ?_
              refine lv_iload_n X.1 X.2.1 dX10_fullBytes_5 rfl (lv_at hl 0 rfl) ?_
              refine lv_if_lt (tgt := 28) X.1 X.2.1 dX10_fullBytes_6 (by decide) (fun c60 => ?_) (fun c60 => ?_)
              · exact ((iv_no (iv_lt (b' := (-1)) c60 (iv_add (a' := 0) (b' := 0) ey59 (iv_add (a' := 8) (b' := 8) ey41 (iv_add (a' := 16) (b' := 16) ey5 (iv_c 24 (a := 24) (b := 24) (by decide +kernel)) (iv_c _ (a := (-8)) (b := (-8)) (by decide +kernel)) (by decide +kernel)) (iv_c _ (a := (-8)) (b := (-8)) (by decide +kernel)) (by decide +kernel)) (iv_c _ (a := (-8)) (b := (-8)) (by decide +kernel)) (by decide +kernel)) (iv_c 0 (a := 0) (b := 0) (by decide +kernel)) (by decide +kernel)) (by decide +kernel))).elim
              · refine lv_iload_n X.1 X.2.1 dX10_fullBytes_9 rfl (lv_at hl 2 rfl) ?_
                refine lv_iload_n X.1 X.2.1 dX10_fullBytes_10 rfl (lv_at hl 0 rfl) ?_
                obtain ⟨f61, ef61⟩ : ∃ y : Int32, y = (x0.toUInt32 >>> ((y59 : Int32).toUInt32 &&& Int32.toUInt32 31)).toInt32 := ⟨_, rfl⟩
                refine lv_iushr (v := f61) X.1 X.2.1 dX10_fullBytes_11 ef61.symm ?_
                refine lv_sipush (v := 255) X.1 X.2.1 dX10_fullBytes_12 (by decide +kernel) ?_
                refine lv_iand X.1 X.2.1 dX10_fullBytes_15 ?_
                refine lv_topi (fun f62 ef62 => ?_)
                refine lv_if_eq (tgt := 22) X.1 X.2.1 dX10_fullBytes_16 (by decide) (fun c63 => ?_) (fun c63 => ?_)
                · obtain ⟨y64, ey64⟩ : ∃ y : Int32, y = y59 + Int32.ofInt (-8) := ⟨_, rfl⟩
                  refine lv_iinc (v := y64) (lv' := [(2, .int y64), (1, .int y58), (0, .int x0)]) X.1 X.2.1 dX10_fullBytes_22 hl (k := 0) rfl ey64.symm (by decide) rfl (fun ls hl => ?_)
                  refine lv_goto (tgt := 5) X.1 X.2.1 dX10_fullBytes_25 (by decide) ?_
                  refine lv_iload_n X.1 X.2.1 dX10_fullBytes_5 rfl (lv_at hl 0 rfl) ?_
                  refine lv_if_lt (tgt := 28) X.1 X.2.1 dX10_fullBytes_6 (by decide) (fun c65 => ?_) (fun c65 => ?_)
                  · refine lv_iload_n X.1 X.2.1 dX10_fullBytes_28 rfl (lv_at hl 1 rfl) ?_
                    have nb24 := sg_nbpU ef2 ef3 (sg_kc (24) (iv_c 24 (a := 24) (b := 24) (by decide +kernel)) (by decide +kernel)) (by decide) c4
                    have nb16 := sg_nbqU ef7 ef8 (sg_kc (16) (iv_add (a' := 16) (b' := 16) ey5 (iv_c 24 (a := 24) (b := 24) (by decide +kernel)) (iv_c _ (a := (-8)) (b := (-8)) (by decide +kernel)) (by decide +kernel)) (by decide +kernel)) (by decide) c9
                    have nb8 := sg_nbqU ef43 ef44 (sg_kc (8) (iv_add (a' := 8) (b' := 8) ey41 (iv_add (a' := 16) (b' := 16) ey5 (iv_c 24 (a := 24) (b := 24) (by decide +kernel)) (iv_c _ (a := (-8)) (b := (-8)) (by decide +kernel)) (by decide +kernel)) (iv_c _ (a := (-8)) (b := (-8)) (by decide +kernel)) (by decide +kernel)) (by decide +kernel)) (by decide) c45
                    have nb0 := sg_nbpU ef61 ef62 (sg_kc (0) (iv_add (a' := 0) (b' := 0) ey59 (iv_add (a' := 8) (b' := 8) ey41 (iv_add (a' := 16) (b' := 16) ey5 (iv_c 24 (a := 24) (b := 24) (by decide +kernel)) (iv_c _ (a := (-8)) (b := (-8)) (by decide +kernel)) (by decide +kernel)) (iv_c _ (a := (-8)) (b := (-8)) (by decide +kernel)) (by decide +kernel)) (iv_c _ (a := (-8)) (b := (-8)) (by decide +kernel)) (by decide +kernel)) (by decide +kernel)) (by decide) c63
                    have cq66 : (0 : Int32).toInt = 0 := by decide +kernel
                    have xy40 : y40.toInt = (0 : Int32).toInt + 1 := sg_inc (k := 1) ey40 (iv_c 0 (a := 0) (b := 0) (by decide +kernel)) (by decide +kernel)
                    have xy58 : y58.toInt = y40.toInt + 1 := sg_inc (k := 1) ey58 (iv_add (a' := 1) (b' := 1) ey40 (iv_c 0 (a := 0) (b := 0) (by decide +kernel)) (iv_c _ (a := 1) (b := 1) (by decide +kernel)) (by decide +kernel)) (by decide +kernel)
                    exact sg_iretP X hr hlk hS ⟨⟨by omega, by omega⟩, by unfold sg_nb; omega⟩ dX10_fullBytes_29
                  · exact ((iv_no (iv_le (b' := (-8)) (iv_ge_of c65) (iv_c 0 (a := 0) (b := 0) (by decide +kernel)) (iv_add (a' := (-8)) (b' := (-8)) ey64 (iv_add (a' := 0) (b' := 0) ey59 (iv_add (a' := 8) (b' := 8) ey41 (iv_add (a' := 16) (b' := 16) ey5 (iv_c 24 (a := 24) (b := 24) (by decide +kernel)) (iv_c _ (a := (-8)) (b := (-8)) (by decide +kernel)) (by decide +kernel)) (iv_c _ (a := (-8)) (b := (-8)) (by decide +kernel)) (by decide +kernel)) (iv_c _ (a := (-8)) (b := (-8)) (by decide +kernel)) (by decide +kernel)) (iv_c _ (a := (-8)) (b := (-8)) (by decide +kernel)) (by decide +kernel)) (by decide +kernel)) (by decide +kernel))).elim
                · obtain ⟨y67, ey67⟩ : ∃ y : Int32, y = y58 + Int32.ofInt 1 := ⟨_, rfl⟩
                  refine lv_iinc (v := y67) (lv' := [(1, .int y67), (2, .int y59), (0, .int x0)]) X.1 X.2.1 dX10_fullBytes_19 hl (k := 1) rfl ey67.symm (by decide) rfl (fun ls hl => ?_)
                  obtain ⟨y68, ey68⟩ : ∃ y : Int32, y = y59 + Int32.ofInt (-8) := ⟨_, rfl⟩
                  refine lv_iinc (v := y68) (lv' := [(2, .int y68), (1, .int y67), (0, .int x0)]) X.1 X.2.1 dX10_fullBytes_22 hl (k := 1) rfl ey68.symm (by decide) rfl (fun ls hl => ?_)
                  refine lv_goto (tgt := 5) X.1 X.2.1 dX10_fullBytes_25 (by decide) ?_
                  refine lv_iload_n X.1 X.2.1 dX10_fullBytes_5 rfl (lv_at hl 0 rfl) ?_
                  refine lv_if_lt (tgt := 28) X.1 X.2.1 dX10_fullBytes_6 (by decide) (fun c69 => ?_) (fun c69 => ?_)
                  · refine lv_iload_n X.1 X.2.1 dX10_fullBytes_28 rfl (lv_at hl 1 rfl) ?_
                    have nb24 := sg_nbpU ef2 ef3 (sg_kc (24) (iv_c 24 (a := 24) (b := 24) (by decide +kernel)) (by decide +kernel)) (by decide) c4
                    have nb16 := sg_nbqU ef7 ef8 (sg_kc (16) (iv_add (a' := 16) (b' := 16) ey5 (iv_c 24 (a := 24) (b := 24) (by decide +kernel)) (iv_c _ (a := (-8)) (b := (-8)) (by decide +kernel)) (by decide +kernel)) (by decide +kernel)) (by decide) c9
                    have nb8 := sg_nbqU ef43 ef44 (sg_kc (8) (iv_add (a' := 8) (b' := 8) ey41 (iv_add (a' := 16) (b' := 16) ey5 (iv_c 24 (a := 24) (b := 24) (by decide +kernel)) (iv_c _ (a := (-8)) (b := (-8)) (by decide +kernel)) (by decide +kernel)) (iv_c _ (a := (-8)) (b := (-8)) (by decide +kernel)) (by decide +kernel)) (by decide +kernel)) (by decide) c45
                    have nb0 := sg_nbqU ef61 ef62 (sg_kc (0) (iv_add (a' := 0) (b' := 0) ey59 (iv_add (a' := 8) (b' := 8) ey41 (iv_add (a' := 16) (b' := 16) ey5 (iv_c 24 (a := 24) (b := 24) (by decide +kernel)) (iv_c _ (a := (-8)) (b := (-8)) (by decide +kernel)) (by decide +kernel)) (iv_c _ (a := (-8)) (b := (-8)) (by decide +kernel)) (by decide +kernel)) (iv_c _ (a := (-8)) (b := (-8)) (by decide +kernel)) (by decide +kernel)) (by decide +kernel)) (by decide) c63
                    have cq70 : (0 : Int32).toInt = 0 := by decide +kernel
                    have xy40 : y40.toInt = (0 : Int32).toInt + 1 := sg_inc (k := 1) ey40 (iv_c 0 (a := 0) (b := 0) (by decide +kernel)) (by decide +kernel)
                    have xy58 : y58.toInt = y40.toInt + 1 := sg_inc (k := 1) ey58 (iv_add (a' := 1) (b' := 1) ey40 (iv_c 0 (a := 0) (b := 0) (by decide +kernel)) (iv_c _ (a := 1) (b := 1) (by decide +kernel)) (by decide +kernel)) (by decide +kernel)
                    have xy67 : y67.toInt = y58.toInt + 1 := sg_inc (k := 1) ey67 (iv_add (a' := 2) (b' := 2) ey58 (iv_add (a' := 1) (b' := 1) ey40 (iv_c 0 (a := 0) (b := 0) (by decide +kernel)) (iv_c _ (a := 1) (b := 1) (by decide +kernel)) (by decide +kernel)) (iv_c _ (a := 1) (b := 1) (by decide +kernel)) (by decide +kernel)) (by decide +kernel)
                    exact sg_iretP X hr hlk hS ⟨⟨by omega, by omega⟩, by unfold sg_nb; omega⟩ dX10_fullBytes_29
                  · exact ((iv_no (iv_le (b' := (-8)) (iv_ge_of c69) (iv_c 0 (a := 0) (b := 0) (by decide +kernel)) (iv_add (a' := (-8)) (b' := (-8)) ey68 (iv_add (a' := 0) (b' := 0) ey59 (iv_add (a' := 8) (b' := 8) ey41 (iv_add (a' := 16) (b' := 16) ey5 (iv_c 24 (a := 24) (b := 24) (by decide +kernel)) (iv_c _ (a := (-8)) (b := (-8)) (by decide +kernel)) (by decide +kernel)) (iv_c _ (a := (-8)) (b := (-8)) (by decide +kernel)) (by decide +kernel)) (iv_c _ (a := (-8)) (b := (-8)) (by decide +kernel)) (by decide +kernel)) (iv_c _ (a := (-8)) (b := (-8)) (by decide +kernel)) (by decide +kernel)) (by decide +kernel)) (by decide +kernel))).elim
    · obtain ⟨y71, ey71⟩ : ∃ y : Int32, y = 0 + Int32.ofInt 1 := ⟨_, rfl⟩
      refine lv_iinc (v := y71) (lv' := [(1, .int y71), (2, .int 24), (0, .int x0)]) X.1 X.2.1 dX10_fullBytes_19 hl (k := 1) rfl ey71.symm (by decide) rfl (fun ls hl => ?_)
      obtain ⟨y72, ey72⟩ : ∃ y : Int32, y = 24 + Int32.ofInt (-8) := ⟨_, rfl⟩
      refine lv_iinc (v := y72) (lv' := [(2, .int y72), (1, .int y71), (0, .int x0)]) X.1 X.2.1 dX10_fullBytes_22 hl (k := 1) rfl ey72.symm (by decide) rfl (fun ls hl => ?_)
      refine lv_goto (tgt := 5) X.1 X.2.1 dX10_fullBytes_25 (by decide) ?_
      refine lv_iload_n X.1 X.2.1 dX10_fullBytes_5 rfl (lv_at hl 0 rfl) ?_
      refine lv_if_lt (tgt := 28) X.1 X.2.1 dX10_fullBytes_6 (by decide) (fun c73 => ?_) (fun c73 => ?_)
      · exact ((iv_no (iv_lt (b' := (-1)) c73 (iv_add (a' := 16) (b' := 16) ey72 (iv_c 24 (a := 24) (b := 24) (by decide +kernel)) (iv_c _ (a := (-8)) (b := (-8)) (by decide +kernel)) (by decide +kernel)) (iv_c 0 (a := 0) (b := 0) (by decide +kernel)) (by decide +kernel)) (by decide +kernel))).elim
      · refine lv_iload_n X.1 X.2.1 dX10_fullBytes_9 rfl (lv_at hl 2 rfl) ?_
        refine lv_iload_n X.1 X.2.1 dX10_fullBytes_10 rfl (lv_at hl 0 rfl) ?_
        obtain ⟨f74, ef74⟩ : ∃ y : Int32, y = (x0.toUInt32 >>> ((y72 : Int32).toUInt32 &&& Int32.toUInt32 31)).toInt32 := ⟨_, rfl⟩
        refine lv_iushr (v := f74) X.1 X.2.1 dX10_fullBytes_11 ef74.symm ?_
        refine lv_sipush (v := 255) X.1 X.2.1 dX10_fullBytes_12 (by decide +kernel) ?_
        refine lv_iand X.1 X.2.1 dX10_fullBytes_15 ?_
        refine lv_topi (fun f75 ef75 => ?_)
        refine lv_if_eq (tgt := 22) X.1 X.2.1 dX10_fullBytes_16 (by decide) (fun c76 => ?_) (fun c76 => ?_)
        · obtain ⟨y77, ey77⟩ : ∃ y : Int32, y = y72 + Int32.ofInt (-8) := ⟨_, rfl⟩
          refine lv_iinc (v := y77) (lv' := [(2, .int y77), (1, .int y71), (0, .int x0)]) X.1 X.2.1 dX10_fullBytes_22 hl (k := 0) rfl ey77.symm (by decide) rfl (fun ls hl => ?_)
          refine lv_goto (tgt := 5) X.1 X.2.1 dX10_fullBytes_25 (by decide) ?_
          refine lv_iload_n X.1 X.2.1 dX10_fullBytes_5 rfl (lv_at hl 0 rfl) ?_
          refine lv_if_lt (tgt := 28) X.1 X.2.1 dX10_fullBytes_6 (by decide) (fun c78 => ?_) (fun c78 => ?_)
          · exact ((iv_no (iv_lt (b' := (-1)) c78 (iv_add (a' := 8) (b' := 8) ey77 (iv_add (a' := 16) (b' := 16) ey72 (iv_c 24 (a := 24) (b := 24) (by decide +kernel)) (iv_c _ (a := (-8)) (b := (-8)) (by decide +kernel)) (by decide +kernel)) (iv_c _ (a := (-8)) (b := (-8)) (by decide +kernel)) (by decide +kernel)) (iv_c 0 (a := 0) (b := 0) (by decide +kernel)) (by decide +kernel)) (by decide +kernel))).elim
          · refine lv_iload_n X.1 X.2.1 dX10_fullBytes_9 rfl (lv_at hl 2 rfl) ?_
            refine lv_iload_n X.1 X.2.1 dX10_fullBytes_10 rfl (lv_at hl 0 rfl) ?_
            obtain ⟨f79, ef79⟩ : ∃ y : Int32, y = (x0.toUInt32 >>> ((y77 : Int32).toUInt32 &&& Int32.toUInt32 31)).toInt32 := ⟨_, rfl⟩
            refine lv_iushr (v := f79) X.1 X.2.1 dX10_fullBytes_11 ef79.symm ?_
            refine lv_sipush (v := 255) X.1 X.2.1 dX10_fullBytes_12 (by decide +kernel) ?_
            refine lv_iand X.1 X.2.1 dX10_fullBytes_15 ?_
            refine lv_topi (fun f80 ef80 => ?_)
            refine lv_if_eq (tgt := 22) X.1 X.2.1 dX10_fullBytes_16 (by decide) (fun c81 => ?_) (fun c81 => ?_)
            · obtain ⟨y82, ey82⟩ : ∃ y : Int32, y = y77 + Int32.ofInt (-8) := ⟨_, rfl⟩
              refine lv_iinc (v := y82) (lv' := [(2, .int y82), (1, .int y71), (0, .int x0)]) X.1 X.2.1 dX10_fullBytes_22 hl (k := 0) rfl ey82.symm (by decide) rfl (fun ls hl => ?_)
              refine lv_goto (tgt := 5) X.1 X.2.1 dX10_fullBytes_25 (by decide) ?_
              refine lv_iload_n X.1 X.2.1 dX10_fullBytes_5 rfl (lv_at hl 0 rfl) ?_
              refine lv_if_lt (tgt := 28) X.1 X.2.1 dX10_fullBytes_6 (by decide) (fun c83 => ?_) (fun c83 => ?_)
              · exact ((iv_no (iv_lt (b' := (-1)) c83 (iv_add (a' := 0) (b' := 0) ey82 (iv_add (a' := 8) (b' := 8) ey77 (iv_add (a' := 16) (b' := 16) ey72 (iv_c 24 (a := 24) (b := 24) (by decide +kernel)) (iv_c _ (a := (-8)) (b := (-8)) (by decide +kernel)) (by decide +kernel)) (iv_c _ (a := (-8)) (b := (-8)) (by decide +kernel)) (by decide +kernel)) (iv_c _ (a := (-8)) (b := (-8)) (by decide +kernel)) (by decide +kernel)) (iv_c 0 (a := 0) (b := 0) (by decide +kernel)) (by decide +kernel)) (by decide +kernel))).elim
              · refine lv_iload_n X.1 X.2.1 dX10_fullBytes_9 rfl (lv_at hl 2 rfl) ?_
                refine lv_iload_n X.1 X.2.1 dX10_fullBytes_10 rfl (lv_at hl 0 rfl) ?_
                obtain ⟨f84, ef84⟩ : ∃ y : Int32, y = (x0.toUInt32 >>> ((y82 : Int32).toUInt32 &&& Int32.toUInt32 31)).toInt32 := ⟨_, rfl⟩
                refine lv_iushr (v := f84) X.1 X.2.1 dX10_fullBytes_11 ef84.symm ?_
                refine lv_sipush (v := 255) X.1 X.2.1 dX10_fullBytes_12 (by decide +kernel) ?_
                refine lv_iand X.1 X.2.1 dX10_fullBytes_15 ?_
                refine lv_topi (fun f85 ef85 => ?_)
                refine lv_if_eq (tgt := 22) X.1 X.2.1 dX10_fullBytes_16 (by decide) (fun c86 => ?_) (fun c86 => ?_)
                · obtain ⟨y87, ey87⟩ : ∃ y : Int32, y = y82 + Int32.ofInt (-8) := ⟨_, rfl⟩
                  refine lv_iinc (v := y87) (lv' := [(2, .int y87), (1, .int y71), (0, .int x0)]) X.1 X.2.1 dX10_fullBytes_22 hl (k := 0) rfl ey87.symm (by decide) rfl (fun ls hl => ?_)
                  refine lv_goto (tgt := 5) X.1 X.2.1 dX10_fullBytes_25 (by decide) ?_
                  refine lv_iload_n X.1 X.2.1 dX10_fullBytes_5 rfl (lv_at hl 0 rfl) ?_
                  refine lv_if_lt (tgt := 28) X.1 X.2.1 dX10_fullBytes_6 (by decide) (fun c88 => ?_) (fun c88 => ?_)
                  · refine lv_iload_n X.1 X.2.1 dX10_fullBytes_28 rfl (lv_at hl 1 rfl) ?_
                    have nb24 := sg_nbqU ef2 ef3 (sg_kc (24) (iv_c 24 (a := 24) (b := 24) (by decide +kernel)) (by decide +kernel)) (by decide) c4
                    have nb16 := sg_nbpU ef74 ef75 (sg_kc (16) (iv_add (a' := 16) (b' := 16) ey72 (iv_c 24 (a := 24) (b := 24) (by decide +kernel)) (iv_c _ (a := (-8)) (b := (-8)) (by decide +kernel)) (by decide +kernel)) (by decide +kernel)) (by decide) c76
                    have nb8 := sg_nbpU ef79 ef80 (sg_kc (8) (iv_add (a' := 8) (b' := 8) ey77 (iv_add (a' := 16) (b' := 16) ey72 (iv_c 24 (a := 24) (b := 24) (by decide +kernel)) (iv_c _ (a := (-8)) (b := (-8)) (by decide +kernel)) (by decide +kernel)) (iv_c _ (a := (-8)) (b := (-8)) (by decide +kernel)) (by decide +kernel)) (by decide +kernel)) (by decide) c81
                    have nb0 := sg_nbpU ef84 ef85 (sg_kc (0) (iv_add (a' := 0) (b' := 0) ey82 (iv_add (a' := 8) (b' := 8) ey77 (iv_add (a' := 16) (b' := 16) ey72 (iv_c 24 (a := 24) (b := 24) (by decide +kernel)) (iv_c _ (a := (-8)) (b := (-8)) (by decide +kernel)) (by decide +kernel)) (iv_c _ (a := (-8)) (b := (-8)) (by decide +kernel)) (by decide +kernel)) (iv_c _ (a := (-8)) (b := (-8)) (by decide +kernel)) (by decide +kernel)) (by decide +kernel)) (by decide) c86
                    have cq89 : (0 : Int32).toInt = 0 := by decide +kernel
                    have xy71 : y71.toInt = (0 : Int32).toInt + 1 := sg_inc (k := 1) ey71 (iv_c 0 (a := 0) (b := 0) (by decide +kernel)) (by decide +kernel)
                    exact sg_iretP X hr hlk hS ⟨⟨by omega, by omega⟩, by unfold sg_nb; omega⟩ dX10_fullBytes_29
                  · exact ((iv_no (iv_le (b' := (-8)) (iv_ge_of c88) (iv_c 0 (a := 0) (b := 0) (by decide +kernel)) (iv_add (a' := (-8)) (b' := (-8)) ey87 (iv_add (a' := 0) (b' := 0) ey82 (iv_add (a' := 8) (b' := 8) ey77 (iv_add (a' := 16) (b' := 16) ey72 (iv_c 24 (a := 24) (b := 24) (by decide +kernel)) (iv_c _ (a := (-8)) (b := (-8)) (by decide +kernel)) (by decide +kernel)) (iv_c _ (a := (-8)) (b := (-8)) (by decide +kernel)) (by decide +kernel)) (iv_c _ (a := (-8)) (b := (-8)) (by decide +kernel)) (by decide +kernel)) (iv_c _ (a := (-8)) (b := (-8)) (by decide +kernel)) (by decide +kernel)) (by decide +kernel)) (by decide +kernel))).elim
                · obtain ⟨y90, ey90⟩ : ∃ y : Int32, y = y71 + Int32.ofInt 1 := ⟨_, rfl⟩
                  refine lv_iinc (v := y90) (lv' := [(1, .int y90), (2, .int y82), (0, .int x0)]) X.1 X.2.1 dX10_fullBytes_19 hl (k := 1) rfl ey90.symm (by decide) rfl (fun ls hl => ?_)
                  obtain ⟨y91, ey91⟩ : ∃ y : Int32, y = y82 + Int32.ofInt (-8) := ⟨_, rfl⟩
                  refine lv_iinc (v := y91) (lv' := [(2, .int y91), (1, .int y90), (0, .int x0)]) X.1 X.2.1 dX10_fullBytes_22 hl (k := 1) rfl ey91.symm (by decide) rfl (fun ls hl => ?_)
                  refine lv_goto (tgt := 5) X.1 X.2.1 dX10_fullBytes_25 (by decide) ?_
                  refine lv_iload_n X.1 X.2.1 dX10_fullBytes_5 rfl (lv_at hl 0 rfl) ?_
                  refine lv_if_lt (tgt := 28) X.1 X.2.1 dX10_fullBytes_6 (by decide) (fun c92 => ?_) (fun c92 => ?_)
                  · refine lv_iload_n X.1 X.2.1 dX10_fullBytes_28 rfl (lv_at hl 1 rfl) ?_
                    have nb24 := sg_nbqU ef2 ef3 (sg_kc (24) (iv_c 24 (a := 24) (b := 24) (by decide +kernel)) (by decide +kernel)) (by decide) c4
                    have nb16 := sg_nbpU ef74 ef75 (sg_kc (16) (iv_add (a' := 16) (b' := 16) ey72 (iv_c 24 (a := 24) (b := 24) (by decide +kernel)) (iv_c _ (a := (-8)) (b := (-8)) (by decide +kernel)) (by decide +kernel)) (by decide +kernel)) (by decide) c76
                    have nb8 := sg_nbpU ef79 ef80 (sg_kc (8) (iv_add (a' := 8) (b' := 8) ey77 (iv_add (a' := 16) (b' := 16) ey72 (iv_c 24 (a := 24) (b := 24) (by decide +kernel)) (iv_c _ (a := (-8)) (b := (-8)) (by decide +kernel)) (by decide +kernel)) (iv_c _ (a := (-8)) (b := (-8)) (by decide +kernel)) (by decide +kernel)) (by decide +kernel)) (by decide) c81
                    have nb0 := sg_nbqU ef84 ef85 (sg_kc (0) (iv_add (a' := 0) (b' := 0) ey82 (iv_add (a' := 8) (b' := 8) ey77 (iv_add (a' := 16) (b' := 16) ey72 (iv_c 24 (a := 24) (b := 24) (by decide +kernel)) (iv_c _ (a := (-8)) (b := (-8)) (by decide +kernel)) (by decide +kernel)) (iv_c _ (a := (-8)) (b := (-8)) (by decide +kernel)) (by decide +kernel)) (iv_c _ (a := (-8)) (b := (-8)) (by decide +kernel)) (by decide +kernel)) (by decide +kernel)) (by decide) c86
                    have cq93 : (0 : Int32).toInt = 0 := by decide +kernel
                    have xy71 : y71.toInt = (0 : Int32).toInt + 1 := sg_inc (k := 1) ey71 (iv_c 0 (a := 0) (b := 0) (by decide +kernel)) (by decide +kernel)
                    have xy90 : y90.toInt = y71.toInt + 1 := sg_inc (k := 1) ey90 (iv_add (a' := 1) (b' := 1) ey71 (iv_c 0 (a := 0) (b := 0) (by decide +kernel)) (iv_c _ (a := 1) (b := 1) (by decide +kernel)) (by decide +kernel)) (by decide +kernel)
                    exact sg_iretP X hr hlk hS ⟨⟨by omega, by omega⟩, by unfold sg_nb; omega⟩ dX10_fullBytes_29
                  · exact ((iv_no (iv_le (b' := (-8)) (iv_ge_of c92) (iv_c 0 (a := 0) (b := 0) (by decide +kernel)) (iv_add (a' := (-8)) (b' := (-8)) ey91 (iv_add (a' := 0) (b' := 0) ey82 (iv_add (a' := 8) (b' := 8) ey77 (iv_add (a' := 16) (b' := 16) ey72 (iv_c 24 (a := 24) (b := 24) (by decide +kernel)) (iv_c _ (a := (-8)) (b := (-8)) (by decide +kernel)) (by decide +kernel)) (iv_c _ (a := (-8)) (b := (-8)) (by decide +kernel)) (by decide +kernel)) (iv_c _ (a := (-8)) (b := (-8)) (by decide +kernel)) (by decide +kernel)) (iv_c _ (a := (-8)) (b := (-8)) (by decide +kernel)) (by decide +kernel)) (by decide +kernel)) (by decide +kernel))).elim
            · obtain ⟨y94, ey94⟩ : ∃ y : Int32, y = y71 + Int32.ofInt 1 := ⟨_, rfl⟩
              refine lv_iinc (v := y94) (lv' := [(1, .int y94), (2, .int y77), (0, .int x0)]) X.1 X.2.1 dX10_fullBytes_19 hl (k := 1) rfl ey94.symm (by decide) rfl (fun ls hl => ?_)
              obtain ⟨y95, ey95⟩ : ∃ y : Int32, y = y77 + Int32.ofInt (-8) := ⟨_, rfl⟩
              refine lv_iinc (v := y95) (lv' := [(2, .int y95), (1, .int y94), (0, .int x0)]) X.1 X.2.1 dX10_fullBytes_22 hl (k := 1) rfl ey95.symm (by decide) rfl (fun ls hl => ?_)
              refine lv_goto (tgt := 5) X.1 X.2.1 dX10_fullBytes_25 (by decide) ?_
              refine lv_iload_n X.1 X.2.1 dX10_fullBytes_5 rfl (lv_at hl 0 rfl) ?_
              refine lv_if_lt (tgt := 28) X.1 X.2.1 dX10_fullBytes_6 (by decide) (fun c96 => ?_) (fun c96 => ?_)
              · exact ((iv_no (iv_lt (b' := (-1)) c96 (iv_add (a' := 0) (b' := 0) ey95 (iv_add (a' := 8) (b' := 8) ey77 (iv_add (a' := 16) (b' := 16) ey72 (iv_c 24 (a := 24) (b := 24) (by decide +kernel)) (iv_c _ (a := (-8)) (b := (-8)) (by decide +kernel)) (by decide +kernel)) (iv_c _ (a := (-8)) (b := (-8)) (by decide +kernel)) (by decide +kernel)) (iv_c _ (a := (-8)) (b := (-8)) (by decide +kernel)) (by decide +kernel)) (iv_c 0 (a := 0) (b := 0) (by decide +kernel)) (by decide +kernel)) (by decide +kernel))).elim
              · refine lv_iload_n X.1 X.2.1 dX10_fullBytes_9 rfl (lv_at hl 2 rfl) ?_
                refine lv_iload_n X.1 X.2.1 dX10_fullBytes_10 rfl (lv_at hl 0 rfl) ?_
                obtain ⟨f97, ef97⟩ : ∃ y : Int32, y = (x0.toUInt32 >>> ((y95 : Int32).toUInt32 &&& Int32.toUInt32 31)).toInt32 := ⟨_, rfl⟩
                refine lv_iushr (v := f97) X.1 X.2.1 dX10_fullBytes_11 ef97.symm ?_
                refine lv_sipush (v := 255) X.1 X.2.1 dX10_fullBytes_12 (by decide +kernel) ?_
                refine lv_iand X.1 X.2.1 dX10_fullBytes_15 ?_
                refine lv_topi (fun f98 ef98 => ?_)
                refine lv_if_eq (tgt := 22) X.1 X.2.1 dX10_fullBytes_16 (by decide) (fun c99 => ?_) (fun c99 => ?_)
                · obtain ⟨y100, ey100⟩ : ∃ y : Int32, y = y95 + Int32.ofInt (-8) := ⟨_, rfl⟩
                  refine lv_iinc (v := y100) (lv' := [(2, .int y100), (1, .int y94), (0, .int x0)]) X.1 X.2.1 dX10_fullBytes_22 hl (k := 0) rfl ey100.symm (by decide) rfl (fun ls hl => ?_)
                  refine lv_goto (tgt := 5) X.1 X.2.1 dX10_fullBytes_25 (by decide) ?_
                  refine lv_iload_n X.1 X.2.1 dX10_fullBytes_5 rfl (lv_at hl 0 rfl) ?_
                  refine lv_if_lt (tgt := 28) X.1 X.2.1 dX10_fullBytes_6 (by decide) (fun c101 => ?_) (fun c101 => ?_)
                  · refine lv_iload_n X.1 X.2.1 dX10_fullBytes_28 rfl (lv_at hl 1 rfl) ?_
                    have nb24 := sg_nbqU ef2 ef3 (sg_kc (24) (iv_c 24 (a := 24) (b := 24) (by decide +kernel)) (by decide +kernel)) (by decide) c4
                    have nb16 := sg_nbpU ef74 ef75 (sg_kc (16) (iv_add (a' := 16) (b' := 16) ey72 (iv_c 24 (a := 24) (b := 24) (by decide +kernel)) (iv_c _ (a := (-8)) (b := (-8)) (by decide +kernel)) (by decide +kernel)) (by decide +kernel)) (by decide) c76
                    have nb8 := sg_nbqU ef79 ef80 (sg_kc (8) (iv_add (a' := 8) (b' := 8) ey77 (iv_add (a' := 16) (b' := 16) ey72 (iv_c 24 (a := 24) (b := 24) (by decide +kernel)) (iv_c _ (a := (-8)) (b := (-8)) (by decide +kernel)) (by decide +kernel)) (iv_c _ (a := (-8)) (b := (-8)) (by decide +kernel)) (by decide +kernel)) (by decide +kernel)) (by decide) c81
                    have nb0 := sg_nbpU ef97 ef98 (sg_kc (0) (iv_add (a' := 0) (b' := 0) ey95 (iv_add (a' := 8) (b' := 8) ey77 (iv_add (a' := 16) (b' := 16) ey72 (iv_c 24 (a := 24) (b := 24) (by decide +kernel)) (iv_c _ (a := (-8)) (b := (-8)) (by decide +kernel)) (by decide +kernel)) (iv_c _ (a := (-8)) (b := (-8)) (by decide +kernel)) (by decide +kernel)) (iv_c _ (a := (-8)) (b := (-8)) (by decide +kernel)) (by decide +kernel)) (by decide +kernel)) (by decide) c99
                    have cq102 : (0 : Int32).toInt = 0 := by decide +kernel
                    have xy71 : y71.toInt = (0 : Int32).toInt + 1 := sg_inc (k := 1) ey71 (iv_c 0 (a := 0) (b := 0) (by decide +kernel)) (by decide +kernel)
                    have xy94 : y94.toInt = y71.toInt + 1 := sg_inc (k := 1) ey94 (iv_add (a' := 1) (b' := 1) ey71 (iv_c 0 (a := 0) (b := 0) (by decide +kernel)) (iv_c _ (a := 1) (b := 1) (by decide +kernel)) (by decide +kernel)) (by decide +kernel)
                    exact sg_iretP X hr hlk hS ⟨⟨by omega, by omega⟩, by unfold sg_nb; omega⟩ dX10_fullBytes_29
                  · exact ((iv_no (iv_le (b' := (-8)) (iv_ge_of c101) (iv_c 0 (a := 0) (b := 0) (by decide +kernel)) (iv_add (a' := (-8)) (b' := (-8)) ey100 (iv_add (a' := 0) (b' := 0) ey95 (iv_add (a' := 8) (b' := 8) ey77 (iv_add (a' := 16) (b' := 16) ey72 (iv_c 24 (a := 24) (b := 24) (by decide +kernel)) (iv_c _ (a := (-8)) (b := (-8)) (by decide +kernel)) (by decide +kernel)) (iv_c _ (a := (-8)) (b := (-8)) (by decide +kernel)) (by decide +kernel)) (iv_c _ (a := (-8)) (b := (-8)) (by decide +kernel)) (by decide +kernel)) (iv_c _ (a := (-8)) (b := (-8)) (by decide +kernel)) (by decide +kernel)) (by decide +kernel)) (by decide +kernel))).elim
                · obtain ⟨y103, ey103⟩ : ∃ y : Int32, y = y94 + Int32.ofInt 1 := ⟨_, rfl⟩
                  refine lv_iinc (v := y103) (lv' := [(1, .int y103), (2, .int y95), (0, .int x0)]) X.1 X.2.1 dX10_fullBytes_19 hl (k := 1) rfl ey103.symm (by decide) rfl (fun ls hl => ?_)
                  obtain ⟨y104, ey104⟩ : ∃ y : Int32, y = y95 + Int32.ofInt (-8) := ⟨_, rfl⟩
                  refine lv_iinc (v := y104) (lv' := [(2, .int y104), (1, .int y103), (0, .int x0)]) X.1 X.2.1 dX10_fullBytes_22 hl (k := 1) rfl ey104.symm (by decide) rfl (fun ls hl => ?_)
                  refine lv_goto (tgt := 5) X.1 X.2.1 dX10_fullBytes_25 (by decide) ?_
                  refine lv_iload_n X.1 X.2.1 dX10_fullBytes_5 rfl (lv_at hl 0 rfl) ?_
                  refine lv_if_lt (tgt := 28) X.1 X.2.1 dX10_fullBytes_6 (by decide) (fun c105 => ?_) (fun c105 => ?_)
                  · refine lv_iload_n X.1 X.2.1 dX10_fullBytes_28 rfl (lv_at hl 1 rfl) ?_
                    have nb24 := sg_nbqU ef2 ef3 (sg_kc (24) (iv_c 24 (a := 24) (b := 24) (by decide +kernel)) (by decide +kernel)) (by decide) c4
                    have nb16 := sg_nbpU ef74 ef75 (sg_kc (16) (iv_add (a' := 16) (b' := 16) ey72 (iv_c 24 (a := 24) (b := 24) (by decide +kernel)) (iv_c _ (a := (-8)) (b := (-8)) (by decide +kernel)) (by decide +kernel)) (by decide +kernel)) (by decide) c76
                    have nb8 := sg_nbqU ef79 ef80 (sg_kc (8) (iv_add (a' := 8) (b' := 8) ey77 (iv_add (a' := 16) (b' := 16) ey72 (iv_c 24 (a := 24) (b := 24) (by decide +kernel)) (iv_c _ (a := (-8)) (b := (-8)) (by decide +kernel)) (by decide +kernel)) (iv_c _ (a := (-8)) (b := (-8)) (by decide +kernel)) (by decide +kernel)) (by decide +kernel)) (by decide) c81
                    have nb0 := sg_nbqU ef97 ef98 (sg_kc (0) (iv_add (a' := 0) (b' := 0) ey95 (iv_add (a' := 8) (b' := 8) ey77 (iv_add (a' := 16) (b' := 16) ey72 (iv_c 24 (a := 24) (b := 24) (by decide +kernel)) (iv_c _ (a := (-8)) (b := (-8)) (by decide +kernel)) (by decide +kernel)) (iv_c _ (a := (-8)) (b := (-8)) (by decide +kernel)) (by decide +kernel)) (iv_c _ (a := (-8)) (b := (-8)) (by decide +kernel)) (by decide +kernel)) (by decide +kernel)) (by decide) c99
                    have cq106 : (0 : Int32).toInt = 0 := by decide +kernel
                    have xy71 : y71.toInt = (0 : Int32).toInt + 1 := sg_inc (k := 1) ey71 (iv_c 0 (a := 0) (b := 0) (by decide +kernel)) (by decide +kernel)
                    have xy94 : y94.toInt = y71.toInt + 1 := sg_inc (k := 1) ey94 (iv_add (a' := 1) (b' := 1) ey71 (iv_c 0 (a := 0) (b := 0) (by decide +kernel)) (iv_c _ (a := 1) (b := 1) (by decide +kernel)) (by decide +kernel)) (by decide +kernel)
                    have xy103 : y103.toInt = y94.toInt + 1 := sg_inc (k := 1) ey103 (iv_add (a' := 2) (b' := 2) ey94 (iv_add (a' := 1) (b' := 1) ey71 (iv_c 0 (a := 0) (b := 0) (by decide +kernel)) (iv_c _ (a := 1) (b := 1) (by decide +kernel)) (by decide +kernel)) (iv_c _ (a := 1) (b := 1) (by decide +kernel)) (by decide +kernel)) (by decide +kernel)
                    exact sg_iretP X hr hlk hS ⟨⟨by omega, by omega⟩, by unfold sg_nb; omega⟩ dX10_fullBytes_29
                  · exact ((iv_no (iv_le (b' := (-8)) (iv_ge_of c105) (iv_c 0 (a := 0) (b := 0) (by decide +kernel)) (iv_add (a' := (-8)) (b' := (-8)) ey104 (iv_add (a' := 0) (b' := 0) ey95 (iv_add (a' := 8) (b' := 8) ey77 (iv_add (a' := 16) (b' := 16) ey72 (iv_c 24 (a := 24) (b := 24) (by decide +kernel)) (iv_c _ (a := (-8)) (b := (-8)) (by decide +kernel)) (by decide +kernel)) (iv_c _ (a := (-8)) (b := (-8)) (by decide +kernel)) (by decide +kernel)) (iv_c _ (a := (-8)) (b := (-8)) (by decide +kernel)) (by decide +kernel)) (iv_c _ (a := (-8)) (b := (-8)) (by decide +kernel)) (by decide +kernel)) (by decide +kernel)) (by decide +kernel))).elim
        · obtain ⟨y107, ey107⟩ : ∃ y : Int32, y = y71 + Int32.ofInt 1 := ⟨_, rfl⟩
          refine lv_iinc (v := y107) (lv' := [(1, .int y107), (2, .int y72), (0, .int x0)]) X.1 X.2.1 dX10_fullBytes_19 hl (k := 1) rfl ey107.symm (by decide) rfl (fun ls hl => ?_)
          obtain ⟨y108, ey108⟩ : ∃ y : Int32, y = y72 + Int32.ofInt (-8) := ⟨_, rfl⟩
          refine lv_iinc (v := y108) (lv' := [(2, .int y108), (1, .int y107), (0, .int x0)]) X.1 X.2.1 dX10_fullBytes_22 hl (k := 1) rfl ey108.symm (by decide) rfl (fun ls hl => ?_)
          refine lv_goto (tgt := 5) X.1 X.2.1 dX10_fullBytes_25 (by decide) ?_
          refine lv_iload_n X.1 X.2.1 dX10_fullBytes_5 rfl (lv_at hl 0 rfl) ?_
          refine lv_if_lt (tgt := 28) X.1 X.2.1 dX10_fullBytes_6 (by decide) (fun c109 => ?_) (fun c109 => ?_)
          · exact ((iv_no (iv_lt (b' := (-1)) c109 (iv_add (a' := 8) (b' := 8) ey108 (iv_add (a' := 16) (b' := 16) ey72 (iv_c 24 (a := 24) (b := 24) (by decide +kernel)) (iv_c _ (a := (-8)) (b := (-8)) (by decide +kernel)) (by decide +kernel)) (iv_c _ (a := (-8)) (b := (-8)) (by decide +kernel)) (by decide +kernel)) (iv_c 0 (a := 0) (b := 0) (by decide +kernel)) (by decide +kernel)) (by decide +kernel))).elim
          · refine lv_iload_n X.1 X.2.1 dX10_fullBytes_9 rfl (lv_at hl 2 rfl) ?_
            refine lv_iload_n X.1 X.2.1 dX10_fullBytes_10 rfl (lv_at hl 0 rfl) ?_
            obtain ⟨f110, ef110⟩ : ∃ y : Int32, y = (x0.toUInt32 >>> ((y108 : Int32).toUInt32 &&& Int32.toUInt32 31)).toInt32 := ⟨_, rfl⟩
            refine lv_iushr (v := f110) X.1 X.2.1 dX10_fullBytes_11 ef110.symm ?_
            refine lv_sipush (v := 255) X.1 X.2.1 dX10_fullBytes_12 (by decide +kernel) ?_
            refine lv_iand X.1 X.2.1 dX10_fullBytes_15 ?_
            refine lv_topi (fun f111 ef111 => ?_)
            refine lv_if_eq (tgt := 22) X.1 X.2.1 dX10_fullBytes_16 (by decide) (fun c112 => ?_) (fun c112 => ?_)
            · obtain ⟨y113, ey113⟩ : ∃ y : Int32, y = y108 + Int32.ofInt (-8) := ⟨_, rfl⟩
              refine lv_iinc (v := y113) (lv' := [(2, .int y113), (1, .int y107), (0, .int x0)]) X.1 X.2.1 dX10_fullBytes_22 hl (k := 0) rfl ey113.symm (by decide) rfl (fun ls hl => ?_)
              refine lv_goto (tgt := 5) X.1 X.2.1 dX10_fullBytes_25 (by decide) ?_
              refine lv_iload_n X.1 X.2.1 dX10_fullBytes_5 rfl (lv_at hl 0 rfl) ?_
              refine lv_if_lt (tgt := 28) X.1 X.2.1 dX10_fullBytes_6 (by decide) (fun c114 => ?_) (fun c114 => ?_)
              · exact ((iv_no (iv_lt (b' := (-1)) c114 (iv_add (a' := 0) (b' := 0) ey113 (iv_add (a' := 8) (b' := 8) ey108 (iv_add (a' := 16) (b' := 16) ey72 (iv_c 24 (a := 24) (b := 24) (by decide +kernel)) (iv_c _ (a := (-8)) (b := (-8)) (by decide +kernel)) (by decide +kernel)) (iv_c _ (a := (-8)) (b := (-8)) (by decide +kernel)) (by decide +kernel)) (iv_c _ (a := (-8)) (b := (-8)) (by decide +kernel)) (by decide +kernel)) (iv_c 0 (a := 0) (b := 0) (by decide +kernel)) (by decide +kernel)) (by decide +kernel))).elim
              · refine lv_iload_n X.1 X.2.1 dX10_fullBytes_9 rfl (lv_at hl 2 rfl) ?_
                refine lv_iload_n X.1 X.2.1 dX10_fullBytes_10 rfl (lv_at hl 0 rfl) ?_
                obtain ⟨f115, ef115⟩ : ∃ y : Int32, y = (x0.toUInt32 >>> ((y113 : Int32).toUInt32 &&& Int32.toUInt32 31)).toInt32 := ⟨_, rfl⟩
                refine lv_iushr (v := f115) X.1 X.2.1 dX10_fullBytes_11 ef115.symm ?_
                refine lv_sipush (v := 255) X.1 X.2.1 dX10_fullBytes_12 (by decide +kernel) ?_
                refine lv_iand X.1 X.2.1 dX10_fullBytes_15 ?_
                refine lv_topi (fun f116 ef116 => ?_)
                refine lv_if_eq (tgt := 22) X.1 X.2.1 dX10_fullBytes_16 (by decide) (fun c117 => ?_) (fun c117 => ?_)
                · obtain ⟨y118, ey118⟩ : ∃ y : Int32, y = y113 + Int32.ofInt (-8) := ⟨_, rfl⟩
                  refine lv_iinc (v := y118) (lv' := [(2, .int y118), (1, .int y107), (0, .int x0)]) X.1 X.2.1 dX10_fullBytes_22 hl (k := 0) rfl ey118.symm (by decide) rfl (fun ls hl => ?_)
                  refine lv_goto (tgt := 5) X.1 X.2.1 dX10_fullBytes_25 (by decide) ?_
                  refine lv_iload_n X.1 X.2.1 dX10_fullBytes_5 rfl (lv_at hl 0 rfl) ?_
                  refine lv_if_lt (tgt := 28) X.1 X.2.1 dX10_fullBytes_6 (by decide) (fun c119 => ?_) (fun c119 => ?_)
                  · refine lv_iload_n X.1 X.2.1 dX10_fullBytes_28 rfl (lv_at hl 1 rfl) ?_
                    have nb24 := sg_nbqU ef2 ef3 (sg_kc (24) (iv_c 24 (a := 24) (b := 24) (by decide +kernel)) (by decide +kernel)) (by decide) c4
                    have nb16 := sg_nbqU ef74 ef75 (sg_kc (16) (iv_add (a' := 16) (b' := 16) ey72 (iv_c 24 (a := 24) (b := 24) (by decide +kernel)) (iv_c _ (a := (-8)) (b := (-8)) (by decide +kernel)) (by decide +kernel)) (by decide +kernel)) (by decide) c76
                    have nb8 := sg_nbpU ef110 ef111 (sg_kc (8) (iv_add (a' := 8) (b' := 8) ey108 (iv_add (a' := 16) (b' := 16) ey72 (iv_c 24 (a := 24) (b := 24) (by decide +kernel)) (iv_c _ (a := (-8)) (b := (-8)) (by decide +kernel)) (by decide +kernel)) (iv_c _ (a := (-8)) (b := (-8)) (by decide +kernel)) (by decide +kernel)) (by decide +kernel)) (by decide) c112
                    have nb0 := sg_nbpU ef115 ef116 (sg_kc (0) (iv_add (a' := 0) (b' := 0) ey113 (iv_add (a' := 8) (b' := 8) ey108 (iv_add (a' := 16) (b' := 16) ey72 (iv_c 24 (a := 24) (b := 24) (by decide +kernel)) (iv_c _ (a := (-8)) (b := (-8)) (by decide +kernel)) (by decide +kernel)) (iv_c _ (a := (-8)) (b := (-8)) (by decide +kernel)) (by decide +kernel)) (iv_c _ (a := (-8)) (b := (-8)) (by decide +kernel)) (by decide +kernel)) (by decide +kernel)) (by decide) c117
                    have cq120 : (0 : Int32).toInt = 0 := by decide +kernel
                    have xy71 : y71.toInt = (0 : Int32).toInt + 1 := sg_inc (k := 1) ey71 (iv_c 0 (a := 0) (b := 0) (by decide +kernel)) (by decide +kernel)
                    have xy107 : y107.toInt = y71.toInt + 1 := sg_inc (k := 1) ey107 (iv_add (a' := 1) (b' := 1) ey71 (iv_c 0 (a := 0) (b := 0) (by decide +kernel)) (iv_c _ (a := 1) (b := 1) (by decide +kernel)) (by decide +kernel)) (by decide +kernel)
                    exact sg_iretP X hr hlk hS ⟨⟨by omega, by omega⟩, by unfold sg_nb; omega⟩ dX10_fullBytes_29
                  · exact ((iv_no (iv_le (b' := (-8)) (iv_ge_of c119) (iv_c 0 (a := 0) (b := 0) (by decide +kernel)) (iv_add (a' := (-8)) (b' := (-8)) ey118 (iv_add (a' := 0) (b' := 0) ey113 (iv_add (a' := 8) (b' := 8) ey108 (iv_add (a' := 16) (b' := 16) ey72 (iv_c 24 (a := 24) (b := 24) (by decide +kernel)) (iv_c _ (a := (-8)) (b := (-8)) (by decide +kernel)) (by decide +kernel)) (iv_c _ (a := (-8)) (b := (-8)) (by decide +kernel)) (by decide +kernel)) (iv_c _ (a := (-8)) (b := (-8)) (by decide +kernel)) (by decide +kernel)) (iv_c _ (a := (-8)) (b := (-8)) (by decide +kernel)) (by decide +kernel)) (by decide +kernel)) (by decide +kernel))).elim
                · obtain ⟨y121, ey121⟩ : ∃ y : Int32, y = y107 + Int32.ofInt 1 := ⟨_, rfl⟩
                  refine lv_iinc (v := y121) (lv' := [(1, .int y121), (2, .int y113), (0, .int x0)]) X.1 X.2.1 dX10_fullBytes_19 hl (k := 1) rfl ey121.symm (by decide) rfl (fun ls hl => ?_)
                  obtain ⟨y122, ey122⟩ : ∃ y : Int32, y = y113 + Int32.ofInt (-8) := ⟨_, rfl⟩
                  refine lv_iinc (v := y122) (lv' := [(2, .int y122), (1, .int y121), (0, .int x0)]) X.1 X.2.1 dX10_fullBytes_22 hl (k := 1) rfl ey122.symm (by decide) rfl (fun ls hl => ?_)
                  refine lv_goto (tgt := 5) X.1 X.2.1 dX10_fullBytes_25 (by decide) ?_
                  refine lv_iload_n X.1 X.2.1 dX10_fullBytes_5 rfl (lv_at hl 0 rfl) ?_
                  refine lv_if_lt (tgt := 28) X.1 X.2.1 dX10_fullBytes_6 (by decide) (fun c123 => ?_) (fun c123 => ?_)
                  · refine lv_iload_n X.1 X.2.1 dX10_fullBytes_28 rfl (lv_at hl 1 rfl) ?_
                    have nb24 := sg_nbqU ef2 ef3 (sg_kc (24) (iv_c 24 (a := 24) (b := 24) (by decide +kernel)) (by decide +kernel)) (by decide) c4
                    have nb16 := sg_nbqU ef74 ef75 (sg_kc (16) (iv_add (a' := 16) (b' := 16) ey72 (iv_c 24 (a := 24) (b := 24) (by decide +kernel)) (iv_c _ (a := (-8)) (b := (-8)) (by decide +kernel)) (by decide +kernel)) (by decide +kernel)) (by decide) c76
                    have nb8 := sg_nbpU ef110 ef111 (sg_kc (8) (iv_add (a' := 8) (b' := 8) ey108 (iv_add (a' := 16) (b' := 16) ey72 (iv_c 24 (a := 24) (b := 24) (by decide +kernel)) (iv_c _ (a := (-8)) (b := (-8)) (by decide +kernel)) (by decide +kernel)) (iv_c _ (a := (-8)) (b := (-8)) (by decide +kernel)) (by decide +kernel)) (by decide +kernel)) (by decide) c112
                    have nb0 := sg_nbqU ef115 ef116 (sg_kc (0) (iv_add (a' := 0) (b' := 0) ey113 (iv_add (a' := 8) (b' := 8) ey108 (iv_add (a' := 16) (b' := 16) ey72 (iv_c 24 (a := 24) (b := 24) (by decide +kernel)) (iv_c _ (a := (-8)) (b := (-8)) (by decide +kernel)) (by decide +kernel)) (iv_c _ (a := (-8)) (b := (-8)) (by decide +kernel)) (by decide +kernel)) (iv_c _ (a := (-8)) (b := (-8)) (by decide +kernel)) (by decide +kernel)) (by decide +kernel)) (by decide) c117
                    have cq124 : (0 : Int32).toInt = 0 := by decide +kernel
                    have xy71 : y71.toInt = (0 : Int32).toInt + 1 := sg_inc (k := 1) ey71 (iv_c 0 (a := 0) (b := 0) (by decide +kernel)) (by decide +kernel)
                    have xy107 : y107.toInt = y71.toInt + 1 := sg_inc (k := 1) ey107 (iv_add (a' := 1) (b' := 1) ey71 (iv_c 0 (a := 0) (b := 0) (by decide +kernel)) (iv_c _ (a := 1) (b := 1) (by decide +kernel)) (by decide +kernel)) (by decide +kernel)
                    have xy121 : y121.toInt = y107.toInt + 1 := sg_inc (k := 1) ey121 (iv_add (a' := 2) (b' := 2) ey107 (iv_add (a' := 1) (b' := 1) ey71 (iv_c 0 (a := 0) (b := 0) (by decide +kernel)) (iv_c _ (a := 1) (b := 1) (by decide +kernel)) (by decide +kernel)) (iv_c _ (a := 1) (b := 1) (by decide +kernel)) (by decide +kernel)) (by decide +kernel)
                    exact sg_iretP X hr hlk hS ⟨⟨by omega, by omega⟩, by unfold sg_nb; omega⟩ dX10_fullBytes_29
                  · exact ((iv_no (iv_le (b' := (-8)) (iv_ge_of c123) (iv_c 0 (a := 0) (b := 0) (by decide +kernel)) (iv_add (a' := (-8)) (b' := (-8)) ey122 (iv_add (a' := 0) (b' := 0) ey113 (iv_add (a' := 8) (b' := 8) ey108 (iv_add (a' := 16) (b' := 16) ey72 (iv_c 24 (a := 24) (b := 24) (by decide +kernel)) (iv_c _ (a := (-8)) (b := (-8)) (by decide +kernel)) (by decide +kernel)) (iv_c _ (a := (-8)) (b := (-8)) (by decide +kernel)) (by decide +kernel)) (iv_c _ (a := (-8)) (b := (-8)) (by decide +kernel)) (by decide +kernel)) (iv_c _ (a := (-8)) (b := (-8)) (by decide +kernel)) (by decide +kernel)) (by decide +kernel)) (by decide +kernel))).elim
            · obtain ⟨y125, ey125⟩ : ∃ y : Int32, y = y107 + Int32.ofInt 1 := ⟨_, rfl⟩
              refine lv_iinc (v := y125) (lv' := [(1, .int y125), (2, .int y108), (0, .int x0)]) X.1 X.2.1 dX10_fullBytes_19 hl (k := 1) rfl ey125.symm (by decide) rfl (fun ls hl => ?_)
              obtain ⟨y126, ey126⟩ : ∃ y : Int32, y = y108 + Int32.ofInt (-8) := ⟨_, rfl⟩
              refine lv_iinc (v := y126) (lv' := [(2, .int y126), (1, .int y125), (0, .int x0)]) X.1 X.2.1 dX10_fullBytes_22 hl (k := 1) rfl ey126.symm (by decide) rfl (fun ls hl => ?_)
              refine lv_goto (tgt := 5) X.1 X.2.1 dX10_fullBytes_25 (by decide) ?_
              refine lv_iload_n X.1 X.2.1 dX10_fullBytes_5 rfl (lv_at hl 0 rfl) ?_
              refine lv_if_lt (tgt := 28) X.1 X.2.1 dX10_fullBytes_6 (by decide) (fun c127 => ?_) (fun c127 => ?_)
              · exact ((iv_no (iv_lt (b' := (-1)) c127 (iv_add (a' := 0) (b' := 0) ey126 (iv_add (a' := 8) (b' := 8) ey108 (iv_add (a' := 16) (b' := 16) ey72 (iv_c 24 (a := 24) (b := 24) (by decide +kernel)) (iv_c _ (a := (-8)) (b := (-8)) (by decide +kernel)) (by decide +kernel)) (iv_c _ (a := (-8)) (b := (-8)) (by decide +kernel)) (by decide +kernel)) (iv_c _ (a := (-8)) (b := (-8)) (by decide +kernel)) (by decide +kernel)) (iv_c 0 (a := 0) (b := 0) (by decide +kernel)) (by decide +kernel)) (by decide +kernel))).elim
              · refine lv_iload_n X.1 X.2.1 dX10_fullBytes_9 rfl (lv_at hl 2 rfl) ?_
                refine lv_iload_n X.1 X.2.1 dX10_fullBytes_10 rfl (lv_at hl 0 rfl) ?_
                obtain ⟨f128, ef128⟩ : ∃ y : Int32, y = (x0.toUInt32 >>> ((y126 : Int32).toUInt32 &&& Int32.toUInt32 31)).toInt32 := ⟨_, rfl⟩
                refine lv_iushr (v := f128) X.1 X.2.1 dX10_fullBytes_11 ef128.symm ?_
                refine lv_sipush (v := 255) X.1 X.2.1 dX10_fullBytes_12 (by decide +kernel) ?_
                refine lv_iand X.1 X.2.1 dX10_fullBytes_15 ?_
                refine lv_topi (fun f129 ef129 => ?_)
                refine lv_if_eq (tgt := 22) X.1 X.2.1 dX10_fullBytes_16 (by decide) (fun c130 => ?_) (fun c130 => ?_)
                · obtain ⟨y131, ey131⟩ : ∃ y : Int32, y = y126 + Int32.ofInt (-8) := ⟨_, rfl⟩
                  refine lv_iinc (v := y131) (lv' := [(2, .int y131), (1, .int y125), (0, .int x0)]) X.1 X.2.1 dX10_fullBytes_22 hl (k := 0) rfl ey131.symm (by decide) rfl (fun ls hl => ?_)
                  refine lv_goto (tgt := 5) X.1 X.2.1 dX10_fullBytes_25 (by decide) ?_
                  refine lv_iload_n X.1 X.2.1 dX10_fullBytes_5 rfl (lv_at hl 0 rfl) ?_
                  refine lv_if_lt (tgt := 28) X.1 X.2.1 dX10_fullBytes_6 (by decide) (fun c132 => ?_) (fun c132 => ?_)
                  · refine lv_iload_n X.1 X.2.1 dX10_fullBytes_28 rfl (lv_at hl 1 rfl) ?_
                    have nb24 := sg_nbqU ef2 ef3 (sg_kc (24) (iv_c 24 (a := 24) (b := 24) (by decide +kernel)) (by decide +kernel)) (by decide) c4
                    have nb16 := sg_nbqU ef74 ef75 (sg_kc (16) (iv_add (a' := 16) (b' := 16) ey72 (iv_c 24 (a := 24) (b := 24) (by decide +kernel)) (iv_c _ (a := (-8)) (b := (-8)) (by decide +kernel)) (by decide +kernel)) (by decide +kernel)) (by decide) c76
                    have nb8 := sg_nbqU ef110 ef111 (sg_kc (8) (iv_add (a' := 8) (b' := 8) ey108 (iv_add (a' := 16) (b' := 16) ey72 (iv_c 24 (a := 24) (b := 24) (by decide +kernel)) (iv_c _ (a := (-8)) (b := (-8)) (by decide +kernel)) (by decide +kernel)) (iv_c _ (a := (-8)) (b := (-8)) (by decide +kernel)) (by decide +kernel)) (by decide +kernel)) (by decide) c112
                    have nb0 := sg_nbpU ef128 ef129 (sg_kc (0) (iv_add (a' := 0) (b' := 0) ey126 (iv_add (a' := 8) (b' := 8) ey108 (iv_add (a' := 16) (b' := 16) ey72 (iv_c 24 (a := 24) (b := 24) (by decide +kernel)) (iv_c _ (a := (-8)) (b := (-8)) (by decide +kernel)) (by decide +kernel)) (iv_c _ (a := (-8)) (b := (-8)) (by decide +kernel)) (by decide +kernel)) (iv_c _ (a := (-8)) (b := (-8)) (by decide +kernel)) (by decide +kernel)) (by decide +kernel)) (by decide) c130
                    have cq133 : (0 : Int32).toInt = 0 := by decide +kernel
                    have xy71 : y71.toInt = (0 : Int32).toInt + 1 := sg_inc (k := 1) ey71 (iv_c 0 (a := 0) (b := 0) (by decide +kernel)) (by decide +kernel)
                    have xy107 : y107.toInt = y71.toInt + 1 := sg_inc (k := 1) ey107 (iv_add (a' := 1) (b' := 1) ey71 (iv_c 0 (a := 0) (b := 0) (by decide +kernel)) (iv_c _ (a := 1) (b := 1) (by decide +kernel)) (by decide +kernel)) (by decide +kernel)
                    have xy125 : y125.toInt = y107.toInt + 1 := sg_inc (k := 1) ey125 (iv_add (a' := 2) (b' := 2) ey107 (iv_add (a' := 1) (b' := 1) ey71 (iv_c 0 (a := 0) (b := 0) (by decide +kernel)) (iv_c _ (a := 1) (b := 1) (by decide +kernel)) (by decide +kernel)) (iv_c _ (a := 1) (b := 1) (by decide +kernel)) (by decide +kernel)) (by decide +kernel)
                    exact sg_iretP X hr hlk hS ⟨⟨by omega, by omega⟩, by unfold sg_nb; omega⟩ dX10_fullBytes_29
                  · exact ((iv_no (iv_le (b' := (-8)) (iv_ge_of c132) (iv_c 0 (a := 0) (b := 0) (by decide +kernel)) (iv_add (a' := (-8)) (b' := (-8)) ey131 (iv_add (a' := 0) (b' := 0) ey126 (iv_add (a' := 8) (b' := 8) ey108 (iv_add (a' := 16) (b' := 16) ey72 (iv_c 24 (a := 24) (b := 24) (by decide +kernel)) (iv_c _ (a := (-8)) (b := (-8)) (by decide +kernel)) (by decide +kernel)) (iv_c _ (a := (-8)) (b := (-8)) (by decide +kernel)) (by decide +kernel)) (iv_c _ (a := (-8)) (b := (-8)) (by decide +kernel)) (by decide +kernel)) (iv_c _ (a := (-8)) (b := (-8)) (by decide +kernel)) (by decide +kernel)) (by decide +kernel)) (by decide +kernel))).elim
                · obtain ⟨y134, ey134⟩ : ∃ y : Int32, y = y125 + Int32.ofInt 1 := ⟨_, rfl⟩
                  refine lv_iinc (v := y134) (lv' := [(1, .int y134), (2, .int y126), (0, .int x0)]) X.1 X.2.1 dX10_fullBytes_19 hl (k := 1) rfl ey134.symm (by decide) rfl (fun ls hl => ?_)
                  obtain ⟨y135, ey135⟩ : ∃ y : Int32, y = y126 + Int32.ofInt (-8) := ⟨_, rfl⟩
                  refine lv_iinc (v := y135) (lv' := [(2, .int y135), (1, .int y134), (0, .int x0)]) X.1 X.2.1 dX10_fullBytes_22 hl (k := 1) rfl ey135.symm (by decide) rfl (fun ls hl => ?_)
                  refine lv_goto (tgt := 5) X.1 X.2.1 dX10_fullBytes_25 (by decide) ?_
                  refine lv_iload_n X.1 X.2.1 dX10_fullBytes_5 rfl (lv_at hl 0 rfl) ?_
                  refine lv_if_lt (tgt := 28) X.1 X.2.1 dX10_fullBytes_6 (by decide) (fun c136 => ?_) (fun c136 => ?_)
                  · refine lv_iload_n X.1 X.2.1 dX10_fullBytes_28 rfl (lv_at hl 1 rfl) ?_
                    have nb24 := sg_nbqU ef2 ef3 (sg_kc (24) (iv_c 24 (a := 24) (b := 24) (by decide +kernel)) (by decide +kernel)) (by decide) c4
                    have nb16 := sg_nbqU ef74 ef75 (sg_kc (16) (iv_add (a' := 16) (b' := 16) ey72 (iv_c 24 (a := 24) (b := 24) (by decide +kernel)) (iv_c _ (a := (-8)) (b := (-8)) (by decide +kernel)) (by decide +kernel)) (by decide +kernel)) (by decide) c76
                    have nb8 := sg_nbqU ef110 ef111 (sg_kc (8) (iv_add (a' := 8) (b' := 8) ey108 (iv_add (a' := 16) (b' := 16) ey72 (iv_c 24 (a := 24) (b := 24) (by decide +kernel)) (iv_c _ (a := (-8)) (b := (-8)) (by decide +kernel)) (by decide +kernel)) (iv_c _ (a := (-8)) (b := (-8)) (by decide +kernel)) (by decide +kernel)) (by decide +kernel)) (by decide) c112
                    have nb0 := sg_nbqU ef128 ef129 (sg_kc (0) (iv_add (a' := 0) (b' := 0) ey126 (iv_add (a' := 8) (b' := 8) ey108 (iv_add (a' := 16) (b' := 16) ey72 (iv_c 24 (a := 24) (b := 24) (by decide +kernel)) (iv_c _ (a := (-8)) (b := (-8)) (by decide +kernel)) (by decide +kernel)) (iv_c _ (a := (-8)) (b := (-8)) (by decide +kernel)) (by decide +kernel)) (iv_c _ (a := (-8)) (b := (-8)) (by decide +kernel)) (by decide +kernel)) (by decide +kernel)) (by decide) c130
                    have cq137 : (0 : Int32).toInt = 0 := by decide +kernel
                    have xy71 : y71.toInt = (0 : Int32).toInt + 1 := sg_inc (k := 1) ey71 (iv_c 0 (a := 0) (b := 0) (by decide +kernel)) (by decide +kernel)
                    have xy107 : y107.toInt = y71.toInt + 1 := sg_inc (k := 1) ey107 (iv_add (a' := 1) (b' := 1) ey71 (iv_c 0 (a := 0) (b := 0) (by decide +kernel)) (iv_c _ (a := 1) (b := 1) (by decide +kernel)) (by decide +kernel)) (by decide +kernel)
                    have xy125 : y125.toInt = y107.toInt + 1 := sg_inc (k := 1) ey125 (iv_add (a' := 2) (b' := 2) ey107 (iv_add (a' := 1) (b' := 1) ey71 (iv_c 0 (a := 0) (b := 0) (by decide +kernel)) (iv_c _ (a := 1) (b := 1) (by decide +kernel)) (by decide +kernel)) (iv_c _ (a := 1) (b := 1) (by decide +kernel)) (by decide +kernel)) (by decide +kernel)
                    have xy134 : y134.toInt = y125.toInt + 1 := sg_inc (k := 1) ey134 (iv_add (a' := 3) (b' := 3) ey125 (iv_add (a' := 2) (b' := 2) ey107 (iv_add (a' := 1) (b' := 1) ey71 (iv_c 0 (a := 0) (b := 0) (by decide +kernel)) (iv_c _ (a := 1) (b := 1) (by decide +kernel)) (by decide +kernel)) (iv_c _ (a := 1) (b := 1) (by decide +kernel)) (by decide +kernel)) (iv_c _ (a := 1) (b := 1) (by decide +kernel)) (by decide +kernel)) (by decide +kernel)
                    exact sg_iretP X hr hlk hS ⟨⟨by omega, by omega⟩, by unfold sg_nb; omega⟩ dX10_fullBytes_29
                  · exact ((iv_no (iv_le (b' := (-8)) (iv_ge_of c136) (iv_c 0 (a := 0) (b := 0) (by decide +kernel)) (iv_add (a' := (-8)) (b' := (-8)) ey135 (iv_add (a' := 0) (b' := 0) ey126 (iv_add (a' := 8) (b' := 8) ey108 (iv_add (a' := 16) (b' := 16) ey72 (iv_c 24 (a := 24) (b := 24) (by decide +kernel)) (iv_c _ (a := (-8)) (b := (-8)) (by decide +kernel)) (by decide +kernel)) (iv_c _ (a := (-8)) (b := (-8)) (by decide +kernel)) (by decide +kernel)) (iv_c _ (a := (-8)) (b := (-8)) (by decide +kernel)) (by decide +kernel)) (iv_c _ (a := (-8)) (b := (-8)) (by decide +kernel)) (by decide +kernel)) (by decide +kernel)) (by decide +kernel))).elim

theorem ca_X10_fullBytes_b   (X : CallFix p m c cc nL s args sg_tbl own) (hK : va_K D vwCl tys s) (hG : sgG (KT P) D vwCl (fun q : Nat => base ≤ q) tys ad ks H) (hC : sgC base s) (hA : ∀ q : Nat, A q → base ≤ q) (hS : va_S A s.heap H locs) (hb : base ≤ s.heap.size) (x0 : Int32) (hl : Cond.methodLink own index yX10_fullBytes ∈ sg_tbl) (hsize : ls.size = nL) (hst : st0 = [.int x0].reverse ++ rest) (hW : (rest.map fun v => v.category).sum ≤ 8) (hR : 1 ≤ R.frames ∧ 22 ≤ R.locals) (hf : cells ≤ R.cells ∧ slots ≤ R.slots) (hdg : decode cc pc = .ok (.invokestatic index, 3)) (kk : ∀ (r : Int32) (locs1 : List Loc), (fun r : Int32 => iv 0 4 r ∧ r.toInt = sg_nb x0) r → va_S A s.heap H locs1 → W p l e R s m args below meth c H locs1 cells slots Q (F0 m (pc + 3) ls (.int r :: rest))) : W p l e R s m args below meth c H locs cells slots Q (F0 m pc ls st0) :=
  sg_callPSi X hK hG hC hA hS hb (m_X10_fullBytes_b l x0) wl_3_13 wl_1_2 wl_3_12 (n := 1) (by decide +kernel) rfl rfl rfl hl hsize hst hW hR hf hdg kk
end
