
section
variable {p : Program} {l : Launch} {e : Env} {R : Room} {s : State} {m : MethodId} {args : Array Value} {below : List Frame} {meth : Method} {c : Code} {H : Heap} {locs : List Loc} {cells slots : Nat} {Q : State → Prop} {cc : ByteArray} {nL pc : Nat} {ls : Array Slot} {rest : List Value} {own : String} {D : va_G} {A : Nat → Prop} {tys : List (ClassId × FieldType)} {ad ks : List Nat} {P : sgPm} {H0 : Heap} {index : Nat} {base : Nat} {st0 : List Value} {a : Nat}

set_option maxHeartbeats 8000000 in
set_option maxRecDepth 100000 in
theorem m_X10_fullBytes_b (l : Launch) {D : va_G} {base : Nat} {tys : List (ClassId × FieldType)} {ad ks : List Nat} {P : sgPm} {Hx : Heap} (x0 : Int32) : sgPi l (KT P) D vwCl base tys ad ks Hx yX10_fullBytes cX10_fullBytes 3 (some .int) ({ frames := 0, cells := 0, slots := 0, locals := 0 }) [.int x0] (fun r : Int32 => iv 0 4 r ∧ r.toInt = sg_nb x0) := by
  refine sg_ofP (Pq := fun Hx => va_Qi (fun r (_ : Unit) => (fun r : Int32 => iv 0 4 r ∧ r.toInt = sg_nb x0) r) (fun _ t => t.heap = Hx) (fun _ : Nat => False)) (by decide +kernel) (Nat.le_of_ble_eq_true rfl) (fun p e s m below meth c X hr hlk hb hK hC hG ls hl => ?_)
  have hS : va_S (fun _ : Nat => False) s.heap s.heap [] := va_S.rf
  have hl : lv_has ls 3 [(0, .int x0)] := hl
  refine lv_iconst (v := 0) X.1 X.2.1 dX10_fullBytes_0 (by decide +kernel) ?_
  refine lv_istore_n (lv' := [(1, .int 0), (0, .int x0)]) X.1 X.2.1 dX10_fullBytes_1 rfl hl (by decide) rfl (fun ls hl => ?_)
  refine lv_bipush (v := 24) X.1 X.2.1 dX10_fullBytes_2 (by decide +kernel) ?_
  refine lv_istore_n (lv' := [(2, .int 24), (1, .int 0), (0, .int x0)]) X.1 X.2.1 dX10_fullBytes_4 rfl hl (by decide) rfl (fun ls hl => ?_)
  refine lv_iload_n X.1 X.2.1 dX10_fullBytes_5 rfl (lv_at hl 0 rfl) ?_
  refine lv_if_lt (tgt := 28) X.1 X.2.1 dX10_fullBytes_6 (by decide) (fun c1 => ?_) (fun c1 => ?_)
  · exact ((iv_no (iv_lt (b' := (-1)) c1 (iv_c 24 (a := 24) (b := 24) (by decide +kernel)) (iv_c 0 (a := 0) (b := 0) (by decide +kernel)) (by decide +kernel)) (by decide +kernel))).elim
  · refine lv_iload_n X.1 X.2.1 dX10_fullBytes_9 rfl (lv_at hl 2 rfl) ?_
    refine lv_iload_n X.1 X.2.1 dX10_fullBytes_10 rfl (lv_at hl 0 rfl) ?_
    obtain ⟨f2, ef2⟩ : ∃ y : Int32, y = (x0.toUInt32 >>> ((24 : Int32).toUInt32 &&& Int32.toUInt32 31)).toInt32 := ⟨_, rfl⟩
    refine lv_iushr (v := f2) X.1 X.2.1 dX10_fullBytes_11 ef2.symm ?_
    refine lv_sipush (v := 255) X.1 X.2.1 dX10_fullBytes_12 (by decide +kernel) ?_
    refine lv_iand X.1 X.2.1 dX10_fullBytes_15 ?_
    refine lv_topi (fun f3 ef3 => ?_)
    refine lv_if_eq (tgt := 22) X.1 X.2.1 dX10_fullBytes_16 (by decide) (fun c4 => ?_) (fun c4 => ?_)
    · obtain ⟨y5, ey5⟩ : ∃ y : Int32, y = 24 + Int32.ofInt (-8) := ⟨_, rfl⟩
      refine lv_iinc (v := y5) (lv' := [(2, .int y5), (1, .int 0), (0, .int x0)]) X.1 X.2.1 dX10_fullBytes_22 hl (k := 0) rfl ey5.symm (by decide) rfl (fun ls hl => ?_)
      refine lv_goto (tgt := 5) X.1 X.2.1 dX10_fullBytes_25 (by decide) ?_
      refine lv_iload_n X.1 X.2.1 dX10_fullBytes_5 rfl (lv_at hl 0 rfl) ?_
      refine lv_if_lt (tgt := 28) X.1 X.2.1 dX10_fullBytes_6 (by decide) (fun c6 => ?_) (fun c6 => ?_)
      · exact ((iv_no (iv_lt (b' := (-1)) c6 (iv_add (a' := 16) (b' := 16) ey5 (iv_c 24 (a := 24) (b := 24) (by decide +kernel)) (iv_c _ (a := (-8)) (b := (-8)) (by decide +kernel)) (by decide +kernel)) (iv_c 0 (a := 0) (b := 0) (by decide +kernel)) (by decide +kernel)) (by decide +kernel))).elim
      · refine lv_iload_n X.1 X.2.1 dX10_fullBytes_9 rfl (lv_at hl 2 rfl) ?_
        refine lv_iload_n X.1 X.2.1 dX10_fullBytes_10 rfl (lv_at hl 0 rfl) ?_
        obtain ⟨f7, ef7⟩ : ∃ y : Int32, y = (x0.toUInt32 >>> ((y5 : Int32).toUInt32 &&& Int32.toUInt32 31)).toInt32 := ⟨_, rfl⟩
        refine lv_iushr (v := f7) X.1 X.2.1 dX10_fullBytes_11 ef7.symm ?_
        refine lv_sipush (v := 255) X.1 X.2.1 dX10_fullBytes_12 (by decide +kernel) ?_
        refine lv_iand X.1 X.2.1 dX10_fullBytes_15 ?_
        refine lv_topi (fun f8 ef8 => ?_)
        refine lv_if_eq (tgt := 22) X.1 X.2.1 dX10_fullBytes_16 (by decide) (fun c9 => ?_) (fun c9 => ?_)
        · obtain ⟨y10, ey10⟩ : ∃ y : Int32, y = y5 + Int32.ofInt (-8) := ⟨_, rfl⟩
          refine lv_iinc (v := y10) (lv' := [(2, .int y10), (1, .int 0), (0, .int x0)]) X.1 X.2.1 dX10_fullBytes_22 hl (k := 0) rfl ey10.symm (by decide) rfl (fun ls hl => ?_)
          refine lv_goto (tgt := 5) X.1 X.2.1 dX10_fullBytes_25 (by decide) ?_
          refine lv_iload_n X.1 X.2.1 dX10_fullBytes_5 rfl (lv_at hl 0 rfl) ?_
          refine lv_if_lt (tgt := 28) X.1 X.2.1 dX10_fullBytes_6 (by decide) (fun c11 => ?_) (fun c11 => ?_)
          · exact ((iv_no (iv_lt (b' := (-1)) c11 (iv_add (a' := 8) (b' := 8) ey10 (iv_add (a' := 16) (b' := 16) ey5 (iv_c 24 (a := 24) (b := 24) (by decide +kernel)) (iv_c _ (a := (-8)) (b := (-8)) (by decide +kernel)) (by decide +kernel)) (iv_c _ (a := (-8)) (b := (-8)) (by decide +kernel)) (by decide +kernel)) (iv_c 0 (a := 0) (b := 0) (by decide +kernel)) (by decide +kernel)) (by decide +kernel))).elim
          · refine lv_iload_n X.1 X.2.1 dX10_fullBytes_9 rfl (lv_at hl 2 rfl) ?_
            refine lv_iload_n X.1 X.2.1 dX10_fullBytes_10 rfl (lv_at hl 0 rfl) ?_
            obtain ⟨f12, ef12⟩ : ∃ y : Int32, y = (x0.toUInt32 >>> ((y10 : Int32).toUInt32 &&& Int32.toUInt32 31)).toInt32 := ⟨_, rfl⟩
            refine lv_iushr (v := f12) X.1 X.2.1 dX10_fullBytes_11 ef12.symm ?_
            refine lv_sipush (v := 255) X.1 X.2.1 dX10_fullBytes_12 (by decide +kernel) ?_
            refine lv_iand X.1 X.2.1 dX10_fullBytes_15 ?_
            refine lv_topi (fun f13 ef13 => ?_)
            refine lv_if_eq (tgt := 22) X.1 X.2.1 dX10_fullBytes_16 (by decide) (fun c14 => ?_) (fun c14 => ?_)
            · obtain ⟨y15, ey15⟩ : ∃ y : Int32, y = y10 + Int32.ofInt (-8) := ⟨_, rfl⟩
              refine lv_iinc (v := y15) (lv' := [(2, .int y15), (1, .int 0), (0, .int x0)]) X.1 X.2.1 dX10_fullBytes_22 hl (k := 0) rfl ey15.symm (by decide) rfl (fun ls hl => ?_)
              refine lv_goto (tgt := 5) X.1 X.2.1 dX10_fullBytes_25 (by decide) ?_
              refine lv_iload_n X.1 X.2.1 dX10_fullBytes_5 rfl (lv_at hl 0 rfl) ?_
              refine lv_if_lt (tgt := 28) X.1 X.2.1 dX10_fullBytes_6 (by decide) (fun c16 => ?_) (fun c16 => ?_)
              · exact ((iv_no (iv_lt (b' := (-1)) c16 (iv_add (a' := 0) (b' := 0) ey15 (iv_add (a' := 8) (b' := 8) ey10 (iv_add (a' := 16) (b' := 16) ey5 (iv_c 24 (a := 24) (b := 24) (by decide +kernel)) (iv_c _ (a := (-8)) (b := (-8)) (by decide +kernel)) (by decide +kernel)) (iv_c _ (a := (-8)) (b := (-8)) (by decide +kernel)) (by decide +kernel)) (iv_c _ (a := (-8)) (b := (-8)) (by decide +kernel)) (by decide +kernel)) (iv_c 0 (a := 0) (b := 0) (by decide +kernel)) (by decide +kernel)) (by decide +kernel))).elim
              · refine lv_iload_n X.1 X.2.1 dX10_fullBytes_9 rfl (lv_at hl 2 rfl) ?_
                refine lv_iload_n X.1 X.2.1 dX10_fullBytes_10 rfl (lv_at hl 0 rfl) ?_
                obtain ⟨f17, ef17⟩ : ∃ y : Int32, y = (x0.toUInt32 >>> ((y15 : Int32).toUInt32 &&& Int32.toUInt32 31)).toInt32 := ⟨_, rfl⟩
                refine lv_iushr (v := f17) X.1 X.2.1 dX10_fullBytes_11 ef17.symm ?_
                refine lv_sipush (v := 255) X.1 X.2.1 dX10_fullBytes_12 (by decide +kernel) ?_
                refine lv_iand X.1 X.2.1 dX10_fullBytes_15 ?_
                refine lv_topi (fun f18 ef18 => ?_)
                refine lv_if_eq (tgt := 22) X.1 X.2.1 dX10_fullBytes_16 (by decide) (fun c19 => ?_) (fun c19 => ?_)
                · obtain ⟨y20, ey20⟩ : ∃ y : Int32, y = y15 + Int32.ofInt (-8) := ⟨_, rfl⟩
                  refine lv_iinc (v := y20) (lv' := [(2, .int y20), (1, .int 0), (0, .int x0)]) X.1 X.2.1 dX10_fullBytes_22 hl (k := 0) rfl ey20.symm (by decide) rfl (fun ls hl => ?_)
                  refine lv_goto (tgt := 5) X.1 X.2.1 dX10_fullBytes_25 (by decide) ?_
                  refine lv_iload_n X.1 X.2.1 dX10_fullBytes_5 rfl (lv_at hl 0 rfl) ?_
                  refine lv_if_lt (tgt := 28) X.1 X.2.1 dX10_fullBytes_6 (by decide) (fun c21 => ?_) (fun c21 => ?_)
                  · refine lv_iload_n X.1 X.2.1 dX10_fullBytes_28 rfl (lv_at hl 1 rfl) ?_
                    have nb24 := sg_nbpU ef2 ef3 (sg_kc (24) (iv_c 24 (a := 24) (b := 24) (by decide +kernel)) (by decide +kernel)) (by decide) c4
                    have nb16 := sg_nbpU ef7 ef8 (sg_kc (16) (iv_add (a' := 16) (b' := 16) ey5 (iv_c 24 (a := 24) (b := 24) (by decide +kernel)) (iv_c _ (a := (-8)) (b := (-8)) (by decide +kernel)) (by decide +kernel)) (by decide +kernel)) (by decide) c9
                    have nb8 := sg_nbpU ef12 ef13 (sg_kc (8) (iv_add (a' := 8) (b' := 8) ey10 (iv_add (a' := 16) (b' := 16) ey5 (iv_c 24 (a := 24) (b := 24) (by decide +kernel)) (iv_c _ (a := (-8)) (b := (-8)) (by decide +kernel)) (by decide +kernel)) (iv_c _ (a := (-8)) (b := (-8)) (by decide +kernel)) (by decide +kernel)) (by decide +kernel)) (by decide) c14
                    have nb0 := sg_nbpU ef17 ef18 (sg_kc (0) (iv_add (a' := 0) (b' := 0) ey15 (iv_add (a' := 8) (b' := 8) ey10 (iv_add (a' := 16) (b' := 16) ey5 (iv_c 24 (a := 24) (b := 24) (by decide +kernel)) (iv_c _ (a := (-8)) (b := (-8)) (by decide +kernel)) (by decide +kernel)) (iv_c _ (a := (-8)) (b := (-8)) (by decide +kernel)) (by decide +kernel)) (iv_c _ (a := (-8)) (b := (-8)) (by decide +kernel)) (by decide +kernel)) (by decide +kernel)) (by decide) c19
                    have cq22 : (0 : Int32).toInt = 0 := by decide +kernel
                    exact sg_iretP X hr hlk hS ⟨⟨by omega, by omega⟩, by unfold sg_nb; omega⟩ dX10_fullBytes_29
                  · exact ((iv_no (iv_le (b' := (-8)) (iv_ge_of c21) (iv_c 0 (a := 0) (b := 0) (by decide +kernel)) (iv_add (a' := (-8)) (b' := (-8)) ey20 (iv_add (a' := 0) (b' := 0) ey15 (iv_add (a' := 8) (b' := 8) ey10 (iv_add (a' := 16) (b' := 16) ey5 (iv_c 24 (a := 24) (b := 24) (by decide +kernel)) (iv_c _ (a := (-8)) (b := (-8)) (by decide +kernel)) (by decide +kernel)) (iv_c _ (a := (-8)) (b := (-8)) (by decide +kernel)) (by decide +kernel)) (iv_c _ (a := (-8)) (b := (-8)) (by decide +kernel)) (by decide +kernel)) (iv_c _ (a := (-8)) (b := (-8)) (by decide +kernel)) (by decide +kernel)) (by decide +kernel)) (by decide +kernel))).elim
                · obtain ⟨y23, ey23⟩ : ∃ y : Int32, y = 0 + Int32.ofInt 1 := ⟨_, rfl⟩
                  refine lv_iinc (v := y23) (lv' := [(1, .int y23), (2, .int y15), (0, .int x0)]) X.1 X.2.1 dX10_fullBytes_19 hl (k := 1) rfl ey23.symm (by decide) rfl (fun ls hl => ?_)
                  obtain ⟨y24, ey24⟩ : ∃ y : Int32, y = y15 + Int32.ofInt (-8) := ⟨_, rfl⟩
                  refine lv_iinc (v := y24) (lv' := [(2, .int y24), (1, .int y23), (0, .int x0)]) X.1 X.2.1 dX10_fullBytes_22 hl (k := 1) rfl ey24.symm (by decide) rfl (fun ls hl => ?_)
                  refine lv_goto (tgt := 5) X.1 X.2.1 dX10_fullBytes_25 (by decide) ?_
                  refine lv_iload_n X.1 X.2.1 dX10_fullBytes_5 rfl (lv_at hl 0 rfl) ?_
                  refine lv_if_lt (tgt := 28) X.1 X.2.1 dX10_fullBytes_6 (by decide) (fun c25 => ?_) (fun c25 => ?_)
                  · refine lv_iload_n X.1 X.2.1 dX10_fullBytes_28 rfl (lv_at hl 1 rfl) ?_
                    have nb24 := sg_nbpU ef2 ef3 (sg_kc (24) (iv_c 24 (a := 24) (b := 24) (by decide +kernel)) (by decide +kernel)) (by decide) c4
                    have nb16 := sg_nbpU ef7 ef8 (sg_kc (16) (iv_add (a' := 16) (b' := 16) ey5 (iv_c 24 (a := 24) (b := 24) (by decide +kernel)) (iv_c _ (a := (-8)) (b := (-8)) (by decide +kernel)) (by decide +kernel)) (by decide +kernel)) (by decide) c9
                    have nb8 := sg_nbpU ef12 ef13 (sg_kc (8) (iv_add (a' := 8) (b' := 8) ey10 (iv_add (a' := 16) (b' := 16) ey5 (iv_c 24 (a := 24) (b := 24) (by decide +kernel)) (iv_c _ (a := (-8)) (b := (-8)) (by decide +kernel)) (by decide +kernel)) (iv_c _ (a := (-8)) (b := (-8)) (by decide +kernel)) (by decide +kernel)) (by decide +kernel)) (by decide) c14
                    have nb0 := sg_nbqU ef17 ef18 (sg_kc (0) (iv_add (a' := 0) (b' := 0) ey15 (iv_add (a' := 8) (b' := 8) ey10 (iv_add (a' := 16) (b' := 16) ey5 (iv_c 24 (a := 24) (b := 24) (by decide +kernel)) (iv_c _ (a := (-8)) (b := (-8)) (by decide +kernel)) (by decide +kernel)) (iv_c _ (a := (-8)) (b := (-8)) (by decide +kernel)) (by decide +kernel)) (iv_c _ (a := (-8)) (b := (-8)) (by decide +kernel)) (by decide +kernel)) (by decide +kernel)) (by decide) c19
                    have cq26 : (0 : Int32).toInt = 0 := by decide +kernel
                    have xy23 : y23.toInt = (0 : Int32).toInt + 1 := sg_inc (k := 1) ey23 (iv_c 0 (a := 0) (b := 0) (by decide +kernel)) (by decide +kernel)
                    exact sg_iretP X hr hlk hS ⟨⟨by omega, by omega⟩, by unfold sg_nb; omega⟩ dX10_fullBytes_29
                  · exact ((iv_no (iv_le (b' := (-8)) (iv_ge_of c25) (iv_c 0 (a := 0) (b := 0) (by decide +kernel)) (iv_add (a' := (-8)) (b' := (-8)) ey24 (iv_add (a' := 0) (b' := 0) ey15 (iv_add (a' := 8) (b' := 8) ey10 (iv_add (a' := 16) (b' := 16) ey5 (iv_c 24 (a := 24) (b := 24) (by decide +kernel)) (iv_c _ (a := (-8)) (b := (-8)) (by decide +kernel)) (by decide +kernel)) (iv_c _ (a := (-8)) (b := (-8)) (by decide +kernel)) (by decide +kernel)) (iv_c _ (a := (-8)) (b := (-8)) (by decide +kernel)) (by decide +kernel)) (iv_c _ (a := (-8)) (b := (-8)) (by decide +kernel)) (by decide +kernel)) (by decide +kernel)) (by decide +kernel))).elim
            · obtain ⟨y27, ey27⟩ : ∃ y : Int32, y = 0 + Int32.ofInt 1 := ⟨_, rfl⟩
              refine lv_iinc (v := y27) (lv' := [(1, .int y27), (2, .int y10), (0, .int x0)]) X.1 X.2.1 dX10_fullBytes_19 hl (k := 1) rfl ey27.symm (by decide) rfl (fun ls hl => ?_)
              obtain ⟨y28, ey28⟩ : ∃ y : Int32, y = y10 + Int32.ofInt (-8) := ⟨_, rfl⟩
              refine lv_iinc (v := y28) (lv' := [(2, .int y28), (1, .int y27), (0, .int x0)]) X.1 X.2.1 dX10_fullBytes_22 hl (k := 1) rfl ey28.symm (by decide) rfl (fun ls hl => ?_)
              refine lv_goto (tgt := 5) X.1 X.2.1 dX10_fullBytes_25 (by decide) ?_
              refine lv_iload_n X.1 X.2.1 dX10_fullBytes_5 rfl (lv_at hl 0 rfl) ?_
              refine lv_if_lt (tgt := 28) X.1 X.2.1 dX10_fullBytes_6 (by decide) (fun c29 => ?_) (fun c29 => ?_)
              · exact ((iv_no (iv_lt (b' := (-1)) c29 (iv_add (a' := 0) (b' := 0) ey28 (iv_add (a' := 8) (b' := 8) ey10 (iv_add (a' := 16) (b' := 16) ey5 (iv_c 24 (a := 24) (b := 24) (by decide +kernel)) (iv_c _ (a := (-8)) (b := (-8)) (by decide +kernel)) (by decide +kernel)) (iv_c _ (a := (-8)) (b := (-8)) (by decide +kernel)) (by decide +kernel)) (iv_c _ (a := (-8)) (b := (-8)) (by decide +kernel)) (by decide +kernel)) (iv_c 0 (a := 0) (b := 0) (by decide +kernel)) (by decide +kernel)) (by decide +kernel))).elim
              · refine lv_iload_n X.1 X.2.1 dX10_fullBytes_9 rfl (lv_at hl 2 rfl) ?_
                refine lv_iload_n X.1 X.2.1 dX10_fullBytes_10 rfl (lv_at hl 0 rfl) ?_
                obtain ⟨f30, ef30⟩ : ∃ y : Int32, y = (x0.toUInt32 >>> ((y28 : Int32).toUInt32 &&& Int32.toUInt32 31)).toInt32 := ⟨_, rfl⟩
                refine lv_iushr (v := f30) X.1 X.2.1 dX10_fullBytes_11 ef30.symm ?_
                refine lv_sipush (v := 255) X.1 X.2.1 dX10_fullBytes_12 (by decide +kernel) ?_
                refine lv_iand X.1 X.2.1 dX10_fullBytes_15 ?_
                refine lv_topi (fun f31 ef31 => ?_)
                refine lv_if_eq (tgt := 22) X.1 X.2.1 dX10_fullBytes_16 (by decide) (fun c32 => ?_) (fun c32 => ?_)
                · obtain ⟨y33, ey33⟩ : ∃ y : Int32, y = y28 + Int32.ofInt (-8) := ⟨_, rfl⟩
                  refine lv_iinc (v := y33) (lv' := [(2, .int y33), (1, .int y27), (0, .int x0)]) X.1 X.2.1 dX10_fullBytes_22 hl (k := 0) rfl ey33.symm (by decide) rfl (fun ls hl => ?_)
                  refine lv_goto (tgt := 5) X.1 X.2.1 dX10_fullBytes_25 (by decide) ?_
                  refine lv_iload_n X.1 X.2.1 dX10_fullBytes_5 rfl (lv_at hl 0 rfl) ?_
                  refine lv_if_lt (tgt := 28) X.1 X.2.1 dX10_fullBytes_6 (by decide) (fun c34 => ?_) (fun c34 => ?_)
                  · refine lv_iload_n X.1 X.2.1 dX10_fullBytes_28 rfl (lv_at hl 1 rfl) ?_
                    have nb24 := sg_nbpU ef2 ef3 (sg_kc (24) (iv_c 24 (a := 24) (b := 24) (by decide +kernel)) (by decide +kernel)) (by decide) c4
                    have nb16 := sg_nbpU ef7 ef8 (sg_kc (16) (iv_add (a' := 16) (b' := 16) ey5 (iv_c 24 (a := 24) (b := 24) (by decide +kernel)) (iv_c _ (a := (-8)) (b := (-8)) (by decide +kernel)) (by decide +kernel)) (by decide +kernel)) (by decide) c9
                    have nb8 := sg_nbqU ef12 ef13 (sg_kc (8) (iv_add (a' := 8) (b' := 8) ey10 (iv_add (a' := 16) (b' := 16) ey5 (iv_c 24 (a := 24) (b := 24) (by decide +kernel)) (iv_c _ (a := (-8)) (b := (-8)) (by decide +kernel)) (by decide +kernel)) (iv_c _ (a := (-8)) (b := (-8)) (by decide +kernel)) (by decide +kernel)) (by decide +kernel)) (by decide) c14
                    have nb0 := sg_nbpU ef30 ef31 (sg_kc (0) (iv_add (a' := 0) (b' := 0) ey28 (iv_add (a' := 8) (b' := 8) ey10 (iv_add (a' := 16) (b' := 16) ey5 (iv_c 24 (a := 24) (b := 24) (by decide +kernel)) (iv_c _ (a := (-8)) (b := (-8)) (by decide +kernel)) (by decide +kernel)) (iv_c _ (a := (-8)) (b := (-8)) (by decide +kernel)) (by decide +kernel)) (iv_c _ (a := (-8)) (b := (-8)) (by decide +kernel)) (by decide +kernel)) (by decide +kernel)) (by decide) c32
                    have cq35 : (0 : Int32).toInt = 0 := by decide +kernel
                    have xy27 : y27.toInt = (0 : Int32).toInt + 1 := sg_inc (k := 1) ey27 (iv_c 0 (a := 0) (b := 0) (by decide +kernel)) (by decide +kernel)
                    exact sg_iretP X hr hlk hS ⟨⟨by omega, by omega⟩, by unfold sg_nb; omega⟩ dX10_fullBytes_29
                  · exact ((iv_no (iv_le (b' := (-8)) (iv_ge_of c34) (iv_c 0 (a := 0) (b := 0) (by decide +kernel)) (iv_add (a' := (-8)) (b' := (-8)) ey33 (iv_add (a' := 0) (b' := 0) ey28 (iv_add (a' := 8) (b' := 8) ey10 (iv_add (a' := 16) (b' := 16) ey5 (iv_c 24 (a := 24) (b := 24) (by decide +kernel)) (iv_c _ (a := (-8)) (b := (-8)) (by decide +kernel)) (by decide +kernel)) (iv_c _ (a := (-8)) (b := (-8)) (by decide +kernel)) (by decide +kernel)) (iv_c _ (a := (-8)) (b := (-8)) (by decide +kernel)) (by decide +kernel)) (iv_c _ (a := (-8)) (b := (-8)) (by decide +kernel)) (by decide +kernel)) (by decide +kernel)) (by decide +kernel))).elim
                · obtain ⟨y36, ey36⟩ : ∃ y : Int32, y = y27 + Int32.ofInt 1 := ⟨_, rfl⟩
                  refine lv_iinc (v := y36) (lv' := [(1, .int y36), (2, .int y28), (0, .int x0)]) X.1 X.2.1 dX10_fullBytes_19 hl (k := 1) rfl ey36.symm (by decide) rfl (fun ls hl => ?_)
                  obtain ⟨y37, ey37⟩ : ∃ y : Int32, y = y28 + Int32.ofInt (-8) := ⟨_, rfl⟩
                  refine lv_iinc (v := y37) (lv' := [(2, .int y37), (1, .int y36), (0, .int x0)]) X.1 X.2.1 dX10_fullBytes_22 hl (k := 1) rfl ey37.symm (by decide) rfl (fun ls hl => ?_)
                  refine lv_goto (tgt := 5) X.1 X.2.1 dX10_fullBytes_25 (by decide) ?_
                  refine lv_iload_n X.1 X.2.1 dX10_fullBytes_5 rfl (lv_at hl 0 rfl) ?_
                  refine lv_if_lt (tgt := 28) X.1 X.2.1 dX10_fullBytes_6 (by decide) (fun c38 => ?_) (fun c38 => ?_)
                  · refine lv_iload_n X.1 X.2.1 dX10_fullBytes_28 rfl (lv_at hl 1 rfl) ?_
                    have nb24 := sg_nbpU ef2 ef3 (sg_kc (24) (iv_c 24 (a := 24) (b := 24) (by decide +kernel)) (by decide +kernel)) (by decide) c4
                    have nb16 := sg_nbpU ef7 ef8 (sg_kc (16) (iv_add (a' := 16) (b' := 16) ey5 (iv_c 24 (a := 24) (b := 24) (by decide +kernel)) (iv_c _ (a := (-8)) (b := (-8)) (by decide +kernel)) (by decide +kernel)) (by decide +kernel)) (by decide) c9
                    have nb8 := sg_nbqU ef12 ef13 (sg_kc (8) (iv_add (a' := 8) (b' := 8) ey10 (iv_add (a' := 16) (b' := 16) ey5 (iv_c 24 (a := 24) (b := 24) (by decide +kernel)) (iv_c _ (a := (-8)) (b := (-8)) (by decide +kernel)) (by decide +kernel)) (iv_c _ (a := (-8)) (b := (-8)) (by decide +kernel)) (by decide +kernel)) (by decide +kernel)) (by decide) c14
                    have nb0 := sg_nbqU ef30 ef31 (sg_kc (0) (iv_add (a' := 0) (b' := 0) ey28 (iv_add (a' := 8) (b' := 8) ey10 (iv_add (a' := 16) (b' := 16) ey5 (iv_c 24 (a := 24) (b := 24) (by decide +kernel)) (iv_c _ (a := (-8)) (b := (-8)) (by decide +kernel)) (by decide +kernel)) (iv_c _ (a := (-8)) (b := (-8)) (by decide +kernel)) (by decide +kernel)) (iv_c _ (a := (-8)) (b := (-8)) (by decide +kernel)) (by decide +kernel)) (by decide +kernel)) (by decide) c32
                    have cq39 : (0 : Int32).toInt = 0 := by decide +kernel
                    have xy27 : y27.toInt = (0 : Int32).toInt + 1 := sg_inc (k := 1) ey27 (iv_c 0 (a := 0) (b := 0) (by decide +kernel)) (by decide +kernel)
                    have xy36 : y36.toInt = y27.toInt + 1 := sg_inc (k := 1) ey36 (iv_add (a' := 1) (b' := 1) ey27 (iv_c 0 (a := 0) (b := 0) (by decide +kernel)) (iv_c _ (a := 1) (b := 1) (by decide +kernel)) (by decide +kernel)) (by decide +kernel)
                    exact sg_iretP X hr hlk hS ⟨⟨by omega, by omega⟩, by unfold sg_nb; omega⟩ dX10_fullBytes_29
                  · exact ((iv_no (iv_le (b' := (-8)) (iv_ge_of c38) (iv_c 0 (a := 0) (b := 0) (by decide +kernel)) (iv_add (a' := (-8)) (b' := (-8)) ey37 (iv_add (a' := 0) (b' := 0) ey28 (iv_add (a' := 8) (b' := 8) ey10 (iv_add (a' := 16) (b' := 16) ey5 (iv_c 24 (a := 24) (b := 24) (by decide +kernel)) (iv_c _ (a := (-8)) (b := (-8)) (by decide +kernel)) (by decide +kernel)) (iv_c _ (a := (-8)) (b := (-8)) (by decide +kernel)) (by decide +kernel)) (iv_c _ (a := (-8)) (b := (-8)) (by decide +kernel)) (by decide +kernel)) (iv_c _ (a := (-8)) (b := (-8)) (by decide +kernel)) (by decide +kernel)) (by decide +kernel)) (by decide +kernel))).elim
        · obtain ⟨y40, ey40⟩ : ∃ y : Int32, y = 0 + Int32.ofInt 1 := ⟨_, rfl⟩
          refine lv_iinc (v := y40) (lv' := [(1, .int y40), (2, .int y5), (0, .int x0)]) X.1 X.2.1 dX10_fullBytes_19 hl (k := 1) rfl ey40.symm (by decide) rfl (fun ls hl => ?_)
          obtain ⟨y41, ey41⟩ : ∃ y : Int32, y = y5 + Int32.ofInt (-8) := ⟨_, rfl⟩
          refine lv_iinc (v := y41) (lv' := [(2, .int y41), (1, .int y40), (0, .int x0)]) X.1 X.2.1 dX10_fullBytes_22 hl (k := 1) rfl ey41.symm (by decide) rfl (fun ls hl => ?_)
          refine lv_goto (tgt := 5) X.1 X.2.1 dX10_fullBytes_25 (by decide) ?_
          refine lv_iload_n X.1 X.2.1 dX10_fullBytes_5 rfl (lv_at hl 0 rfl) ?_
          refine lv_if_lt (tgt := 28) X.1 X.2.1 dX10_fullBytes_6 (by decide) (fun c42 => ?_) (fun c42 => ?_)
          · exact ((iv_no (iv_lt (b' := (-1)) c42 (iv_add (a' := 8) (b' := 8) ey41 (iv_add (a' := 16) (b' := 16) ey5 (iv_c 24 (a := 24) (b := 24) (by decide +kernel)) (iv_c _ (a := (-8)) (b := (-8)) (by decide +kernel)) (by decide +kernel)) (iv_c _ (a := (-8)) (b := (-8)) (by decide +kernel)) (by decide +kernel)) (iv_c 0 (a := 0) (b := 0) (by decide +kernel)) (by decide +kernel)) (by decide +kernel))).elim
          · refine lv_iload_n X.1 X.2.1 dX10_fullBytes_9 rfl (lv_at hl 2 rfl) ?_
            refine lv_iload_n X.1 X.2.1 dX10_fullBytes_10 rfl (lv_at hl 0 rfl) ?_
            obtain ⟨f43, ef43⟩ : ∃ y : Int32, y = (x0.toUInt32 >>> ((y41 : Int32).toUInt32 &&& Int32.toUInt32 31)).toInt32 := ⟨_, rfl⟩
            refine lv_iushr (v := f43) X.1 X.2.1 dX10_fullBytes_11 ef43.symm ?_
            refine lv_sipush (v := 255) X.1 X.2.1 dX10_fullBytes_12 (by decide +kernel) ?_
            refine lv_iand X.1 X.2.1 dX10_fullBytes_15 ?_
            refine lv_topi (fun f44 ef44 => ?_)
            refine lv_if_eq (tgt := 22) X.1 X.2.1 dX10_fullBytes_16 (by decide) (fun c45 => ?_) (fun c45 => ?_)
            · obtain ⟨y46, ey46⟩ : ∃ y : Int32, y = y41 + Int32.ofInt (-8) := ⟨_, rfl⟩
              refine lv_iinc (v := y46) (lv' := [(2, .int y46), (1, .int y40), (0, .int x0)]) X.1 X.2.1 dX10_fullBytes_22 hl (k := 0) rfl ey46.symm (by decide) rfl (fun ls hl => ?_)
              refine lv_goto (tgt := 5) X.1 X.2.1 dX10_fullBytes_25 (by decide) ?_
              refine lv_iload_n X.1 X.2.1 dX10_fullBytes_5 rfl (lv_at hl 0 rfl) ?_
              refine lv_if_lt (tgt := 28) X.1 X.2.1 dX10_fullBytes_6 (by decide) (fun c47 => ?_) (fun c47 => ?_)
              · exact ((iv_no (iv_lt (b' := (-1)) c47 (iv_add (a' := 0) (b' := 0) ey46 (iv_add (a' := 8) (b' := 8) ey41 (iv_add (a' := 16) (b' := 16) ey5 (iv_c 24 (a := 24) (b := 24) (by decide +kernel)) (iv_c _ (a := (-8)) (b := (-8)) (by decide +kernel)) (by decide +kernel)) (iv_c _ (a := (-8)) (b := (-8)) (by decide +kernel)) (by decide +kernel)) (iv_c _ (a := (-8)) (b := (-8)) (by decide +kernel)) (by decide +kernel)) (iv_c 0 (a := 0) (b := 0) (by decide +kernel)) (by decide +kernel)) (by decide +kernel))).elim
              · refine lv_iload_n X.1 X.2.1 dX10_fullBytes_9 rfl (lv_at hl 2 rfl) ?_
                refine lv_iload_n X.1 X.2.1 dX10_fullBytes_10 rfl (lv_at hl 0 rfl) ?_
                obtain ⟨f48, ef48⟩ : ∃ y : Int32, y = (x0.toUInt32 >>> ((y46 : Int32).toUInt32 &&& Int32.toUInt32 31)).toInt32 := ⟨_, rfl⟩
                refine lv_iushr (v := f48) X.1 X.2.1 dX10_fullBytes_11 ef48.symm ?_
                refine lv_sipush (v := 255) X.1 X.2.1 dX10_fullBytes_12 (by decide +kernel) ?_
                refine lv_iand X.1 X.2.1 dX10_fullBytes_15 ?_
                refine lv_topi (fun f49 ef49 => ?_)
                refine lv_if_eq (tgt := 22) X.1 X.2.1 dX10_fullBytes_16 (by decide) (fun c50 => ?_) (fun c50 => ?_)
                · obtain ⟨y51, ey51⟩ : ∃ y : Int32, y = y46 + Int32.ofInt (-8) := ⟨_, rfl⟩
                  refine lv_iinc (v := y51) (lv' := [(2, .int y51), (1, .int y40), (0, .int x0)]) X.1 X.2.1 dX10_fullBytes_22 hl (k := 0) rfl ey51.symm (by decide) rfl (fun ls hl => ?_)
                  refine lv_goto (tgt := 5) X.1 X.2.1 dX10_fullBytes_25 (by decide) ?_
                  refine lv_iload_n X.1 X.2.1 dX10_fullBytes_5 rfl (lv_at hl 0 rfl) ?_
                  refine lv_if_lt (tgt := 28) X.1 X.2.1 dX10_fullBytes_6 (by decide) (fun c52 => ?_) (fun c52 => ?_)
                  · refine lv_iload_n X.1 X.2.1 dX10_fullBytes_28 rfl (lv_at hl 1 rfl) ?_
                    have nb24 := sg_nbpU ef2 ef3 (sg_kc (24) (iv_c 24 (a := 24) (b := 24) (by decide +kernel)) (by decide +kernel)) (by decide) c4
                    have nb16 := sg_nbqU ef7 ef8 (sg_kc (16) (iv_add (a' := 16) (b' := 16) ey5 (iv_c 24 (a := 24) (b := 24) (by decide +kernel)) (iv_c _ (a := (-8)) (b := (-8)) (by decide +kernel)) (by decide +kernel)) (by decide +kernel)) (by decide) c9
                    have nb8 := sg_nbpU ef43 ef44 (sg_kc (8) (iv_add (a' := 8) (b' := 8) ey41 (iv_add (a' := 16) (b' := 16) ey5 (iv_c 24 (a := 24) (b := 24) (by decide +kernel)) (iv_c _ (a := (-8)) (b := (-8)) (by decide +kernel)) (by decide +kernel)) (iv_c _ (a := (-8)) (b := (-8)) (by decide +kernel)) (by decide +kernel)) (by decide +kernel)) (by decide) c45
                    have nb0 := sg_nbpU ef48 ef49 (sg_kc (0) (iv_add (a' := 0) (b' := 0) ey46 (iv_add (a' := 8) (b' := 8) ey41 (iv_add (a' := 16) (b' := 16) ey5 (iv_c 24 (a := 24) (b := 24) (by decide +kernel)) (iv_c _ (a := (-8)) (b := (-8)) (by decide +kernel)) (by decide +kernel)) (iv_c _ (a := (-8)) (b := (-8)) (by decide +kernel)) (by decide +kernel)) (iv_c _ (a := (-8)) (b := (-8)) (by decide +kernel)) (by decide +kernel)) (by decide +kernel)) (by decide) c50
                    have cq53 : (0 : Int32).toInt = 0 := by decide +kernel
                    have xy40 : y40.toInt = (0 : Int32).toInt + 1 := sg_inc (k := 1) ey40 (iv_c 0 (a := 0) (b := 0) (by decide +kernel)) (by decide +kernel)
                    exact sg_iretP X hr hlk hS ⟨⟨by omega, by omega⟩, by unfold sg_nb; omega⟩ dX10_fullBytes_29
                  · exact ((iv_no (iv_le (b' := (-8)) (iv_ge_of c52) (iv_c 0 (a := 0) (b := 0) (by decide +kernel)) (iv_add (a' := (-8)) (b' := (-8)) ey51 (iv_add (a' := 0) (b' := 0) ey46 (iv_add (a' := 8) (b' := 8) ey41 (iv_add (a' := 16) (b' := 16) ey5 (iv_c 24 (a := 24) (b := 24) (by decide +kernel)) (iv_c _ (a := (-8)) (b := (-8)) (by decide +kernel)) (by decide +kernel)) (iv_c _ (a := (-8)) (b := (-8)) (by decide +kernel)) (by decide +kernel)) (iv_c _ (a := (-8)) (b := (-8)) (by decide +kernel)) (by decide +kernel)) (iv_c _ (a := (-8)) (b := (-8)) (by decide +kernel)) (by decide +kernel)) (by decide +kernel)) (by decide +kernel))).elim
                · obtain ⟨y54, ey54⟩ : ∃ y : Int32, y = y40 + Int32.ofInt 1 := ⟨_, rfl⟩
                  refine lv_iinc (v := y54) (lv' := [(1, .int y54), (2, .int y46), (0, .int x0)]) X.1 X.2.1 dX10_fullBytes_19 hl (k := 1) rfl ey54.symm (by decide) rfl (fun ls hl => ?_)
                  obtain ⟨y55, ey55⟩ : ∃ y : Int32, y = y46 + Int32.ofInt (-8) := ⟨_, rfl⟩
                  refine lv_iinc (v := y55) (lv' := [(2, .int y55), (1, .int y54), (0, .int x0)]) X.1 X.2.1 dX10_fullBytes_22 hl (k := 1) rfl ey55.symm (by decide) rfl (fun ls hl => ?_)
                  refine lv_goto (tgt := 5) X.1 X.2.1 dX10_fullBytes_25 (by decide) ?_
                  refine lv_iload_n X.1 X.2.1 dX10_fullBytes_5 rfl (lv_at hl 0 rfl) ?_
                  refine lv_if_lt (tgt := 28) X.1 X.2.1 dX10_fullBytes_6 (by decide) (fun c56 => ?_) (fun c56 => ?_)
                  · refine lv_iload_n X.1 X.2.1 dX10_fullBytes_28 rfl (lv_at hl 1 rfl) ?_
                    have nb24 := sg_nbpU ef2 ef3 (sg_kc (24) (iv_c 24 (a := 24) (b := 24) (by decide +kernel)) (by decide +kernel)) (by decide) c4
                    have nb16 := sg_nbqU ef7 ef8 (sg_kc (16) (iv_add (a' := 16) (b' := 16) ey5 (iv_c 24 (a := 24) (b := 24) (by decide +kernel)) (iv_c _ (a := (-8)) (b := (-8)) (by decide +kernel)) (by decide +kernel)) (by decide +kernel)) (by decide) c9
                    have nb8 := sg_nbpU ef43 ef44 (sg_kc (8) (iv_add (a' := 8) (b' := 8) ey41 (iv_add (a' := 16) (b' := 16) ey5 (iv_c 24 (a := 24) (b := 24) (by decide +kernel)) (iv_c _ (a := (-8)) (b := (-8)) (by decide +kernel)) (by decide +kernel)) (iv_c _ (a := (-8)) (b := (-8)) (by decide +kernel)) (by decide +kernel)) (by decide +kernel)) (by decide) c45
                    have nb0 := sg_nbqU ef48 ef49 (sg_kc (0) (iv_add (a' := 0) (b' := 0) ey46 (iv_add (a' := 8) (b' := 8) ey41 (iv_add (a' := 16) (b' := 16) ey5 (iv_c 24 (a := 24) (b := 24) (by decide +kernel)) (iv_c _ (a := (-8)) (b := (-8)) (by decide +kernel)) (by decide +kernel)) (iv_c _ (a := (-8)) (b := (-8)) (by decide +kernel)) (by decide +kernel)) (iv_c _ (a := (-8)) (b := (-8)) (by decide +kernel)) (by decide +kernel)) (by decide +kernel)) (by decide) c50
                    have cq57 : (0 : Int32).toInt = 0 := by decide +kernel
                    have xy40 : y40.toInt = (0 : Int32).toInt + 1 := sg_inc (k := 1) ey40 (iv_c 0 (a := 0) (b := 0) (by decide +kernel)) (by decide +kernel)
                    have xy54 : y54.toInt = y40.toInt + 1 := sg_inc (k := 1) ey54 (iv_add (a' := 1) (b' := 1) ey40 (iv_c 0 (a := 0) (b := 0) (by decide +kernel)) (iv_c _ (a := 1) (b := 1) (by decide +kernel)) (by decide +kernel)) (by decide +kernel)
                    exact sg_iretP X hr hlk hS ⟨⟨by omega, by omega⟩, by unfold sg_nb; omega⟩ dX10_fullBytes_29
                  · exact ((iv_no (iv_le (b' := (-8)) (iv_ge_of c56) (iv_c 0 (a := 0) (b := 0) (by decide +kernel)) (iv_add (a' := (-8)) (b' := (-8)) ey55 (iv_add (a' := 0) (b' := 0) ey46 (iv_add (a' := 8) (b' := 8) ey41 (iv_add (a' := 16) (b' := 16) ey5 (iv_c 24 (a := 24) (b := 24) (by decide +kernel)) (iv_c _ (a := (-8)) (b := (-8)) (by decide +kernel)) (by decide +kernel)) (iv_c _ (a := (-8)) (b := (-8)) (by decide +kernel)) (by decide +kernel)) (iv_c _ (a := (-8)) (b := (-8)) (by decide +kernel)) (by decide +kernel)) (iv_c _ (a := (-8)) (b := (-8)) (by decide +kernel)) (by decide +kernel)) (by decide +kernel)) (by decide +kernel))).elim
            · obtain ⟨y58, ey58⟩ : ∃ y : Int32, y = y40 + Int32.ofInt 1 := ⟨_, rfl⟩
              refine lv_iinc (v := y58) (lv' := [(1, .int y58), (2, .int y41), (0, .int x0)]) X.1 X.2.1 dX10_fullBytes_19 hl (k := 1) rfl ey58.symm (by decide) rfl (fun ls hl => ?_)
              obtain ⟨y59, ey59⟩ : ∃ y : Int32, y = y41 + Int32.ofInt (-8) := ⟨_, rfl⟩
              refine lv_iinc (v := y59) (lv' := [(2, .int y59), (1, .int y58), (0, .int x0)]) X.1 X.2.1 dX10_fullBytes_22 hl (k := 1) rfl ey59.symm (by decide) rfl (fun ls hl => ?_)
              refine lv_goto (tgt := 5) X.1 X.2.1 dX10_fullBytes_25 (by decide) ?_
              refine lv_iload_n X.1 X.2.1 dX10_fullBytes_5 rfl (lv_at hl 0 rfl) ?_
              refine lv_if_lt (tgt := 28) X.1 X.2.1 dX10_fullBytes_6 (by decide) (fun c60 => ?_) (fun c60 => ?_)
              · exact ((iv_no (iv_lt (b' := (-1)) c60 (iv_add (a' := 0) (b' := 0) ey59 (iv_add (a' := 8) (b' := 8) ey41 (iv_add (a' := 16) (b' := 16) ey5 (iv_c 24 (a := 24) (b := 24) (by decide +kernel)) (iv_c _ (a := (-8)) (b := (-8)) (by decide +kernel)) (by decide +kernel)) (iv_c _ (a := (-8)) (b := (-8)) (by decide +kernel)) (by decide +kernel)) (iv_c _ (a := (-8)) (b := (-8)) (by decide +kernel)) (by decide +kernel)) (iv_c 0 (a := 0) (b := 0) (by decide +kernel)) (by decide +kernel)) (by decide +kernel))).elim
              · refine lv_iload_n X.1 X.2.1 dX10_fullBytes_9 rfl (lv_at hl 2 rfl) ?_
                refine lv_iload_n X.1 X.2.1 dX10_fullBytes_10 rfl (lv_at hl 0 rfl) ?_
                obtain ⟨f61, ef61⟩ : ∃ y : Int32, y = (x0.toUInt32 >>> ((y59 : Int32).toUInt32 &&& Int32.toUInt32 31)).toInt32 := ⟨_, rfl⟩
                refine lv_iushr (v := f61) X.1 X.2.1 dX10_fullBytes_11 ef61.symm ?_
                refine lv_sipush (v := 255) X.1 X.2.1 dX10_fullBytes_12 (by decide +kernel) ?_
                refine lv_iand X.1 X.2.1 dX10_fullBytes_15 ?_
                refine lv_topi (fun f62 ef62 => ?_)
                refine lv_if_eq (tgt := 22) X.1 X.2.1 dX10_fullBytes_16 (by decide) (fun c63 => ?_) (fun c63 => ?_)
                · obtain ⟨y64, ey64⟩ : ∃ y : Int32, y = y59 + Int32.ofInt (-8) := ⟨_, rfl⟩
                  refine lv_iinc (v := y64) (lv' := [(2, .int y64), (1, .int y58), (0, .int x0)]) X.1 X.2.1 dX10_fullBytes_22 hl (k := 0) rfl ey64.symm (by decide) rfl (fun ls hl => ?_)
                  refine lv_goto (tgt := 5) X.1 X.2.1 dX10_fullBytes_25 (by decide) ?_
                  refine lv_iload_n X.1 X.2.1 dX10_fullBytes_5 rfl (lv_at hl 0 rfl) ?_
                  refine lv_if_lt (tgt := 28) X.1 X.2.1 dX10_fullBytes_6 (by decide) (fun c65 => ?_) (fun c65 => ?_)
                  · refine lv_iload_n X.1 X.2.1 dX10_fullBytes_28 rfl (lv_at hl 1 rfl) ?_
                    have nb24 := sg_nbpU ef2 ef3 (sg_kc (24) (iv_c 24 (a := 24) (b := 24) (by decide +kernel)) (by decide +kernel)) (by decide) c4
                    have nb16 := sg_nbqU ef7 ef8 (sg_kc (16) (iv_add (a' := 16) (b' := 16) ey5 (iv_c 24 (a := 24) (b := 24) (by decide +kernel)) (iv_c _ (a := (-8)) (b := (-8)) (by decide +kernel)) (by decide +kernel)) (by decide +kernel)) (by decide) c9
                    have nb8 := sg_nbqU ef43 ef44 (sg_kc (8) (iv_add (a' := 8) (b' := 8) ey41 (iv_add (a' := 16) (b' := 16) ey5 (iv_c 24 (a := 24) (b := 24) (by decide +kernel)) (iv_c _ (a := (-8)) (b := (-8)) (by decide +kernel)) (by decide +kernel)) (iv_c _ (a := (-8)) (b := (-8)) (by decide +kernel)) (by decide +kernel)) (by decide +kernel)) (by decide) c45
                    have nb0 := sg_nbpU ef61 ef62 (sg_kc (0) (iv_add (a' := 0) (b' := 0) ey59 (iv_add (a' := 8) (b' := 8) ey41 (iv_add (a' := 16) (b' := 16) ey5 (iv_c 24 (a := 24) (b := 24) (by decide +kernel)) (iv_c _ (a := (-8)) (b := (-8)) (by decide +kernel)) (by decide +kernel)) (iv_c _ (a := (-8)) (b := (-8)) (by decide +kernel)) (by decide +kernel)) (iv_c _ (a := (-8)) (b := (-8)) (by decide +kernel)) (by decide +kernel)) (by decide +kernel)) (by decide) c63
                    have cq66 : (0 : Int32).toInt = 0 := by decide +kernel
                    have xy40 : y40.toInt = (0 : Int32).toInt + 1 := sg_inc (k := 1) ey40 (iv_c 0 (a := 0) (b := 0) (by decide +kernel)) (by decide +kernel)
                    have xy58 : y58.toInt = y40.toInt + 1 := sg_inc (k := 1) ey58 (iv_add (a' := 1) (b' := 1) ey40 (iv_c 0 (a := 0) (b := 0) (by decide +kernel)) (iv_c _ (a := 1) (b := 1) (by decide +kernel)) (by decide +kernel)) (by decide +kernel)
                    exact sg_iretP X hr hlk hS ⟨⟨by omega, by omega⟩, by unfold sg_nb; omega⟩ dX10_fullBytes_29
                  · exact ((iv_no (iv_le (b' := (-8)) (iv_ge_of c65) (iv_c 0 (a := 0) (b := 0) (by decide +kernel)) (iv_add (a' := (-8)) (b' := (-8)) ey64 (iv_add (a' := 0) (b' := 0) ey59 (iv_add (a' := 8) (b' := 8) ey41 (iv_add (a' := 16) (b' := 16) ey5 (iv_c 24 (a := 24) (b := 24) (by decide +kernel)) (iv_c _ (a := (-8)) (b := (-8)) (by decide +kernel)) (by decide +kernel)) (iv_c _ (a := (-8)) (b := (-8)) (by decide +kernel)) (by decide +kernel)) (iv_c _ (a := (-8)) (b := (-8)) (by decide +kernel)) (by decide +kernel)) (iv_c _ (a := (-8)) (b := (-8)) (by decide +kernel)) (by decide +kernel)) (by decide +kernel)) (by decide +kernel))).elim
                · obtain ⟨y67, ey67⟩ : ∃ y : Int32, y = y58 + Int32.ofInt 1 := ⟨_, rfl⟩
                  refine lv_iinc (v := y67) (lv' := [(1, .int y67), (2, .int y59), (0, .int x0)]) X.1 X.2.1 dX10_fullBytes_19 hl (k := 1) rfl ey67.symm (by decide) rfl (fun ls hl => ?_)
                  obtain ⟨y68, ey68⟩ : ∃ y : Int32, y = y59 + Int32.ofInt (-8) := ⟨_, rfl⟩
                  refine lv_iinc (v := y68) (lv' := [(2, .int y68), (1, .int y67), (0, .int x0)]) X.1 X.2.1 dX10_fullBytes_22 hl (k := 1) rfl ey68.symm (by decide) rfl (fun ls hl => ?_)
                  refine lv_goto (tgt := 5) X.1 X.2.1 dX10_fullBytes_25 (by decide) ?_
                  refine lv_iload_n X.1 X.2.1 dX10_fullBytes_5 rfl (lv_at hl 0 rfl) ?_
                  refine lv_if_lt (tgt := 28) X.1 X.2.1 dX10_fullBytes_6 (by decide) (fun c69 => ?_) (fun c69 => ?_)
                  · refine lv_iload_n X.1 X.2.1 dX10_fullBytes_28 rfl (lv_at hl 1 rfl) ?_
                    have nb24 := sg_nbpU ef2 ef3 (sg_kc (24) (iv_c 24 (a := 24) (b := 24) (by decide +kernel)) (by decide +kernel)) (by decide) c4
                    have nb16 := sg_nbqU ef7 ef8 (sg_kc (16) (iv_add (a' := 16) (b' := 16) ey5 (iv_c 24 (a := 24) (b := 24) (by decide +kernel)) (iv_c _ (a := (-8)) (b := (-8)) (by decide +kernel)) (by decide +kernel)) (by decide +kernel)) (by decide) c9
                    have nb8 := sg_nbqU ef43 ef44 (sg_kc (8) (iv_add (a' := 8) (b' := 8) ey41 (iv_add (a' := 16) (b' := 16) ey5 (iv_c 24 (a := 24) (b := 24) (by decide +kernel)) (iv_c _ (a := (-8)) (b := (-8)) (by decide +kernel)) (by decide +kernel)) (iv_c _ (a := (-8)) (b := (-8)) (by decide +kernel)) (by decide +kernel)) (by decide +kernel)) (by decide) c45
                    have nb0 := sg_nbqU ef61 ef62 (sg_kc (0) (iv_add (a' := 0) (b' := 0) ey59 (iv_add (a' := 8) (b' := 8) ey41 (iv_add (a' := 16) (b' := 16) ey5 (iv_c 24 (a := 24) (b := 24) (by decide +kernel)) (iv_c _ (a := (-8)) (b := (-8)) (by decide +kernel)) (by decide +kernel)) (iv_c _ (a := (-8)) (b := (-8)) (by decide +kernel)) (by decide +kernel)) (iv_c _ (a := (-8)) (b := (-8)) (by decide +kernel)) (by decide +kernel)) (by decide +kernel)) (by decide) c63
                    have cq70 : (0 : Int32).toInt = 0 := by decide +kernel
                    have xy40 : y40.toInt = (0 : Int32).toInt + 1 := sg_inc (k := 1) ey40 (iv_c 0 (a := 0) (b := 0) (by decide +kernel)) (by decide +kernel)
                    have xy58 : y58.toInt = y40.toInt + 1 := sg_inc (k := 1) ey58 (iv_add (a' := 1) (b' := 1) ey40 (iv_c 0 (a := 0) (b := 0) (by decide +kernel)) (iv_c _ (a := 1) (b := 1) (by decide +kernel)) (by decide +kernel)) (by decide +kernel)
                    have xy67 : y67.toInt = y58.toInt + 1 := sg_inc (k := 1) ey67 (iv_add (a' := 2) (b' := 2) ey58 (iv_add (a' := 1) (b' := 1) ey40 (iv_c 0 (a := 0) (b := 0) (by decide +kernel)) (iv_c _ (a := 1) (b := 1) (by decide +kernel)) (by decide +kernel)) (iv_c _ (a := 1) (b := 1) (by decide +kernel)) (by decide +kernel)) (by decide +kernel)
                    exact sg_iretP X hr hlk hS ⟨⟨by omega, by omega⟩, by unfold sg_nb; omega⟩ dX10_fullBytes_29
                  · exact ((iv_no (iv_le (b' := (-8)) (iv_ge_of c69) (iv_c 0 (a := 0) (b := 0) (by decide +kernel)) (iv_add (a' := (-8)) (b' := (-8)) ey68 (iv_add (a' := 0) (b' := 0) ey59 (iv_add (a' := 8) (b' := 8) ey41 (iv_add (a' := 16) (b' := 16) ey5 (iv_c 24 (a := 24) (b := 24) (by decide +kernel)) (iv_c _ (a := (-8)) (b := (-8)) (by decide +kernel)) (by decide +kernel)) (iv_c _ (a := (-8)) (b := (-8)) (by decide +kernel)) (by decide +kernel)) (iv_c _ (a := (-8)) (b := (-8)) (by decide +kernel)) (by decide +kernel)) (iv_c _ (a := (-8)) (b := (-8)) (by decide +kernel)) (by decide +kernel)) (by decide +kernel)) (by decide +kernel))).elim
    · obtain ⟨y71, ey71⟩ : ∃ y : Int32, y = 0 + Int32.ofInt 1 := ⟨_, rfl⟩
      refine lv_iinc (v := y71) (lv' := [(1, .int y71), (2, .int 24), (0, .int x0)]) X.1 X.2.1 dX10_fullBytes_19 hl (k := 1) rfl ey71.symm (by decide) rfl (fun ls hl => ?_)
      obtain ⟨y72, ey72⟩ : ∃ y : Int32, y = 24 + Int32.ofInt (-8) := ⟨_, rfl⟩
      refine lv_iinc (v := y72) (lv' := [(2, .int y72), (1, .int y71), (0, .int x0)]) X.1 X.2.1 dX10_fullBytes_22 hl (k := 1) rfl ey72.symm (by decide) rfl (fun ls hl => ?_)
      refine lv_goto (tgt := 5) X.1 X.2.1 dX10_fullBytes_25 (by decide) ?_
      refine lv_iload_n X.1 X.2.1 dX10_fullBytes_5 rfl (lv_at hl 0 rfl) ?_
      refine lv_if_lt (tgt := 28) X.1 X.2.1 dX10_fullBytes_6 (by decide) (fun c73 => ?_) (fun c73 => ?_)
      · exact ((iv_no (iv_lt (b' := (-1)) c73 (iv_add (a' := 16) (b' := 16) ey72 (iv_c 24 (a := 24) (b := 24) (by decide +kernel)) (iv_c _ (a := (-8)) (b := (-8)) (by decide +kernel)) (by decide +kernel)) (iv_c 0 (a := 0) (b := 0) (by decide +kernel)) (by decide +kernel)) (by decide +kernel))).elim
      · refine lv_iload_n X.1 X.2.1 dX10_fullBytes_9 rfl (lv_at hl 2 rfl) ?_
        refine lv_iload_n X.1 X.2.1 dX10_fullBytes_10 rfl (lv_at hl 0 rfl) ?_
        obtain ⟨f74, ef74⟩ : ∃ y : Int32, y = (x0.toUInt32 >>> ((y72 : Int32).toUInt32 &&& Int32.toUInt32 31)).toInt32 := ⟨_, rfl⟩
        refine lv_iushr (v := f74) X.1 X.2.1 dX10_fullBytes_11 ef74.symm ?_
        refine lv_sipush (v := 255) X.1 X.2.1 dX10_fullBytes_12 (by decide +kernel) ?_
        refine lv_iand X.1 X.2.1 dX10_fullBytes_15 ?_
        refine lv_topi (fun f75 ef75 => ?_)
        refine lv_if_eq (tgt := 22) X.1 X.2.1 dX10_fullBytes_16 (by decide) (fun c76 => ?_) (fun c76 => ?_)
        · obtain ⟨y77, ey77⟩ : ∃ y : Int32, y = y72 + Int32.ofInt (-8) := ⟨_, rfl⟩
          refine lv_iinc (v := y77) (lv' := [(2, .int y77), (1, .int y71), (0, .int x0)]) X.1 X.2.1 dX10_fullBytes_22 hl (k := 0) rfl ey77.symm (by decide) rfl (fun ls hl => ?_)
          refine lv_goto (tgt := 5) X.1 X.2.1 dX10_fullBytes_25 (by decide) ?_
          refine lv_iload_n X.1 X.2.1 dX10_fullBytes_5 rfl (lv_at hl 0 rfl) ?_
          refine lv_if_lt (tgt := 28) X.1 X.2.1 dX10_fullBytes_6 (by decide) (fun c78 => ?_) (fun c78 => ?_)
          · exact ((iv_no (iv_lt (b' := (-1)) c78 (iv_add (a' := 8) (b' := 8) ey77 (iv_add (a' := 16) (b' := 16) ey72 (iv_c 24 (a := 24) (b := 24) (by decide +kernel)) (iv_c _ (a := (-8)) (b := (-8)) (by decide +kernel)) (by decide +kernel)) (iv_c _ (a := (-8)) (b := (-8)) (by decide +kernel)) (by decide +kernel)) (iv_c 0 (a := 0) (b := 0) (by decide +kernel)) (by decide +kernel)) (by decide +kernel))).elim
          · refine lv_iload_n X.1 X.2.1 dX10_fullBytes_9 rfl (lv_at hl 2 rfl) ?_
            refine lv_iload_n X.1 X.2.1 dX10_fullBytes_10 rfl (lv_at hl 0 rfl) ?_
            obtain ⟨f79, ef79⟩ : ∃ y : Int32, y = (x0.toUInt32 >>> ((y77 : Int32).toUInt32 &&& Int32.toUInt32 31)).toInt32 := ⟨_, rfl⟩
            refine lv_iushr (v := f79) X.1 X.2.1 dX10_fullBytes_11 ef79.symm ?_
            refine lv_sipush (v := 255) X.1 X.2.1 dX10_fullBytes_12 (by decide +kernel) ?_
            refine lv_iand X.1 X.2.1 dX10_fullBytes_15 ?_
            refine lv_topi (fun f80 ef80 => ?_)
            refine lv_if_eq (tgt := 22) X.1 X.2.1 dX10_fullBytes_16 (by decide) (fun c81 => ?_) (fun c81 => ?_)
            · obtain ⟨y82, ey82⟩ : ∃ y : Int32, y = y77 + Int32.ofInt (-8) := ⟨_, rfl⟩
              refine lv_iinc (v := y82) (lv' := [(2, .int y82), (1, .int y71), (0, .int x0)]) X.1 X.2.1 dX10_fullBytes_22 hl (k := 0) rfl ey82.symm (by decide) rfl (fun ls hl => ?_)
              refine lv_goto (tgt := 5) X.1 X.2.1 dX10_fullBytes_25 (by decide) ?_
              refine lv_iload_n X.1 X.2.1 dX10_fullBytes_5 rfl (lv_at hl 0 rfl) ?_
              refine lv_if_lt (tgt := 28) X.1 X.2.1 dX10_fullBytes_6 (by decide) (fun c83 => ?_) (fun c83 => ?_)
              · exact ((iv_no (iv_lt (b' := (-1)) c83 (iv_add (a' := 0) (b' := 0) ey82 (iv_add (a' := 8) (b' := 8) ey77 (iv_add (a' := 16) (b' := 16) ey72 (iv_c 24 (a := 24) (b := 24) (by decide +kernel)) (iv_c _ (a := (-8)) (b := (-8)) (by decide +kernel)) (by decide +kernel)) (iv_c _ (a := (-8)) (b := (-8)) (by decide +kernel)) (by decide +kernel)) (iv_c _ (a := (-8)) (b := (-8)) (by decide +kernel)) (by decide +kernel)) (iv_c 0 (a := 0) (b := 0) (by decide +kernel)) (by decide +kernel)) (by decide +kernel))).elim
              · refine lv_iload_n X.1 X.2.1 dX10_fullBytes_9 rfl (lv_at hl 2 rfl) ?_
                refine lv_iload_n X.1 X.2.1 dX10_fullBytes_10 rfl (lv_at hl 0 rfl) ?_
                obtain ⟨f84, ef84⟩ : ∃ y : Int32, y = (x0.toUInt32 >>> ((y82 : Int32).toUInt32 &&& Int32.toUInt32 31)).toInt32 := ⟨_, rfl⟩
                refine lv_iushr (v := f84) X.1 X.2.1 dX10_fullBytes_11 ef84.symm ?_
                refine lv_sipush (v := 255) X.1 X.2.1 dX10_fullBytes_12 (by decide +kernel) ?_
                refine lv_iand X.1 X.2.1 dX10_fullBytes_15 ?_
                refine lv_topi (fun f85 ef85 => ?_)
                refine lv_if_eq (tgt := 22) X.1 X.2.1 dX10_fullBytes_16 (by decide) (fun c86 => ?_) (fun c86 => ?_)
                · obtain ⟨y87, ey87⟩ : ∃ y : Int32, y = y82 + Int32.ofInt (-8) := ⟨_, rfl⟩
                  refine lv_iinc (v := y87) (lv' := [(2, .int y87), (1, .int y71), (0, .int x0)]) X.1 X.2.1 dX10_fullBytes_22 hl (k := 0) rfl ey87.symm (by decide) rfl (fun ls hl => ?_)
                  refine lv_goto (tgt := 5) X.1 X.2.1 dX10_fullBytes_25 (by decide) ?_
                  refine lv_iload_n X.1 X.2.1 dX10_fullBytes_5 rfl (lv_at hl 0 rfl) ?_
                  refine lv_if_lt (tgt := 28) X.1 X.2.1 dX10_fullBytes_6 (by decide) (fun c88 => ?_) (fun c88 => ?_)
                  · refine lv_iload_n X.1 X.2.1 dX10_fullBytes_28 rfl (lv_at hl 1 rfl) ?_
                    have nb24 := sg_nbqU ef2 ef3 (sg_kc (24) (iv_c 24 (a := 24) (b := 24) (by decide +kernel)) (by decide +kernel)) (by decide) c4
                    have nb16 := sg_nbpU ef74 ef75 (sg_kc (16) (iv_add (a' := 16) (b' := 16) ey72 (iv_c 24 (a := 24) (b := 24) (by decide +kernel)) (iv_c _ (a := (-8)) (b := (-8)) (by decide +kernel)) (by decide +kernel)) (by decide +kernel)) (by decide) c76
                    have nb8 := sg_nbpU ef79 ef80 (sg_kc (8) (iv_add (a' := 8) (b' := 8) ey77 (iv_add (a' := 16) (b' := 16) ey72 (iv_c 24 (a := 24) (b := 24) (by decide +kernel)) (iv_c _ (a := (-8)) (b := (-8)) (by decide +kernel)) (by decide +kernel)) (iv_c _ (a := (-8)) (b := (-8)) (by decide +kernel)) (by decide +kernel)) (by decide +kernel)) (by decide) c81
                    have nb0 := sg_nbpU ef84 ef85 (sg_kc (0) (iv_add (a' := 0) (b' := 0) ey82 (iv_add (a' := 8) (b' := 8) ey77 (iv_add (a' := 16) (b' := 16) ey72 (iv_c 24 (a := 24) (b := 24) (by decide +kernel)) (iv_c _ (a := (-8)) (b := (-8)) (by decide +kernel)) (by decide +kernel)) (iv_c _ (a := (-8)) (b := (-8)) (by decide +kernel)) (by decide +kernel)) (iv_c _ (a := (-8)) (b := (-8)) (by decide +kernel)) (by decide +kernel)) (by decide +kernel)) (by decide) c86
                    have cq89 : (0 : Int32).toInt = 0 := by decide +kernel
                    have xy71 : y71.toInt = (0 : Int32).toInt + 1 := sg_inc (k := 1) ey71 (iv_c 0 (a := 0) (b := 0) (by decide +kernel)) (by decide +kernel)
                    exact sg_iretP X hr hlk hS ⟨⟨by omega, by omega⟩, by unfold sg_nb; omega⟩ dX10_fullBytes_29
                  · exact ((iv_no (iv_le (b' := (-8)) (iv_ge_of c88) (iv_c 0 (a := 0) (b := 0) (by decide +kernel)) (iv_add (a' := (-8)) (b' := (-8)) ey87 (iv_add (a' := 0) (b' := 0) ey82 (iv_add (a' := 8) (b' := 8) ey77 (iv_add (a' := 16) (b' := 16) ey72 (iv_c 24 (a := 24) (b := 24) (by decide +kernel)) (iv_c _ (a := (-8)) (b := (-8)) (by decide +kernel)) (by decide +kernel)) (iv_c _ (a := (-8)) (b := (-8)) (by decide +kernel)) (by decide +kernel)) (iv_c _ (a := (-8)) (b := (-8)) (by decide +kernel)) (by decide +kernel)) (iv_c _ (a := (-8)) (b := (-8)) (by decide +kernel)) (by decide +kernel)) (by decide +kernel)) (by decide +kernel))).elim
                · obtain ⟨y90, ey90⟩ : ∃ y : Int32, y = y71 + Int32.ofInt 1 := ⟨_, rfl⟩
                  refine lv_iinc (v := y90) (lv' := [(1, .int y90), (2, .int y82), (0, .int x0)]) X.1 X.2.1 dX10_fullBytes_19 hl (k := 1) rfl ey90.symm (by decide) rfl (fun ls hl => ?_)
                  obtain ⟨y91, ey91⟩ : ∃ y : Int32, y = y82 + Int32.ofInt (-8) := ⟨_, rfl⟩
                  refine lv_iinc (v := y91) (lv' := [(2, .int y91), (1, .int y90), (0, .int x0)]) X.1 X.2.1 dX10_fullBytes_22 hl (k := 1) rfl ey91.symm (by decide) rfl (fun ls hl => ?_)
                  refine lv_goto (tgt := 5) X.1 X.2.1 dX10_fullBytes_25 (by decide) ?_
                  refine lv_iload_n X.1 X.2.1 dX10_fullBytes_5 rfl (lv_at hl 0 rfl) ?_
                  refine lv_if_lt (tgt := 28) X.1 X.2.1 dX10_fullBytes_6 (by decide) (fun c92 => ?_) (fun c92 => ?_)
                  · refine lv_iload_n X.1 X.2.1 dX10_fullBytes_28 rfl (lv_at hl 1 rfl) ?_
                    have nb24 := sg_nbqU ef2 ef3 (sg_kc (24) (iv_c 24 (a := 24) (b := 24) (by decide +kernel)) (by decide +kernel)) (by decide) c4
                    have nb16 := sg_nbpU ef74 ef75 (sg_kc (16) (iv_add (a' := 16) (b' := 16) ey72 (iv_c 24 (a := 24) (b := 24) (by decide +kernel)) (iv_c _ (a := (-8)) (b := (-8)) (by decide +kernel)) (by decide +kernel)) (by decide +kernel)) (by decide) c76
                    have nb8 := sg_nbpU ef79 ef80 (sg_kc (8) (iv_add (a' := 8) (b' := 8) ey77 (iv_add (a' := 16) (b' := 16) ey72 (iv_c 24 (a := 24) (b := 24) (by decide +kernel)) (iv_c _ (a := (-8)) (b := (-8)) (by decide +kernel)) (by decide +kernel)) (iv_c _ (a := (-8)) (b := (-8)) (by decide +kernel)) (by decide +kernel)) (by decide +kernel)) (by decide) c81
                    have nb0 := sg_nbqU ef84 ef85 (sg_kc (0) (iv_add (a' := 0) (b' := 0) ey82 (iv_add (a' := 8) (b' := 8) ey77 (iv_add (a' := 16) (b' := 16) ey72 (iv_c 24 (a := 24) (b := 24) (by decide +kernel)) (iv_c _ (a := (-8)) (b := (-8)) (by decide +kernel)) (by decide +kernel)) (iv_c _ (a := (-8)) (b := (-8)) (by decide +kernel)) (by decide +kernel)) (iv_c _ (a := (-8)) (b := (-8)) (by decide +kernel)) (by decide +kernel)) (by decide +kernel)) (by decide) c86
                    have cq93 : (0 : Int32).toInt = 0 := by decide +kernel
                    have xy71 : y71.toInt = (0 : Int32).toInt + 1 := sg_inc (k := 1) ey71 (iv_c 0 (a := 0) (b := 0) (by decide +kernel)) (by decide +kernel)
                    have xy90 : y90.toInt = y71.toInt + 1 := sg_inc (k := 1) ey90 (iv_add (a' := 1) (b' := 1) ey71 (iv_c 0 (a := 0) (b := 0) (by decide +kernel)) (iv_c _ (a := 1) (b := 1) (by decide +kernel)) (by decide +kernel)) (by decide +kernel)
                    exact sg_iretP X hr hlk hS ⟨⟨by omega, by omega⟩, by unfold sg_nb; omega⟩ dX10_fullBytes_29
                  · exact ((iv_no (iv_le (b' := (-8)) (iv_ge_of c92) (iv_c 0 (a := 0) (b := 0) (by decide +kernel)) (iv_add (a' := (-8)) (b' := (-8)) ey91 (iv_add (a' := 0) (b' := 0) ey82 (iv_add (a' := 8) (b' := 8) ey77 (iv_add (a' := 16) (b' := 16) ey72 (iv_c 24 (a := 24) (b := 24) (by decide +kernel)) (iv_c _ (a := (-8)) (b := (-8)) (by decide +kernel)) (by decide +kernel)) (iv_c _ (a := (-8)) (b := (-8)) (by decide +kernel)) (by decide +kernel)) (iv_c _ (a := (-8)) (b := (-8)) (by decide +kernel)) (by decide +kernel)) (iv_c _ (a := (-8)) (b := (-8)) (by decide +kernel)) (by decide +kernel)) (by decide +kernel)) (by decide +kernel))).elim
            · obtain ⟨y94, ey94⟩ : ∃ y : Int32, y = y71 + Int32.ofInt 1 := ⟨_, rfl⟩
              refine lv_iinc (v := y94) (lv' := [(1, .int y94), (2, .int y77), (0, .int x0)]) X.1 X.2.1 dX10_fullBytes_19 hl (k := 1) rfl ey94.symm (by decide) rfl (fun ls hl => ?_)
              obtain ⟨y95, ey95⟩ : ∃ y : Int32, y = y77 + Int32.ofInt (-8) := ⟨_, rfl⟩
              refine lv_iinc (v := y95) (lv' := [(2, .int y95), (1, .int y94), (0, .int x0)]) X.1 X.2.1 dX10_fullBytes_22 hl (k := 1) rfl ey95.symm (by decide) rfl (fun ls hl => ?_)
              refine lv_goto (tgt := 5) X.1 X.2.1 dX10_fullBytes_25 (by decide) ?_
              refine lv_iload_n X.1 X.2.1 dX10_fullBytes_5 rfl (lv_at hl 0 rfl) ?_
              refine lv_if_lt (tgt := 28) X.1 X.2.1 dX10_fullBytes_6 (by decide) (fun c96 => ?_) (fun c96 => ?_)
              · exact ((iv_no (iv_lt (b' := (-1)) c96 (iv_add (a' := 0) (b' := 0) ey95 (iv_add (a' := 8) (b' := 8) ey77 (iv_add (a' := 16) (b' := 16) ey72 (iv_c 24 (a := 24) (b := 24) (by decide +kernel)) (iv_c _ (a := (-8)) (b := (-8)) (by decide +kernel)) (by decide +kernel)) (iv_c _ (a := (-8)) (b := (-8)) (by decide +kernel)) (by decide +kernel)) (iv_c _ (a := (-8)) (b := (-8)) (by decide +kernel)) (by decide +kernel)) (iv_c 0 (a := 0) (b := 0) (by decide +kernel)) (by decide +kernel)) (by decide +kernel))).elim
              · refine lv_iload_n X.1 X.2.1 dX10_fullBytes_9 rfl (lv_at hl 2 rfl) ?_
                refine lv_iload_n X.1 X.2.1 dX10_fullBytes_10 rfl (lv_at hl 0 rfl) ?_
                obtain ⟨f97, ef97⟩ : ∃ y : Int32, y = (x0.toUInt32 >>> ((y95 : Int32).toUInt32 &&& Int32.toUInt32 31)).toInt32 := ⟨_, rfl⟩
                refine lv_iushr (v := f97) X.1 X.2.1 dX10_fullBytes_11 ef97.symm ?_
                refine lv_sipush (v := 255) X.1 X.2.1 dX10_fullBytes_12 (by decide +kernel) ?_
                refine lv_iand X.1 X.2.1 dX10_fullBytes_15 ?_
                refine lv_topi (fun f98 ef98 => ?_)
                refine lv_if_eq (tgt := 22) X.1 X.2.1 dX10_fullBytes_16 (by decide) (fun c99 => ?_) (fun c99 => ?_)
                · obtain ⟨y100, ey100⟩ : ∃ y : Int32, y = y95 + Int32.ofInt (-8) := ⟨_, rfl⟩
                  refine lv_iinc (v := y100) (lv' := [(2, .int y100), (1, .int y94), (0, .int x0)]) X.1 X.2.1 dX10_fullBytes_22 hl (k := 0) rfl ey100.symm (by decide) rfl (fun ls hl => ?_)
                  refine lv_goto (tgt := 5) X.1 X.2.1 dX10_fullBytes_25 (by decide) ?_
                  refine lv_iload_n X.1 X.2.1 dX10_fullBytes_5 rfl (lv_at hl 0 rfl) ?_
                  refine lv_if_lt (tgt := 28) X.1 X.2.1 dX10_fullBytes_6 (by decide) (fun c101 => ?_) (fun c101 => ?_)
                  · refine lv_iload_n X.1 X.2.1 dX10_fullBytes_28 rfl (lv_at hl 1 rfl) ?_
                    have nb24 := sg_nbqU ef2 ef3 (sg_kc (24) (iv_c 24 (a := 24) (b := 24) (by decide +kernel)) (by decide +kernel)) (by decide) c4
                    have nb16 := sg_nbpU ef74 ef75 (sg_kc (16) (iv_add (a' := 16) (b' := 16) ey72 (iv_c 24 (a := 24) (b := 24) (by decide +kernel)) (iv_c _ (a := (-8)) (b := (-8)) (by decide +kernel)) (by decide +kernel)) (by decide +kernel)) (by decide) c76
                    have nb8 := sg_nbqU ef79 ef80 (sg_kc (8) (iv_add (a' := 8) (b' := 8) ey77 (iv_add (a' := 16) (b' := 16) ey72 (iv_c 24 (a := 24) (b := 24) (by decide +kernel)) (iv_c _ (a := (-8)) (b := (-8)) (by decide +kernel)) (by decide +kernel)) (iv_c _ (a := (-8)) (b := (-8)) (by decide +kernel)) (by decide +kernel)) (by decide +kernel)) (by decide) c81
                    have nb0 := sg_nbpU ef97 ef98 (sg_kc (0) (iv_add (a' := 0) (b' := 0) ey95 (iv_add (a' := 8) (b' := 8) ey77 (iv_add (a' := 16) (b' := 16) ey72 (iv_c 24 (a := 24) (b := 24) (by decide +kernel)) (iv_c _ (a := (-8)) (b := (-8)) (by decide +kernel)) (by decide +kernel)) (iv_c _ (a := (-8)) (b := (-8)) (by decide +kernel)) (by decide +kernel)) (iv_c _ (a := (-8)) (b := (-8)) (by decide +kernel)) (by decide +kernel)) (by decide +kernel)) (by decide) c99
                    have cq102 : (0 : Int32).toInt = 0 := by decide +kernel
                    have xy71 : y71.toInt = (0 : Int32).toInt + 1 := sg_inc (k := 1) ey71 (iv_c 0 (a := 0) (b := 0) (by decide +kernel)) (by decide +kernel)
                    have xy94 : y94.toInt = y71.toInt + 1 := sg_inc (k := 1) ey94 (iv_add (a' := 1) (b' := 1) ey71 (iv_c 0 (a := 0) (b := 0) (by decide +kernel)) (iv_c _ (a := 1) (b := 1) (by decide +kernel)) (by decide +kernel)) (by decide +kernel)
                    exact sg_iretP X hr hlk hS ⟨⟨by omega, by omega⟩, by unfold sg_nb; omega⟩ dX10_fullBytes_29
                  · exact ((iv_no (iv_le (b' := (-8)) (iv_ge_of c101) (iv_c 0 (a := 0) (b := 0) (by decide +kernel)) (iv_add (a' := (-8)) (b' := (-8)) ey100 (iv_add (a' := 0) (b' := 0) ey95 (iv_add (a' := 8) (b' := 8) ey77 (iv_add (a' := 16) (b' := 16) ey72 (iv_c 24 (a := 24) (b := 24) (by decide +kernel)) (iv_c _ (a := (-8)) (b := (-8)) (by decide +kernel)) (by decide +kernel)) (iv_c _ (a := (-8)) (b := (-8)) (by decide +kernel)) (by decide +kernel)) (iv_c _ (a := (-8)) (b := (-8)) (by decide +kernel)) (by decide +kernel)) (iv_c _ (a := (-8)) (b := (-8)) (by decide +kernel)) (by decide +kernel)) (by decide +kernel)) (by decide +kernel))).elim
                · obtain ⟨y103, ey103⟩ : ∃ y : Int32, y = y94 + Int32.ofInt 1 := ⟨_, rfl⟩
                  refine lv_iinc (v := y103) (lv' := [(1, .int y103), (2, .int y95), (0, .int x0)]) X.1 X.2.1 dX10_fullBytes_19 hl (k := 1) rfl ey103.symm (by decide) rfl (fun ls hl => ?_)
                  obtain ⟨y104, ey104⟩ : ∃ y : Int32, y = y95 + Int32.ofInt (-8) := ⟨_, rfl⟩
                  refine lv_iinc (v := y104) (lv' := [(2, .int y104), (1, .int y103), (0, .int x0)]) X.1 X.2.1 dX10_fullBytes_22 hl (k := 1) rfl ey104.symm (by decide) rfl (fun ls hl => ?_)
                  refine lv_goto (tgt := 5) X.1 X.2.1 dX10_fullBytes_25 (by decide) ?_
                  refine lv_iload_n X.1 X.2.1 dX10_fullBytes_5 rfl (lv_at hl 0 rfl) ?_
                  refine lv_if_lt (tgt := 28) X.1 X.2.1 dX10_fullBytes_6 (by decide) (fun c105 => ?_) (fun c105 => ?_)
                  · refine lv_iload_n X.1 X.2.1 dX10_fullBytes_28 rfl (lv_at hl 1 rfl) ?_
                    have nb24 := sg_nbqU ef2 ef3 (sg_kc (24) (iv_c 24 (a := 24) (b := 24) (by decide +kernel)) (by decide +kernel)) (by decide) c4
                    have nb16 := sg_nbpU ef74 ef75 (sg_kc (16) (iv_add (a' := 16) (b' := 16) ey72 (iv_c 24 (a := 24) (b := 24) (by decide +kernel)) (iv_c _ (a := (-8)) (b := (-8)) (by decide +kernel)) (by decide +kernel)) (by decide +kernel)) (by decide) c76
                    have nb8 := sg_nbqU ef79 ef80 (sg_kc (8) (iv_add (a' := 8) (b' := 8) ey77 (iv_add (a' := 16) (b' := 16) ey72 (iv_c 24 (a := 24) (b := 24) (by decide +kernel)) (iv_c _ (a := (-8)) (b := (-8)) (by decide +kernel)) (by decide +kernel)) (iv_c _ (a := (-8)) (b := (-8)) (by decide +kernel)) (by decide +kernel)) (by decide +kernel)) (by decide) c81
                    have nb0 := sg_nbqU ef97 ef98 (sg_kc (0) (iv_add (a' := 0) (b' := 0) ey95 (iv_add (a' := 8) (b' := 8) ey77 (iv_add (a' := 16) (b' := 16) ey72 (iv_c 24 (a := 24) (b := 24) (by decide +kernel)) (iv_c _ (a := (-8)) (b := (-8)) (by decide +kernel)) (by decide +kernel)) (iv_c _ (a := (-8)) (b := (-8)) (by decide +kernel)) (by decide +kernel)) (iv_c _ (a := (-8)) (b := (-8)) (by decide +kernel)) (by decide +kernel)) (by decide +kernel)) (by decide) c99
                    have cq106 : (0 : Int32).toInt = 0 := by decide +kernel
                    have xy71 : y71.toInt = (0 : Int32).toInt + 1 := sg_inc (k := 1) ey71 (iv_c 0 (a := 0) (b := 0) (by decide +kernel)) (by decide +kernel)
                    have xy94 : y94.toInt = y71.toInt + 1 := sg_inc (k := 1) ey94 (iv_add (a' := 1) (b' := 1) ey71 (iv_c 0 (a := 0) (b := 0) (by decide +kernel)) (iv_c _ (a := 1) (b := 1) (by decide +kernel)) (by decide +kernel)) (by decide +kernel)
                    have xy103 : y103.toInt = y94.toInt + 1 := sg_inc (k := 1) ey103 (iv_add (a' := 2) (b' := 2) ey94 (iv_add (a' := 1) (b' := 1) ey71 (iv_c 0 (a := 0) (b := 0) (by decide +kernel)) (iv_c _ (a := 1) (b := 1) (by decide +kernel)) (by decide +kernel)) (iv_c _ (a := 1) (b := 1) (by decide +kernel)) (by decide +kernel)) (by decide +kernel)
                    exact sg_iretP X hr hlk hS ⟨⟨by omega, by omega⟩, by unfold sg_nb; omega⟩ dX10_fullBytes_29
                  · exact ((iv_no (iv_le (b' := (-8)) (iv_ge_of c105) (iv_c 0 (a := 0) (b := 0) (by decide +kernel)) (iv_add (a' := (-8)) (b' := (-8)) ey104 (iv_add (a' := 0) (b' := 0) ey95 (iv_add (a' := 8) (b' := 8) ey77 (iv_add (a' := 16) (b' := 16) ey72 (iv_c 24 (a := 24) (b := 24) (by decide +kernel)) (iv_c _ (a := (-8)) (b := (-8)) (by decide +kernel)) (by decide +kernel)) (iv_c _ (a := (-8)) (b := (-8)) (by decide +kernel)) (by decide +kernel)) (iv_c _ (a := (-8)) (b := (-8)) (by decide +kernel)) (by decide +kernel)) (iv_c _ (a := (-8)) (b := (-8)) (by decide +kernel)) (by decide +kernel)) (by decide +kernel)) (by decide +kernel))).elim
        · obtain ⟨y107, ey107⟩ : ∃ y : Int32, y = y71 + Int32.ofInt 1 := ⟨_, rfl⟩
          refine lv_iinc (v := y107) (lv' := [(1, .int y107), (2, .int y72), (0, .int x0)]) X.1 X.2.1 dX10_fullBytes_19 hl (k := 1) rfl ey107.symm (by decide) rfl (fun ls hl => ?_)
          obtain ⟨y108, ey108⟩ : ∃ y : Int32, y = y72 + Int32.ofInt (-8) := ⟨_, rfl⟩
          refine lv_iinc (v := y108) (lv' := [(2, .int y108), (1, .int y107), (0, .int x0)]) X.1 X.2.1 dX10_fullBytes_22 hl (k := 1) rfl ey108.symm (by decide) rfl (fun ls hl => ?_)
          refine lv_goto (tgt := 5) X.1 X.2.1 dX10_fullBytes_25 (by decide) ?_
          refine lv_iload_n X.1 X.2.1 dX10_fullBytes_5 rfl (lv_at hl 0 rfl) ?_
          refine lv_if_lt (tgt := 28) X.1 X.2.1 dX10_fullBytes_6 (by decide) (fun c109 => ?_) (fun c109 => ?_)
          · exact ((iv_no (iv_lt (b' := (-1)) c109 (iv_add (a' := 8) (b' := 8) ey108 (iv_add (a' := 16) (b' := 16) ey72 (iv_c 24 (a := 24) (b := 24) (by decide +kernel)) (iv_c _ (a := (-8)) (b := (-8)) (by decide +kernel)) (by decide +kernel)) (iv_c _ (a := (-8)) (b := (-8)) (by decide +kernel)) (by decide +kernel)) (iv_c 0 (a := 0) (b := 0) (by decide +kernel)) (by decide +kernel)) (by decide +kernel))).elim
          · refine lv_iload_n X.1 X.2.1 dX10_fullBytes_9 rfl (lv_at hl 2 rfl) ?_
            refine lv_iload_n X.1 X.2.1 dX10_fullBytes_10 rfl (lv_at hl 0 rfl) ?_
            obtain ⟨f110, ef110⟩ : ∃ y : Int32, y = (x0.toUInt32 >>> ((y108 : Int32).toUInt32 &&& Int32.toUInt32 31)).toInt32 := ⟨_, rfl⟩
            refine lv_iushr (v := f110) X.1 X.2.1 dX10_fullBytes_11 ef110.symm ?_
            refine lv_sipush (v := 255) X.1 X.2.1 dX10_fullBytes_12 (by decide +kernel) ?_
            refine lv_iand X.1 X.2.1 dX10_fullBytes_15 ?_
            refine lv_topi (fun f111 ef111 => ?_)
            refine lv_if_eq (tgt := 22) X.1 X.2.1 dX10_fullBytes_16 (by decide) (fun c112 => ?_) (fun c112 => ?_)
            · obtain ⟨y113, ey113⟩ : ∃ y : Int32, y = y108 + Int32.ofInt (-8) := ⟨_, rfl⟩
              refine lv_iinc (v := y113) (lv' := [(2, .int y113), (1, .int y107), (0, .int x0)]) X.1 X.2.1 dX10_fullBytes_22 hl (k := 0) rfl ey113.symm (by decide) rfl (fun ls hl => ?_)
              refine lv_goto (tgt := 5) X.1 X.2.1 dX10_fullBytes_25 (by decide) ?_
              refine lv_iload_n X.1 X.2.1 dX10_fullBytes_5 rfl (lv_at hl 0 rfl) ?_
              refine lv_if_lt (tgt := 28) X.1 X.2.1 dX10_fullBytes_6 (by decide) (fun c114 => ?_) (fun c114 => ?_)
              · exact ((iv_no (iv_lt (b' := (-1)) c114 (iv_add (a' := 0) (b' := 0) ey113 (iv_add (a' := 8) (b' := 8) ey108 (iv_add (a' := 16) (b' := 16) ey72 (iv_c 24 (a := 24) (b := 24) (by decide +kernel)) (iv_c _ (a := (-8)) (b := (-8)) (by decide +kernel)) (by decide +kernel)) (iv_c _ (a := (-8)) (b := (-8)) (by decide +kernel)) (by decide +kernel)) (iv_c _ (a := (-8)) (b := (-8)) (by decide +kernel)) (by decide +kernel)) (iv_c 0 (a := 0) (b := 0) (by decide +kernel)) (by decide +kernel)) (by decide +kernel))).elim
              · refine lv_iload_n X.1 X.2.1 dX10_fullBytes_9 rfl (lv_at hl 2 rfl) ?_
                refine lv_iload_n X.1 X.2.1 dX10_fullBytes_10 rfl (lv_at hl 0 rfl) ?_
                obtain ⟨f115, ef115⟩ : ∃ y : Int32, y = (x0.toUInt32 >>> ((y113 : Int32).toUInt32 &&& Int32.toUInt32 31)).toInt32 := ⟨_, rfl⟩
                refine lv_iushr (v := f115) X.1 X.2.1 dX10_fullBytes_11 ef115.symm ?_
                refine lv_sipush (v := 255) X.1 X.2.1 dX10_fullBytes_12 (by decide +kernel) ?_
                refine lv_iand X.1 X.2.1 dX10_fullBytes_15 ?_
                refine lv_topi (fun f116 ef116 => ?_)
                refine lv_if_eq (tgt := 22) X.1 X.2.1 dX10_fullBytes_16 (by decide) (fun c117 => ?_) (fun c117 => ?_)
                · obtain ⟨y118, ey118⟩ : ∃ y : Int32, y = y113 + Int32.ofInt (-8) := ⟨_, rfl⟩
                  refine lv_iinc (v := y118) (lv' := [(2, .int y118), (1, .int y107), (0, .int x0)]) X.1 X.2.1 dX10_fullBytes_22 hl (k := 0) rfl ey118.symm (by decide) rfl (fun ls hl => ?_)
                  refine lv_goto (tgt := 5) X.1 X.2.1 dX10_fullBytes_25 (by decide) ?_
                  refine lv_iload_n X.1 X.2.1 dX10_fullBytes_5 rfl (lv_at hl 0 rfl) ?_
                  refine lv_if_lt (tgt := 28) X.1 X.2.1 dX10_fullBytes_6 (by decide) (fun c119 => ?_) (fun c119 => ?_)
                  · refine lv_iload_n X.1 X.2.1 dX10_fullBytes_28 rfl (lv_at hl 1 rfl) ?_
                    have nb24 := sg_nbqU ef2 ef3 (sg_kc (24) (iv_c 24 (a := 24) (b := 24) (by decide +kernel)) (by decide +kernel)) (by decide) c4
                    have nb16 := sg_nbqU ef74 ef75 (sg_kc (16) (iv_add (a' := 16) (b' := 16) ey72 (iv_c 24 (a := 24) (b := 24) (by decide +kernel)) (iv_c _ (a := (-8)) (b := (-8)) (by decide +kernel)) (by decide +kernel)) (by decide +kernel)) (by decide) c76
                    have nb8 := sg_nbpU ef110 ef111 (sg_kc (8) (iv_add (a' := 8) (b' := 8) ey108 (iv_add (a' := 16) (b' := 16) ey72 (iv_c 24 (a := 24) (b := 24) (by decide +kernel)) (iv_c _ (a := (-8)) (b := (-8)) (by decide +kernel)) (by decide +kernel)) (iv_c _ (a := (-8)) (b := (-8)) (by decide +kernel)) (by decide +kernel)) (by decide +kernel)) (by decide) c112
                    have nb0 := sg_nbpU ef115 ef116 (sg_kc (0) (iv_add (a' := 0) (b' := 0) ey113 (iv_add (a' := 8) (b' := 8) ey108 (iv_add (a' := 16) (b' := 16) ey72 (iv_c 24 (a := 24) (b := 24) (by decide +kernel)) (iv_c _ (a := (-8)) (b := (-8)) (by decide +kernel)) (by decide +kernel)) (iv_c _ (a := (-8)) (b := (-8)) (by decide +kernel)) (by decide +kernel)) (iv_c _ (a := (-8)) (b := (-8)) (by decide +kernel)) (by decide +kernel)) (by decide +kernel)) (by decide) c117
                    have cq120 : (0 : Int32).toInt = 0 := by decide +kernel
                    have xy71 : y71.toInt = (0 : Int32).toInt + 1 := sg_inc (k := 1) ey71 (iv_c 0 (a := 0) (b := 0) (by decide +kernel)) (by decide +kernel)
                    have xy107 : y107.toInt = y71.toInt + 1 := sg_inc (k := 1) ey107 (iv_add (a' := 1) (b' := 1) ey71 (iv_c 0 (a := 0) (b := 0) (by decide +kernel)) (iv_c _ (a := 1) (b := 1) (by decide +kernel)) (by decide +kernel)) (by decide +kernel)
                    exact sg_iretP X hr hlk hS ⟨⟨by omega, by omega⟩, by unfold sg_nb; omega⟩ dX10_fullBytes_29
                  · exact ((iv_no (iv_le (b' := (-8)) (iv_ge_of c119) (iv_c 0 (a := 0) (b := 0) (by decide +kernel)) (iv_add (a' := (-8)) (b' := (-8)) ey118 (iv_add (a' := 0) (b' := 0) ey113 (iv_add (a' := 8) (b' := 8) ey108 (iv_add (a' := 16) (b' := 16) ey72 (iv_c 24 (a := 24) (b := 24) (by decide +kernel)) (iv_c _ (a := (-8)) (b := (-8)) (by decide +kernel)) (by decide +kernel)) (iv_c _ (a := (-8)) (b := (-8)) (by decide +kernel)) (by decide +kernel)) (iv_c _ (a := (-8)) (b := (-8)) (by decide +kernel)) (by decide +kernel)) (iv_c _ (a := (-8)) (b := (-8)) (by decide +kernel)) (by decide +kernel)) (by decide +kernel)) (by decide +kernel))).elim
                · obtain ⟨y121, ey121⟩ : ∃ y : Int32, y = y107 + Int32.ofInt 1 := ⟨_, rfl⟩
                  refine lv_iinc (v := y121) (lv' := [(1, .int y121), (2, .int y113), (0, .int x0)]) X.1 X.2.1 dX10_fullBytes_19 hl (k := 1) rfl ey121.symm (by decide) rfl (fun ls hl => ?_)
                  obtain ⟨y122, ey122⟩ : ∃ y : Int32, y = y113 + Int32.ofInt (-8) := ⟨_, rfl⟩
                  refine lv_iinc (v := y122) (lv' := [(2, .int y122), (1, .int y121), (0, .int x0)]) X.1 X.2.1 dX10_fullBytes_22 hl (k := 1) rfl ey122.symm (by decide) rfl (fun ls hl => ?_)
                  refine lv_goto (tgt := 5) X.1 X.2.1 dX10_fullBytes_25 (by decide) ?_
                  refine lv_iload_n X.1 X.2.1 dX10_fullBytes_5 rfl (lv_at hl 0 rfl) ?_
                  refine lv_if_lt (tgt := 28) X.1 X.2.1 dX10_fullBytes_6 (by decide) (fun c123 => ?_) (fun c123 => ?_)
                  · refine lv_iload_n X.1 X.2.1 dX10_fullBytes_28 rfl (lv_at hl 1 rfl) ?_
                    have nb24 := sg_nbqU ef2 ef3 (sg_kc (24) (iv_c 24 (a := 24) (b := 24) (by decide +kernel)) (by decide +kernel)) (by decide) c4
                    have nb16 := sg_nbqU ef74 ef75 (sg_kc (16) (iv_add (a' := 16) (b' := 16) ey72 (iv_c 24 (a := 24) (b := 24) (by decide +kernel)) (iv_c _ (a := (-8)) (b := (-8)) (by decide +kernel)) (by decide +kernel)) (by decide +kernel)) (by decide) c76
                    have nb8 := sg_nbpU ef110 ef111 (sg_kc (8) (iv_add (a' := 8) (b' := 8) ey108 (iv_add (a' := 16) (b' := 16) ey72 (iv_c 24 (a := 24) (b := 24) (by decide +kernel)) (iv_c _ (a := (-8)) (b := (-8)) (by decide +kernel)) (by decide +kernel)) (iv_c _ (a := (-8)) (b := (-8)) (by decide +kernel)) (by decide +kernel)) (by decide +kernel)) (by decide) c112
                    have nb0 := sg_nbqU ef115 ef116 (sg_kc (0) (iv_add (a' := 0) (b' := 0) ey113 (iv_add (a' := 8) (b' := 8) ey108 (iv_add (a' := 16) (b' := 16) ey72 (iv_c 24 (a := 24) (b := 24) (by decide +kernel)) (iv_c _ (a := (-8)) (b := (-8)) (by decide +kernel)) (by decide +kernel)) (iv_c _ (a := (-8)) (b := (-8)) (by decide +kernel)) (by decide +kernel)) (iv_c _ (a := (-8)) (b := (-8)) (by decide +kernel)) (by decide +kernel)) (by decide +kernel)) (by decide) c117
                    have cq124 : (0 : Int32).toInt = 0 := by decide +kernel
                    have xy71 : y71.toInt = (0 : Int32).toInt + 1 := sg_inc (k := 1) ey71 (iv_c 0 (a := 0) (b := 0) (by decide +kernel)) (by decide +kernel)
                    have xy107 : y107.toInt = y71.toInt + 1 := sg_inc (k := 1) ey107 (iv_add (a' := 1) (b' := 1) ey71 (iv_c 0 (a := 0) (b := 0) (by decide +kernel)) (iv_c _ (a := 1) (b := 1) (by decide +kernel)) (by decide +kernel)) (by decide +kernel)
                    have xy121 : y121.toInt = y107.toInt + 1 := sg_inc (k := 1) ey121 (iv_add (a' := 2) (b' := 2) ey107 (iv_add (a' := 1) (b' := 1) ey71 (iv_c 0 (a := 0) (b := 0) (by decide +kernel)) (iv_c _ (a := 1) (b := 1) (by decide +kernel)) (by decide +kernel)) (iv_c _ (a := 1) (b := 1) (by decide +kernel)) (by decide +kernel)) (by decide +kernel)
                    exact sg_iretP X hr hlk hS ⟨⟨by omega, by omega⟩, by unfold sg_nb; omega⟩ dX10_fullBytes_29
                  · exact ((iv_no (iv_le (b' := (-8)) (iv_ge_of c123) (iv_c 0 (a := 0) (b := 0) (by decide +kernel)) (iv_add (a' := (-8)) (b' := (-8)) ey122 (iv_add (a' := 0) (b' := 0) ey113 (iv_add (a' := 8) (b' := 8) ey108 (iv_add (a' := 16) (b' := 16) ey72 (iv_c 24 (a := 24) (b := 24) (by decide +kernel)) (iv_c _ (a := (-8)) (b := (-8)) (by decide +kernel)) (by decide +kernel)) (iv_c _ (a := (-8)) (b := (-8)) (by decide +kernel)) (by decide +kernel)) (iv_c _ (a := (-8)) (b := (-8)) (by decide +kernel)) (by decide +kernel)) (iv_c _ (a := (-8)) (b := (-8)) (by decide +kernel)) (by decide +kernel)) (by decide +kernel)) (by decide +kernel))).elim
            · obtain ⟨y125, ey125⟩ : ∃ y : Int32, y = y107 + Int32.ofInt 1 := ⟨_, rfl⟩
              refine lv_iinc (v := y125) (lv' := [(1, .int y125), (2, .int y108), (0, .int x0)]) X.1 X.2.1 dX10_fullBytes_19 hl (k := 1) rfl ey125.symm (by decide) rfl (fun ls hl => ?_)
              obtain ⟨y126, ey126⟩ : ∃ y : Int32, y = y108 + Int32.ofInt (-8) := ⟨_, rfl⟩
              refine lv_iinc (v := y126) (lv' := [(2, .int y126), (1, .int y125), (0, .int x0)]) X.1 X.2.1 dX10_fullBytes_22 hl (k := 1) rfl ey126.symm (by decide) rfl (fun ls hl => ?_)
              refine lv_goto (tgt := 5) X.1 X.2.1 dX10_fullBytes_25 (by decide) ?_
              refine lv_iload_n X.1 X.2.1 dX10_fullBytes_5 rfl (lv_at hl 0 rfl) ?_
              refine lv_if_lt (tgt := 28) X.1 X.2.1 dX10_fullBytes_6 (by decide) (fun c127 => ?_) (fun c127 => ?_)
              · exact ((iv_no (iv_lt (b' := (-1)) c127 (iv_add (a' := 0) (b' := 0) ey126 (iv_add (a' := 8) (b' := 8) ey108 (iv_add (a' := 16) (b' := 16) ey72 (iv_c 24 (a := 24) (b := 24) (by decide +kernel)) (iv_c _ (a := (-8)) (b := (-8)) (by decide +kernel)) (by decide +kernel)) (iv_c _ (a := (-8)) (b := (-8)) (by decide +kernel)) (by decide +kernel)) (iv_c _ (a := (-8)) (b := (-8)) (by decide +kernel)) (by decide +kernel)) (iv_c 0 (a := 0) (b := 0) (by decide +kernel)) (by decide +kernel)) (by decide +kernel))).elim
              · refine lv_iload_n X.1 X.2.1 dX10_fullBytes_9 rfl (lv_at hl 2 rfl) ?_
                refine lv_iload_n X.1 X.2.1 dX10_fullBytes_10 rfl (lv_at hl 0 rfl) ?_
                obtain ⟨f128, ef128⟩ : ∃ y : Int32, y = (x0.toUInt32 >>> ((y126 : Int32).toUInt32 &&& Int32.toUInt32 31)).toInt32 := ⟨_, rfl⟩
                refine lv_iushr (v := f128) X.1 X.2.1 dX10_fullBytes_11 ef128.symm ?_
                refine lv_sipush (v := 255) X.1 X.2.1 dX10_fullBytes_12 (by decide +kernel) ?_
                refine lv_iand X.1 X.2.1 dX10_fullBytes_15 ?_
                refine lv_topi (fun f129 ef129 => ?_)
                refine lv_if_eq (tgt := 22) X.1 X.2.1 dX10_fullBytes_16 (by decide) (fun c130 => ?_) (fun c130 => ?_)
                · obtain ⟨y131, ey131⟩ : ∃ y : Int32, y = y126 + Int32.ofInt (-8) := ⟨_, rfl⟩
                  refine lv_iinc (v := y131) (lv' := [(2, .int y131), (1, .int y125), (0, .int x0)]) X.1 X.2.1 dX10_fullBytes_22 hl (k := 0) rfl ey131.symm (by decide) rfl (fun ls hl => ?_)
                  refine lv_goto (tgt := 5) X.1 X.2.1 dX10_fullBytes_25 (by decide) ?_
                  refine lv_iload_n X.1 X.2.1 dX10_fullBytes_5 rfl (lv_at hl 0 rfl) ?_
                  refine lv_if_lt (tgt := 28) X.1 X.2.1 dX10_fullBytes_6 (by decide) (fun c132 => ?_) (fun c132 => ?_)
                  · refine lv_iload_n X.1 X.2.1 dX10_fullBytes_28 rfl (lv_at hl 1 rfl) ?_
                    have nb24 := sg_nbqU ef2 ef3 (sg_kc (24) (iv_c 24 (a := 24) (b := 24) (by decide +kernel)) (by decide +kernel)) (by decide) c4
                    have nb16 := sg_nbqU ef74 ef75 (sg_kc (16) (iv_add (a' := 16) (b' := 16) ey72 (iv_c 24 (a := 24) (b := 24) (by decide +kernel)) (iv_c _ (a := (-8)) (b := (-8)) (by decide +kernel)) (by decide +kernel)) (by decide +kernel)) (by decide) c76
                    have nb8 := sg_nbqU ef110 ef111 (sg_kc (8) (iv_add (a' := 8) (b' := 8) ey108 (iv_add (a' := 16) (b' := 16) ey72 (iv_c 24 (a := 24) (b := 24) (by decide +kernel)) (iv_c _ (a := (-8)) (b := (-8)) (by decide +kernel)) (by decide +kernel)) (iv_c _ (a := (-8)) (b := (-8)) (by decide +kernel)) (by decide +kernel)) (by decide +kernel)) (by decide) c112
                    have nb0 := sg_nbpU ef128 ef129 (sg_kc (0) (iv_add (a' := 0) (b' := 0) ey126 (iv_add (a' := 8) (b' := 8) ey108 (iv_add (a' := 16) (b' := 16) ey72 (iv_c 24 (a := 24) (b := 24) (by decide +kernel)) (iv_c _ (a := (-8)) (b := (-8)) (by decide +kernel)) (by decide +kernel)) (iv_c _ (a := (-8)) (b := (-8)) (by decide +kernel)) (by decide +kernel)) (iv_c _ (a := (-8)) (b := (-8)) (by decide +kernel)) (by decide +kernel)) (by decide +kernel)) (by decide) c130
                    have cq133 : (0 : Int32).toInt = 0 := by decide +kernel
                    have xy71 : y71.toInt = (0 : Int32).toInt + 1 := sg_inc (k := 1) ey71 (iv_c 0 (a := 0) (b := 0) (by decide +kernel)) (by decide +kernel)
                    have xy107 : y107.toInt = y71.toInt + 1 := sg_inc (k := 1) ey107 (iv_add (a' := 1) (b' := 1) ey71 (iv_c 0 (a := 0) (b := 0) (by decide +kernel)) (iv_c _ (a := 1) (b := 1) (by decide +kernel)) (by decide +kernel)) (by decide +kernel)
                    have xy125 : y125.toInt = y107.toInt + 1 := sg_inc (k := 1) ey125 (iv_add (a' := 2) (b' := 2) ey107 (iv_add (a' := 1) (b' := 1) ey71 (iv_c 0 (a := 0) (b := 0) (by decide +kernel)) (iv_c _ (a := 1) (b := 1) (by decide +kernel)) (by decide +kernel)) (iv_c _ (a := 1) (b := 1) (by decide +kernel)) (by decide +kernel)) (by decide +kernel)
                    exact sg_iretP X hr hlk hS ⟨⟨by omega, by omega⟩, by unfold sg_nb; omega⟩ dX10_fullBytes_29
                  · exact ((iv_no (iv_le (b' := (-8)) (iv_ge_of c132) (iv_c 0 (a := 0) (b := 0) (by decide +kernel)) (iv_add (a' := (-8)) (b' := (-8)) ey131 (iv_add (a' := 0) (b' := 0) ey126 (iv_add (a' := 8) (b' := 8) ey108 (iv_add (a' := 16) (b' := 16) ey72 (iv_c 24 (a := 24) (b := 24) (by decide +kernel)) (iv_c _ (a := (-8)) (b := (-8)) (by decide +kernel)) (by decide +kernel)) (iv_c _ (a := (-8)) (b := (-8)) (by decide +kernel)) (by decide +kernel)) (iv_c _ (a := (-8)) (b := (-8)) (by decide +kernel)) (by decide +kernel)) (iv_c _ (a := (-8)) (b := (-8)) (by decide +kernel)) (by decide +kernel)) (by decide +kernel)) (by decide +kernel))).elim
                · obtain ⟨y134, ey134⟩ : ∃ y : Int32, y = y125 + Int32.ofInt 1 := ⟨_, rfl⟩
                  refine lv_iinc (v := y134) (lv' := [(1, .int y134), (2, .int y126), (0, .int x0)]) X.1 X.2.1 dX10_fullBytes_19 hl (k := 1) rfl ey134.symm (by decide) rfl (fun ls hl => ?_)
                  obtain ⟨y135, ey135⟩ : ∃ y : Int32, y = y126 + Int32.ofInt (-8) := ⟨_, rfl⟩
                  refine lv_iinc (v := y135) (lv' := [(2, .int y135), (1, .int y134), (0, .int x0)]) X.1 X.2.1 dX10_fullBytes_22 hl (k := 1) rfl ey135.symm (by decide) rfl (fun ls hl => ?_)
                  refine lv_goto (tgt := 5) X.1 X.2.1 dX10_fullBytes_25 (by decide) ?_
                  refine lv_iload_n X.1 X.2.1 dX10_fullBytes_5 rfl (lv_at hl 0 rfl) ?_
                  refine lv_if_lt (tgt := 28) X.1 X.2.1 dX10_fullBytes_6 (by decide) (fun c136 => ?_) (fun c136 => ?_)
                  · refine lv_iload_n X.1 X.2.1 dX10_fullBytes_28 rfl (lv_at hl 1 rfl) ?_
                    have nb24 := sg_nbqU ef2 ef3 (sg_kc (24) (iv_c 24 (a := 24) (b := 24) (by decide +kernel)) (by decide +kernel)) (by decide) c4
                    have nb16 := sg_nbqU ef74 ef75 (sg_kc (16) (iv_add (a' := 16) (b' := 16) ey72 (iv_c 24 (a := 24) (b := 24) (by decide +kernel)) (iv_c _ (a := (-8)) (b := (-8)) (by decide +kernel)) (by decide +kernel)) (by decide +kernel)) (by decide) c76
                    have nb8 := sg_nbqU ef110 ef111 (sg_kc (8) (iv_add (a' := 8) (b' := 8) ey108 (iv_add (a' := 16) (b' := 16) ey72 (iv_c 24 (a := 24) (b := 24) (by decide +kernel)) (iv_c _ (a := (-8)) (b := (-8)) (by decide +kernel)) (by decide +kernel)) (iv_c _ (a := (-8)) (b := (-8)) (by decide +kernel)) (by decide +kernel)) (by decide +kernel)) (by decide) c112
                    have nb0 := sg_nbqU ef128 ef129 (sg_kc (0) (iv_add (a' := 0) (b' := 0) ey126 (iv_add (a' := 8) (b' := 8) ey108 (iv_add (a' := 16) (b' := 16) ey72 (iv_c 24 (a := 24) (b := 24) (by decide +kernel)) (iv_c _ (a := (-8)) (b := (-8)) (by decide +kernel)) (by decide +kernel)) (iv_c _ (a := (-8)) (b := (-8)) (by decide +kernel)) (by decide +kernel)) (iv_c _ (a := (-8)) (b := (-8)) (by decide +kernel)) (by decide +kernel)) (by decide +kernel)) (by decide) c130
                    have cq137 : (0 : Int32).toInt = 0 := by decide +kernel
                    have xy71 : y71.toInt = (0 : Int32).toInt + 1 := sg_inc (k := 1) ey71 (iv_c 0 (a := 0) (b := 0) (by decide +kernel)) (by decide +kernel)
                    have xy107 : y107.toInt = y71.toInt + 1 := sg_inc (k := 1) ey107 (iv_add (a' := 1) (b' := 1) ey71 (iv_c 0 (a := 0) (b := 0) (by decide +kernel)) (iv_c _ (a := 1) (b := 1) (by decide +kernel)) (by decide +kernel)) (by decide +kernel)
                    have xy125 : y125.toInt = y107.toInt + 1 := sg_inc (k := 1) ey125 (iv_add (a' := 2) (b' := 2) ey107 (iv_add (a' := 1) (b' := 1) ey71 (iv_c 0 (a := 0) (b := 0) (by decide +kernel)) (iv_c _ (a := 1) (b := 1) (by decide +kernel)) (by decide +kernel)) (iv_c _ (a := 1) (b := 1) (by decide +kernel)) (by decide +kernel)) (by decide +kernel)
                    have xy134 : y134.toInt = y125.toInt + 1 := sg_inc (k := 1) ey134 (iv_add (a' := 3) (b' := 3) ey125 (iv_add (a' := 2) (b' := 2) ey107 (iv_add (a' := 1) (b' := 1) ey71 (iv_c 0 (a := 0) (b := 0) (by decide +kernel)) (iv_c _ (a := 1) (b := 1) (by decide +kernel)) (by decide +kernel)) (iv_c _ (a := 1) (b := 1) (by decide +kernel)) (by decide +kernel)) (iv_c _ (a := 1) (b := 1) (by decide +kernel)) (by decide +kernel)) (by decide +kernel)
                    exact sg_iretP X hr hlk hS ⟨⟨by omega, by omega⟩, by unfold sg_nb; omega⟩ dX10_fullBytes_29
                  · exact ((iv_no (iv_le (b' := (-8)) (iv_ge_of c136) (iv_c 0 (a := 0) (b := 0) (by decide +kernel)) (iv_add (a' := (-8)) (b' := (-8)) ey135 (iv_add (a' := 0) (b' := 0) ey126 (iv_add (a' := 8) (b' := 8) ey108 (iv_add (a' := 16) (b' := 16) ey72 (iv_c 24 (a := 24) (b := 24) (by decide +kernel)) (iv_c _ (a := (-8)) (b := (-8)) (by decide +kernel)) (by decide +kernel)) (iv_c _ (a := (-8)) (b := (-8)) (by decide +kernel)) (by decide +kernel)) (iv_c _ (a := (-8)) (b := (-8)) (by decide +kernel)) (by decide +kernel)) (iv_c _ (a := (-8)) (b := (-8)) (by decide +kernel)) (by decide +kernel)) (by decide +kernel)) (by decide +kernel))).elim

theorem ca_X10_fullBytes_b   (X : CallFix p m c cc nL s args sg_tbl own) (hK : va_K D vwCl tys s) (hG : sgG (KT P) D vwCl (fun q : Nat => base ≤ q) tys ad ks H) (hC : sgC base s) (hA : ∀ q : Nat, A q → base ≤ q) (hS : va_S A s.heap H locs) (hb : base ≤ s.heap.size) (x0 : Int32) (hl : Cond.methodLink own index yX10_fullBytes ∈ sg_tbl) (hsize : ls.size = nL) (hst : st0 = [.int x0].reverse ++ rest) (hW : (rest.map fun v => v.category).sum ≤ 8) (hR : 1 ≤ R.frames ∧ 22 ≤ R.locals) (hf : cells ≤ R.cells ∧ slots ≤ R.slots) (hdg : decode cc pc = .ok (.invokestatic index, 3)) (kk : ∀ (r : Int32) (locs1 : List Loc), (fun r : Int32 => iv 0 4 r ∧ r.toInt = sg_nb x0) r → va_S A s.heap H locs1 → W p l e R s m args below meth c H locs1 cells slots Q (F0 m (pc + 3) ls (.int r :: rest))) : W p l e R s m args below meth c H locs cells slots Q (F0 m pc ls st0) :=
  sg_callPSi X hK hG hC hA hS hb (m_X10_fullBytes_b l x0) wl_3_13 wl_1_2 wl_3_12 (n := 1) (by decide +kernel) rfl rfl rfl hl hsize hst hW hR hf hdg kk
end
