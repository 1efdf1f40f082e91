
section
variable {p : Program} {l : Launch} {e : Env} {R : Room} {s : State} {m : MethodId} {args : Array Value} {below : List Frame} {meth : Method} {c : Code} {H : Heap} {locs : List Loc} {cells slots : Nat} {Q : State → Prop} {cc : ByteArray} {nL pc : Nat} {ls : Array Slot} {rest : List Value} {own : String} {D : va_G} {A : Nat → Prop} {tys : List (ClassId × FieldType)} {ad ks : List Nat} {P : sgPm} {H0 : Heap} {index : Nat} {base : Nat} {st0 : List Value} {a : Nat}

set_option maxHeartbeats 8000000 in
set_option maxRecDepth 100000 in
theorem m_X12_bytesIn_b (l : Launch) {D : va_G} {base : Nat} {tys : List (ClassId × FieldType)} {ad ks : List Nat} {P : sgPm} {Hx : Heap} (x0 : Int32) : sgPi l (KT P) D vwCl base tys ad ks Hx yX12_bytesIn cX12_bytesIn 3 (some .int) ({ frames := 0, cells := 0, slots := 0, locals := 0 }) [.int x0] (fun r : Int32 => iv 0 4 r ∧ r.toInt = sg_nb x0) := by
  refine sg_ofP (Pq := fun Hx => va_Qi (fun r (_ : Unit) => (fun r : Int32 => iv 0 4 r ∧ r.toInt = sg_nb x0) r) (fun _ t => t.heap = Hx) (fun _ : Nat => False)) (by decide +kernel) (Nat.le_of_ble_eq_true rfl) (fun p e s m below meth c X hr hlk hb hK hC hG ls hl => ?_)
  have hS : va_S (fun _ : Nat => False) s.heap s.heap [] := va_S.rf
  have hl : lv_has ls 3 [(0, .int x0)] := hl
  refine lv_iconst (v := 0) X.1 X.2.1 dX12_bytesIn_0 (by decide +kernel) ?_
  refine lv_istore_n (lv' := [(1, .int 0), (0, .int x0)]) X.1 X.2.1 dX12_bytesIn_1 rfl hl (by decide) rfl (fun ls hl => ?_)
  refine lv_bipush (v := 24) X.1 X.2.1 dX12_bytesIn_2 (by decide +kernel) ?_
  refine lv_istore_n (lv' := [(2, .int 24), (1, .int 0), (0, .int x0)]) X.1 X.2.1 dX12_bytesIn_4 rfl hl (by decide) rfl (fun ls hl => ?_)
  refine lv_iload_n X.1 X.2.1 dX12_bytesIn_5 rfl (lv_at hl 0 rfl) ?_
  refine lv_if_lt (tgt := 33) X.1 X.2.1 dX12_bytesIn_6 (by decide) (fun c1 => ?_) (fun c1 => ?_)
  · exact ((iv_no (iv_lt (b' := (-1)) c1 (iv_c 24 (a := 24) (b := 24) (by decide +kernel)) (iv_c 0 (a := 0) (b := 0) (by decide +kernel)) (by decide +kernel)) (by decide +kernel))).elim
  · refine lv_iload_n X.1 X.2.1 dX12_bytesIn_9 rfl (lv_at hl 1 rfl) ?_
    refine lv_iload_n X.1 X.2.1 dX12_bytesIn_10 rfl (lv_at hl 2 rfl) ?_
    refine lv_iload_n X.1 X.2.1 dX12_bytesIn_11 rfl (lv_at hl 0 rfl) ?_
    refine lv_ishr X.1 X.2.1 dX12_bytesIn_12 ?_
    refine lv_topi (fun f2 ef2 => ?_)
    refine lv_sipush (v := 255) X.1 X.2.1 dX12_bytesIn_13 (by decide +kernel) ?_
    refine lv_iand X.1 X.2.1 dX12_bytesIn_16 ?_
    refine lv_topi (fun f3 ef3 => ?_)
    refine lv_if_eq (tgt := 24) X.1 X.2.1 dX12_bytesIn_17 (by decide) (fun c4 => ?_) (fun c4 => ?_)
    · refine lv_iconst (v := 0) X.1 X.2.1 dX12_bytesIn_24 (by decide +kernel) ?_
      refine lv_iadd X.1 X.2.1 dX12_bytesIn_25 ?_
      refine lv_topi (fun f5 ef5 => ?_)
      refine lv_istore_n (lv' := [(1, .int f5), (2, .int 24), (0, .int x0)]) X.1 X.2.1 dX12_bytesIn_26 rfl hl (by decide) rfl (fun ls hl => ?_)
      obtain ⟨y6, ey6⟩ : ∃ y : Int32, y = 24 + Int32.ofInt (-8) := ⟨_, rfl⟩
      refine lv_iinc (v := y6) (lv' := [(2, .int y6), (1, .int f5), (0, .int x0)]) X.1 X.2.1 dX12_bytesIn_27 hl (k := 1) rfl ey6.symm (by decide) rfl (fun ls hl => ?_)
      refine lv_goto (tgt := 5) X.1 X.2.1 dX12_bytesIn_30 (by decide) ?_
      refine lv_iload_n X.1 X.2.1 dX12_bytesIn_5 rfl (lv_at hl 0 rfl) ?_
      refine lv_if_lt (tgt := 33) X.1 X.2.1 dX12_bytesIn_6 (by decide) (fun c7 => ?_) (fun c7 => ?_)
      · exact ((iv_no (iv_lt (b' := (-1)) c7 (iv_add (a' := 16) (b' := 16) ey6 (iv_c 24 (a := 24) (b := 24) (by decide +kernel)) (iv_c _ (a := (-8)) (b := (-8)) (by decide +kernel)) (by decide +kernel)) (iv_c 0 (a := 0) (b := 0) (by decide +kernel)) (by decide +kernel)) (by decide +kernel))).elim
      · refine lv_iload_n X.1 X.2.1 dX12_bytesIn_9 rfl (lv_at hl 1 rfl) ?_
        refine lv_iload_n X.1 X.2.1 dX12_bytesIn_10 rfl (lv_at hl 2 rfl) ?_
        refine lv_iload_n X.1 X.2.1 dX12_bytesIn_11 rfl (lv_at hl 0 rfl) ?_
        refine lv_ishr X.1 X.2.1 dX12_bytesIn_12 ?_
        refine lv_topi (fun f8 ef8 => ?_)
        refine lv_sipush (v := 255) X.1 X.2.1 dX12_bytesIn_13 (by decide +kernel) ?_
        refine lv_iand X.1 X.2.1 dX12_bytesIn_16 ?_
        refine lv_topi (fun f9 ef9 => ?_)
        refine lv_if_eq (tgt := 24) X.1 X.2.1 dX12_bytesIn_17 (by decide) (fun c10 => ?_) (fun c10 => ?_)
        · refine lv_iconst (v := 0) X.1 X.2.1 dX12_bytesIn_24 (by decide +kernel) ?_
          refine lv_iadd X.1 X.2.1 dX12_bytesIn_25 ?_
          refine lv_topi (fun f11 ef11 => ?_)
          refine lv_istore_n (lv' := [(1, .int f11), (2, .int y6), (0, .int x0)]) X.1 X.2.1 dX12_bytesIn_26 rfl hl (by decide) rfl (fun ls hl => ?_)
          obtain ⟨y12, ey12⟩ : ∃ y : Int32, y = y6 + Int32.ofInt (-8) := ⟨_, rfl⟩
          refine lv_iinc (v := y12) (lv' := [(2, .int y12), (1, .int f11), (0, .int x0)]) X.1 X.2.1 dX12_bytesIn_27 hl (k := 1) rfl ey12.symm (by decide) rfl (fun ls hl => ?_)
          refine lv_goto (tgt := 5) X.1 X.2.1 dX12_bytesIn_30 (by decide) ?_
          refine lv_iload_n X.1 X.2.1 dX12_bytesIn_5 rfl (lv_at hl 0 rfl) ?_
          refine lv_if_lt (tgt := 33) X.1 X.2.1 dX12_bytesIn_6 (by decide) (fun c13 => ?_) (fun c13 => ?_)
          · exact ((iv_no (iv_lt (b' := (-1)) c13 (iv_add (a' := 8) (b' := 8) ey12 (iv_add (a' := 16) (b' := 16) ey6 (iv_c 24 (a := 24) (b := 24) (by decide +kernel)) (iv_c _ (a := (-8)) (b := (-8)) (by decide +kernel)) (by decide +kernel)) (iv_c _ (a := (-8)) (b := (-8)) (by decide +kernel)) (by decide +kernel)) (iv_c 0 (a := 0) (b := 0) (by decide +kernel)) (by decide +kernel)) (by decide +kernel))).elim
          · refine lv_iload_n X.1 X.2.1 dX12_bytesIn_9 rfl (lv_at hl 1 rfl) ?_
            refine lv_iload_n X.1 X.2.1 dX12_bytesIn_10 rfl (lv_at hl 2 rfl) ?_
            refine lv_iload_n X.1 X.2.1 dX12_bytesIn_11 rfl (lv_at hl 0 rfl) ?_
            refine lv_ishr X.1 X.2.1 dX12_bytesIn_12 ?_
            refine lv_topi (fun f14 ef14 => ?_)
            refine lv_sipush (v := 255) X.1 X.2.1 dX12_bytesIn_13 (by decide +kernel) ?_
            refine lv_iand X.1 X.2.1 dX12_bytesIn_16 ?_
            refine lv_topi (fun f15 ef15 => ?_)
            refine lv_if_eq (tgt := 24) X.1 X.2.1 dX12_bytesIn_17 (by decide) (fun c16 => ?_) (fun c16 => ?_)
            · refine lv_iconst (v := 0) X.1 X.2.1 dX12_bytesIn_24 (by decide +kernel) ?_
              refine lv_iadd X.1 X.2.1 dX12_bytesIn_25 ?_
              refine lv_topi (fun f17 ef17 => ?_)
              refine lv_istore_n (lv' := [(1, .int f17), (2, .int y12), (0, .int x0)]) X.1 X.2.1 dX12_bytesIn_26 rfl hl (by decide) rfl (fun ls hl => ?_)
              obtain ⟨y18, ey18⟩ : ∃ y : Int32, y = y12 + Int32.ofInt (-8) := ⟨_, rfl⟩
              refine lv_iinc (v := y18) (lv' := [(2, .int y18), (1, .int f17), (0, .int x0)]) X.1 X.2.1 dX12_bytesIn_27 hl (k := 1) rfl ey18.symm (by decide) rfl (fun ls hl => ?_)
              refine lv_goto (tgt := 5) X.1 X.2.1 dX12_bytesIn_30 (by decide) ?_
              refine lv_iload_n X.1 X.2.1 dX12_bytesIn_5 rfl (lv_at hl 0 rfl) ?_
              refine lv_if_lt (tgt := 33) X.1 X.2.1 dX12_bytesIn_6 (by decide) (fun c19 => ?_) (fun c19 => ?_)
              · exact ((iv_no (iv_lt (b' := (-1)) c19 (iv_add (a' := 0) (b' := 0) ey18 (iv_add (a' := 8) (b' := 8) ey12 (iv_add (a' := 16) (b' := 16) ey6 (iv_c 24 (a := 24) (b := 24) (by decide +kernel)) (iv_c _ (a := (-8)) (b := (-8)) (by decide +kernel)) (by decide +kernel)) (iv_c _ (a := (-8)) (b := (-8)) (by decide +kernel)) (by decide +kernel)) (iv_c _ (a := (-8)) (b := (-8)) (by decide +kernel)) (by decide +kernel)) (iv_c 0 (a := 0) (b := 0) (by decide +kernel)) (by decide +kernel)) (by decide +kernel))).elim
              · refine lv_iload_n X.1 X.2.1 dX12_bytesIn_9 rfl (lv_at hl 1 rfl) ?_
                refine lv_iload_n X.1 X.2.1 dX12_bytesIn_10 rfl (lv_at hl 2 rfl) ?_
                refine lv_iload_n X.1 X.2.1 dX12_bytesIn_11 rfl (lv_at hl 0 rfl) ?_
                refine lv_ishr X.1 X.2.1 dX12_bytesIn_12 ?_
                refine lv_topi (fun f20 ef20 => ?_)
                refine lv_sipush (v := 255) X.1 X.2.1 dX12_bytesIn_13 (by decide +kernel) ?_
                refine lv_iand X.1 X.2.1 dX12_bytesIn_16 ?_
                refine lv_topi (fun f21 ef21 => ?_)
                refine lv_if_eq (tgt := 24) X.1 X.2.1 dX12_bytesIn_17 (by decide) (fun c22 => ?_) (fun c22 => ?_)
                · refine lv_iconst (v := 0) X.1 X.2.1 dX12_bytesIn_24 (by decide +kernel) ?_
                  refine lv_iadd X.1 X.2.1 dX12_bytesIn_25 ?_
                  refine lv_topi (fun f23 ef23 => ?_)
                  refine lv_istore_n (lv' := [(1, .int f23), (2, .int y18), (0, .int x0)]) X.1 X.2.1 dX12_bytesIn_26 rfl hl (by decide) rfl (fun ls hl => ?_)
                  obtain ⟨y24, ey24⟩ : ∃ y : Int32, y = y18 + Int32.ofInt (-8) := ⟨_, rfl⟩
                  refine lv_iinc (v := y24) (lv' := [(2, .int y24), (1, .int f23), (0, .int x0)]) X.1 X.2.1 dX12_bytesIn_27 hl (k := 1) rfl ey24.symm (by decide) rfl (fun ls hl => ?_)
                  refine lv_goto (tgt := 5) X.1 X.2.1 dX12_bytesIn_30 (by decide) ?_
                  refine lv_iload_n X.1 X.2.1 dX12_bytesIn_5 rfl (lv_at hl 0 rfl) ?_
                  refine lv_if_lt (tgt := 33) X.1 X.2.1 dX12_bytesIn_6 (by decide) (fun c25 => ?_) (fun c25 => ?_)
                  · refine lv_iload_n X.1 X.2.1 dX12_bytesIn_33 rfl (lv_at hl 1 rfl) ?_
                    have nb24 := sg_nbp ef2 ef3 (sg_kc (24) (iv_c 24 (a := 24) (b := 24) (by decide +kernel)) (by decide +kernel)) c4
                    have nb16 := sg_nbp ef8 ef9 (sg_kc (16) (iv_add (a' := 16) (b' := 16) ey6 (iv_c 24 (a := 24) (b := 24) (by decide +kernel)) (iv_c _ (a := (-8)) (b := (-8)) (by decide +kernel)) (by decide +kernel)) (by decide +kernel)) c10
                    have nb8 := sg_nbp ef14 ef15 (sg_kc (8) (iv_add (a' := 8) (b' := 8) ey12 (iv_add (a' := 16) (b' := 16) ey6 (iv_c 24 (a := 24) (b := 24) (by decide +kernel)) (iv_c _ (a := (-8)) (b := (-8)) (by decide +kernel)) (by decide +kernel)) (iv_c _ (a := (-8)) (b := (-8)) (by decide +kernel)) (by decide +kernel)) (by decide +kernel)) c16
                    have nb0 := sg_nbp ef20 ef21 (sg_kc (0) (iv_add (a' := 0) (b' := 0) ey18 (iv_add (a' := 8) (b' := 8) ey12 (iv_add (a' := 16) (b' := 16) ey6 (iv_c 24 (a := 24) (b := 24) (by decide +kernel)) (iv_c _ (a := (-8)) (b := (-8)) (by decide +kernel)) (by decide +kernel)) (iv_c _ (a := (-8)) (b := (-8)) (by decide +kernel)) (by decide +kernel)) (iv_c _ (a := (-8)) (b := (-8)) (by decide +kernel)) (by decide +kernel)) (by decide +kernel)) c22
                    have cq26 : (0 : Int32).toInt = 0 := by decide +kernel
                    have xf5 : f5.toInt = (0 : Int32).toInt + 0 := sg_inc (k := 0) ef5 (iv_c 0 (a := 0) (b := 0) (by decide +kernel)) (by decide +kernel)
                    have xf11 : f11.toInt = f5.toInt + 0 := sg_inc (k := 0) ef11 (iv_add (a' := 0) (b' := 0) ef5 (iv_c 0 (a := 0) (b := 0) (by decide +kernel)) (iv_c 0 (a := 0) (b := 0) (by decide +kernel)) (by decide +kernel)) (by decide +kernel)
                    have xf17 : f17.toInt = f11.toInt + 0 := sg_inc (k := 0) ef17 (iv_add (a' := 0) (b' := 0) ef11 (iv_add (a' := 0) (b' := 0) ef5 (iv_c 0 (a := 0) (b := 0) (by decide +kernel)) (iv_c 0 (a := 0) (b := 0) (by decide +kernel)) (by decide +kernel)) (iv_c 0 (a := 0) (b := 0) (by decide +kernel)) (by decide +kernel)) (by decide +kernel)
                    have xf23 : f23.toInt = f17.toInt + 0 := sg_inc (k := 0) ef23 (iv_add (a' := 0) (b' := 0) ef17 (iv_add (a' := 0) (b' := 0) ef11 (iv_add (a' := 0) (b' := 0) ef5 (iv_c 0 (a := 0) (b := 0) (by decide +kernel)) (iv_c 0 (a := 0) (b := 0) (by decide +kernel)) (by decide +kernel)) (iv_c 0 (a := 0) (b := 0) (by decide +kernel)) (by decide +kernel)) (iv_c 0 (a := 0) (b := 0) (by decide +kernel)) (by decide +kernel)) (by decide +kernel)
                    exact sg_iretP X hr hlk hS ⟨⟨by omega, by omega⟩, by unfold sg_nb; omega⟩ dX12_bytesIn_34
                  · exact ((iv_no (iv_le (b' := (-8)) (iv_ge_of c25) (iv_c 0 (a := 0) (b := 0) (by decide +kernel)) (iv_add (a' := (-8)) (b' := (-8)) ey24 (iv_add (a' := 0) (b' := 0) ey18 (iv_add (a' := 8) (b' := 8) ey12 (iv_add (a' := 16) (b' := 16) ey6 (iv_c 24 (a := 24) (b := 24) (by decide +kernel)) (iv_c _ (a := (-8)) (b := (-8)) (by decide +kernel)) (by decide +kernel)) (iv_c _ (a := (-8)) (b := (-8)) (by decide +kernel)) (by decide +kernel)) (iv_c _ (a := (-8)) (b := (-8)) (by decide +kernel)) (by decide +kernel)) (iv_c _ (a := (-8)) (b := (-8)) (by decide +kernel)) (by decide +kernel)) (by decide +kernel)) (by decide +kernel))).elim
                · refine lv_iconst (v := 1) X.1 X.2.1 dX12_bytesIn_20 (by decide +kernel) ?_
                  refine lv_goto (tgt := 25) X.1 X.2.1 dX12_bytesIn_21 (by decide) ?_
                  refine lv_iadd X.1 X.2.1 dX12_bytesIn_25 ?_
                  refine lv_topi (fun f27 ef27 => ?_)
                  refine lv_istore_n (lv' := [(1, .int f27), (2, .int y18), (0, .int x0)]) X.1 X.2.1 dX12_bytesIn_26 rfl hl (by decide) rfl (fun ls hl => ?_)
                  obtain ⟨y28, ey28⟩ : ∃ y : Int32, y = y18 + Int32.ofInt (-8) := ⟨_, rfl⟩
                  refine lv_iinc (v := y28) (lv' := [(2, .int y28), (1, .int f27), (0, .int x0)]) X.1 X.2.1 dX12_bytesIn_27 hl (k := 1) rfl ey28.symm (by decide) rfl (fun ls hl => ?_)
                  refine lv_goto (tgt := 5) X.1 X.2.1 dX12_bytesIn_30 (by decide) ?_
                  refine lv_iload_n X.1 X.2.1 dX12_bytesIn_5 rfl (lv_at hl 0 rfl) ?_
                  refine lv_if_lt (tgt := 33) X.1 X.2.1 dX12_bytesIn_6 (by decide) (fun c29 => ?_) (fun c29 => ?_)
                  · refine lv_iload_n X.1 X.2.1 dX12_bytesIn_33 rfl (lv_at hl 1 rfl) ?_
                    have nb24 := sg_nbp ef2 ef3 (sg_kc (24) (iv_c 24 (a := 24) (b := 24) (by decide +kernel)) (by decide +kernel)) c4
                    have nb16 := sg_nbp ef8 ef9 (sg_kc (16) (iv_add (a' := 16) (b' := 16) ey6 (iv_c 24 (a := 24) (b := 24) (by decide +kernel)) (iv_c _ (a := (-8)) (b := (-8)) (by decide +kernel)) (by decide +kernel)) (by decide +kernel)) c10
                    have nb8 := sg_nbp ef14 ef15 (sg_kc (8) (iv_add (a' := 8) (b' := 8) ey12 (iv_add (a' := 16) (b' := 16) ey6 (iv_c 24 (a := 24) (b := 24) (by decide +kernel)) (iv_c _ (a := (-8)) (b := (-8)) (by decide +kernel)) (by decide +kernel)) (iv_c _ (a := (-8)) (b := (-8)) (by decide +kernel)) (by decide +kernel)) (by decide +kernel)) c16
                    have nb0 := sg_nbq ef20 ef21 (sg_kc (0) (iv_add (a' := 0) (b' := 0) ey18 (iv_add (a' := 8) (b' := 8) ey12 (iv_add (a' := 16) (b' := 16) ey6 (iv_c 24 (a := 24) (b := 24) (by decide +kernel)) (iv_c _ (a := (-8)) (b := (-8)) (by decide +kernel)) (by decide +kernel)) (iv_c _ (a := (-8)) (b := (-8)) (by decide +kernel)) (by decide +kernel)) (iv_c _ (a := (-8)) (b := (-8)) (by decide +kernel)) (by decide +kernel)) (by decide +kernel)) c22
                    have cq30 : (0 : Int32).toInt = 0 := by decide +kernel
                    have xf5 : f5.toInt = (0 : Int32).toInt + 0 := sg_inc (k := 0) ef5 (iv_c 0 (a := 0) (b := 0) (by decide +kernel)) (by decide +kernel)
                    have xf11 : f11.toInt = f5.toInt + 0 := sg_inc (k := 0) ef11 (iv_add (a' := 0) (b' := 0) ef5 (iv_c 0 (a := 0) (b := 0) (by decide +kernel)) (iv_c 0 (a := 0) (b := 0) (by decide +kernel)) (by decide +kernel)) (by decide +kernel)
                    have xf17 : f17.toInt = f11.toInt + 0 := sg_inc (k := 0) ef17 (iv_add (a' := 0) (b' := 0) ef11 (iv_add (a' := 0) (b' := 0) ef5 (iv_c 0 (a := 0) (b := 0) (by decide +kernel)) (iv_c 0 (a := 0) (b := 0) (by decide +kernel)) (by decide +kernel)) (iv_c 0 (a := 0) (b := 0) (by decide +kernel)) (by decide +kernel)) (by decide +kernel)
                    have xf27 : f27.toInt = f17.toInt + 1 := sg_inc (k := 1) ef27 (iv_add (a' := 0) (b' := 0) ef17 (iv_add (a' := 0) (b' := 0) ef11 (iv_add (a' := 0) (b' := 0) ef5 (iv_c 0 (a := 0) (b := 0) (by decide +kernel)) (iv_c 0 (a := 0) (b := 0) (by decide +kernel)) (by decide +kernel)) (iv_c 0 (a := 0) (b := 0) (by decide +kernel)) (by decide +kernel)) (iv_c 0 (a := 0) (b := 0) (by decide +kernel)) (by decide +kernel)) (by decide +kernel)
                    exact sg_iretP X hr hlk hS ⟨⟨by omega, by omega⟩, by unfold sg_nb; omega⟩ dX12_bytesIn_34
                  · exact ((iv_no (iv_le (b' := (-8)) (iv_ge_of c29) (iv_c 0 (a := 0) (b := 0) (by decide +kernel)) (iv_add (a' := (-8)) (b' := (-8)) ey28 (iv_add (a' := 0) (b' := 0) ey18 (iv_add (a' := 8) (b' := 8) ey12 (iv_add (a' := 16) (b' := 16) ey6 (iv_c 24 (a := 24) (b := 24) (by decide +kernel)) (iv_c _ (a := (-8)) (b := (-8)) (by decide +kernel)) (by decide +kernel)) (iv_c _ (a := (-8)) (b := (-8)) (by decide +kernel)) (by decide +kernel)) (iv_c _ (a := (-8)) (b := (-8)) (by decide +kernel)) (by decide +kernel)) (iv_c _ (a := (-8)) (b := (-8)) (by decide +kernel)) (by decide +kernel)) (by decide +kernel)) (by decide +kernel))).elim
            · refine lv_iconst (v := 1) X.1 X.2.1 dX12_bytesIn_20 (by decide +kernel) ?_
              refine lv_goto (tgt := 25) X.1 X.2.1 dX12_bytesIn_21 (by decide) ?_
              refine lv_iadd X.1 X.2.1 dX12_bytesIn_25 ?_
              refine lv_topi (fun f31 ef31 => ?_)
              refine lv_istore_n (lv' := [(1, .int f31), (2, .int y12), (0, .int x0)]) X.1 X.2.1 dX12_bytesIn_26 rfl hl (by decide) rfl (fun ls hl => ?_)
              obtain ⟨y32, ey32⟩ : ∃ y : Int32, y = y12 + Int32.ofInt (-8) := ⟨_, rfl⟩
              refine lv_iinc (v := y32) (lv' := [(2, .int y32), (1, .int f31), (0, .int x0)]) X.1 X.2.1 dX12_bytesIn_27 hl (k := 1) rfl ey32.symm (by decide) rfl (fun ls hl => ?_)
              refine lv_goto (tgt := 5) X.1 X.2.1 dX12_bytesIn_30 (by decide) ?_
              refine lv_iload_n X.1 X.2.1 dX12_bytesIn_5 rfl (lv_at hl 0 rfl) ?_
              refine lv_if_lt (tgt := 33) X.1 X.2.1 dX12_bytesIn_6 (by decide) (fun c33 => ?_) (fun c33 => ?_)
              · exact ((iv_no (iv_lt (b' := (-1)) c33 (iv_add (a' := 0) (b' := 0) ey32 (iv_add (a' := 8) (b' := 8) ey12 (iv_add (a' := 16) (b' := 16) ey6 (iv_c 24 (a := 24) (b := 24) (by decide +kernel)) (iv_c _ (a := (-8)) (b := (-8)) (by decide +kernel)) (by decide +kernel)) (iv_c _ (a := (-8)) (b := (-8)) (by decide +kernel)) (by decide +kernel)) (iv_c _ (a := (-8)) (b := (-8)) (by decide +kernel)) (by decide +kernel)) (iv_c 0 (a := 0) (b := 0) (by decide +kernel)) (by decide +kernel)) (by decide +kernel))).elim
              · refine lv_iload_n X.1 X.2.1 dX12_bytesIn_9 rfl (lv_at hl 1 rfl) ?_
                refine lv_iload_n X.1 X.2.1 dX12_bytesIn_10 rfl (lv_at hl 2 rfl) ?_
                refine lv_iload_n X.1 X.2.1 dX12_bytesIn_11 rfl (lv_at hl 0 rfl) ?_
                refine lv_ishr X.1 X.2.1 dX12_bytesIn_12 ?_
                refine lv_topi (fun f34 ef34 => ?_)
                refine lv_sipush (v := 255) X.1 X.2.1 dX12_bytesIn_13 (by decide +kernel) ?_
                refine lv_iand X.1 X.2.1 dX12_bytesIn_16 ?_
                refine lv_topi (fun f35 ef35 => ?_)
                refine lv_if_eq (tgt := 24) X.1 X.2.1 dX12_bytesIn_17 (by decide) (fun c36 => ?_) (fun c36 => ?_)
                · refine lv_iconst (v := 0) X.1 X.2.1 dX12_bytesIn_24 (by decide +kernel) ?_
                  refine lv_iadd X.1 X.2.1 dX12_bytesIn_25 ?_
                  refine lv_topi (fun f37 ef37 => ?_)
                  refine lv_istore_n (lv' := [(1, .int f37), (2, .int y32), (0, .int x0)]) X.1 X.2.1 dX12_bytesIn_26 rfl hl (by decide) rfl (fun ls hl => ?_)
                  obtain ⟨y38, ey38⟩ : ∃ y : Int32, y = y32 + Int32.ofInt (-8) := ⟨_, rfl⟩
                  refine lv_iinc (v := y38) (lv' := [(2, .int y38), (1, .int f37), (0, .int x0)]) X.1 X.2.1 dX12_bytesIn_27 hl (k := 1) rfl ey38.symm (by decide) rfl (fun ls hl => ?_)
                  refine lv_goto (tgt := 5) X.1 X.2.1 dX12_bytesIn_30 (by decide) ?_
                  refine lv_iload_n X.1 X.2.1 dX12_bytesIn_5 rfl (lv_at hl 0 rfl) ?_
                  refine lv_if_lt (tgt := 33) X.1 X.2.1 dX12_bytesIn_6 (by decide) (fun c39 => ?_) (fun c39 => ?_)
                  · refine lv_iload_n X.1 X.2.1 dX12_bytesIn_33 rfl (lv_at hl 1 rfl) ?_
                    have nb24 := sg_nbp ef2 ef3 (sg_kc (24) (iv_c 24 (a := 24) (b := 24) (by decide +kernel)) (by decide +kernel)) c4
                    have nb16 := sg_nbp ef8 ef9 (sg_kc (16) (iv_add (a' := 16) (b' := 16) ey6 (iv_c 24 (a := 24) (b := 24) (by decide +kernel)) (iv_c _ (a := (-8)) (b := (-8)) (by decide +kernel)) (by decide +kernel)) (by decide +kernel)) c10
                    have nb8 := sg_nbq ef14 ef15 (sg_kc (8) (iv_add (a' := 8) (b' := 8) ey12 (iv_add (a' := 16) (b' := 16) ey6 (iv_c 24 (a := 24) (b := 24) (by decide +kernel)) (iv_c _ (a := (-8)) (b := (-8)) (by decide +kernel)) (by decide +kernel)) (iv_c _ (a := (-8)) (b := (-8)) (by decide +kernel)) (by decide +kernel)) (by decide +kernel)) c16
                    have nb0 := sg_nbp ef34 ef35 (sg_kc (0) (iv_add (a' := 0) (b' := 0) ey32 (iv_add (a' := 8) (b' := 8) ey12 (iv_add (a' := 16) (b' := 16) ey6 (iv_c 24 (a := 24) (b := 24) (by decide +kernel)) (iv_c _ (a := (-8)) (b := (-8)) (by decide +kernel)) (by decide +kernel)) (iv_c _ (a := (-8)) (b := (-8)) (by decide +kernel)) (by decide +kernel)) (iv_c _ (a := (-8)) (b := (-8)) (by decide +kernel)) (by decide +kernel)) (by decide +kernel)) c36
                    have cq40 : (0 : Int32).toInt = 0 := by decide +kernel
                    have xf5 : f5.toInt = (0 : Int32).toInt + 0 := sg_inc (k := 0) ef5 (iv_c 0 (a := 0) (b := 0) (by decide +kernel)) (by decide +kernel)
                    have xf11 : f11.toInt = f5.toInt + 0 := sg_inc (k := 0) ef11 (iv_add (a' := 0) (b' := 0) ef5 (iv_c 0 (a := 0) (b := 0) (by decide +kernel)) (iv_c 0 (a := 0) (b := 0) (by decide +kernel)) (by decide +kernel)) (by decide +kernel)
                    have xf31 : f31.toInt = f11.toInt + 1 := sg_inc (k := 1) ef31 (iv_add (a' := 0) (b' := 0) ef11 (iv_add (a' := 0) (b' := 0) ef5 (iv_c 0 (a := 0) (b := 0) (by decide +kernel)) (iv_c 0 (a := 0) (b := 0) (by decide +kernel)) (by decide +kernel)) (iv_c 0 (a := 0) (b := 0) (by decide +kernel)) (by decide +kernel)) (by decide +kernel)
                    have xf37 : f37.toInt = f31.toInt + 0 := sg_inc (k := 0) ef37 (iv_add (a' := 1) (b' := 1) ef31 (iv_add (a' := 0) (b' := 0) ef11 (iv_add (a' := 0) (b' := 0) ef5 (iv_c 0 (a := 0) (b := 0) (by decide +kernel)) (iv_c 0 (a := 0) (b := 0) (by decide +kernel)) (by decide +kernel)) (iv_c 0 (a := 0) (b := 0) (by decide +kernel)) (by decide +kernel)) (iv_c 1 (a := 1) (b := 1) (by decide +kernel)) (by decide +kernel)) (by decide +kernel)
                    exact sg_iretP X hr hlk hS ⟨⟨by omega, by omega⟩, by unfold sg_nb; omega⟩ dX12_bytesIn_34
                  · exact ((iv_no (iv_le (b' := (-8)) (iv_ge_of c39) (iv_c 0 (a := 0) (b := 0) (by decide +kernel)) (iv_add (a' := (-8)) (b' := (-8)) ey38 (iv_add (a' := 0) (b' := 0) ey32 (iv_add (a' := 8) (b' := 8) ey12 (iv_add (a' := 16) (b' := 16) ey6 (iv_c 24 (a := 24) (b := 24) (by decide +kernel)) (iv_c _ (a := (-8)) (b := (-8)) (by decide +kernel)) (by decide +kernel)) (iv_c _ (a := (-8)) (b := (-8)) (by decide +kernel)) (by decide +kernel)) (iv_c _ (a := (-8)) (b := (-8)) (by decide +kernel)) (by decide +kernel)) (iv_c _ (a := (-8)) (b := (-8)) (by decide +kernel)) (by decide +kernel)) (by decide +kernel)) (by decide +kernel))).elim
                · refine lv_iconst (v := 1) X.1 X.2.1 dX12_bytesIn_20 (by decide +kernel) ?_
                  refine lv_goto (tgt := 25) X.1 X.2.1 dX12_bytesIn_21 (by decide) ?_
                  refine lv_iadd X.1 X.2.1 dX12_bytesIn_25 ?_
                  refine lv_topi (fun f41 ef41 => ?_)
                  refine lv_istore_n (lv' := [(1, .int f41), (2, .int y32), (0, .int x0)]) X.1 X.2.1 dX12_bytesIn_26 rfl hl (by decide) rfl (fun ls hl => ?_)
                  obtain ⟨y42, ey42⟩ : ∃ y : Int32, y = y32 + Int32.ofInt (-8) := ⟨_, rfl⟩
                  refine lv_iinc (v := y42) (lv' := [(2, .int y42), (1, .int f41), (0, .int x0)]) X.1 X.2.1 dX12_bytesIn_27 hl (k := 1) rfl ey42.symm (by decide) rfl (fun ls hl => ?_)
                  refine lv_goto (tgt := 5) X.1 X.2.1 dX12_bytesIn_30 (by decide) ?_
                  refine lv_iload_n X.1 X.2.1 dX12_bytesIn_5 rfl (lv_at hl 0 rfl) ?_
                  refine lv_if_lt (tgt := 33) X.1 X.2.1 dX12_bytesIn_6 (by decide) (fun c43 => ?_) (fun c43 => ?_)
                  · refine lv_iload_n X.1 X.2.1 dX12_bytesIn_33 rfl (lv_at hl 1 rfl) ?_
                    have nb24 := sg_nbp ef2 ef3 (sg_kc (24) (iv_c 24 (a := 24) (b := 24) (by decide +kernel)) (by decide +kernel)) c4
                    have nb16 := sg_nbp ef8 ef9 (sg_kc (16) (iv_add (a' := 16) (b' := 16) ey6 (iv_c 24 (a := 24) (b := 24) (by decide +kernel)) (iv_c _ (a := (-8)) (b := (-8)) (by decide +kernel)) (by decide +kernel)) (by decide +kernel)) c10
                    have nb8 := sg_nbq ef14 ef15 (sg_kc (8) (iv_add (a' := 8) (b' := 8) ey12 (iv_add (a' := 16) (b' := 16) ey6 (iv_c 24 (a := 24) (b := 24) (by decide +kernel)) (iv_c _ (a := (-8)) (b := (-8)) (by decide +kernel)) (by decide +kernel)) (iv_c _ (a := (-8)) (b := (-8)) (by decide +kernel)) (by decide +kernel)) (by decide +kernel)) c16
                    have nb0 := sg_nbq ef34 ef35 (sg_kc (0) (iv_add (a' := 0) (b' := 0) ey32 (iv_add (a' := 8) (b' := 8) ey12 (iv_add (a' := 16) (b' := 16) ey6 (iv_c 24 (a := 24) (b := 24) (by decide +kernel)) (iv_c _ (a := (-8)) (b := (-8)) (by decide +kernel)) (by decide +kernel)) (iv_c _ (a := (-8)) (b := (-8)) (by decide +kernel)) (by decide +kernel)) (iv_c _ (a := (-8)) (b := (-8)) (by decide +kernel)) (by decide +kernel)) (by decide +kernel)) c36
                    have cq44 : (0 : Int32).toInt = 0 := by decide +kernel
                    have xf5 : f5.toInt = (0 : Int32).toInt + 0 := sg_inc (k := 0) ef5 (iv_c 0 (a := 0) (b := 0) (by decide +kernel)) (by decide +kernel)
                    have xf11 : f11.toInt = f5.toInt + 0 := sg_inc (k := 0) ef11 (iv_add (a' := 0) (b' := 0) ef5 (iv_c 0 (a := 0) (b := 0) (by decide +kernel)) (iv_c 0 (a := 0) (b := 0) (by decide +kernel)) (by decide +kernel)) (by decide +kernel)
                    have xf31 : f31.toInt = f11.toInt + 1 := sg_inc (k := 1) ef31 (iv_add (a' := 0) (b' := 0) ef11 (iv_add (a' := 0) (b' := 0) ef5 (iv_c 0 (a := 0) (b := 0) (by decide +kernel)) (iv_c 0 (a := 0) (b := 0) (by decide +kernel)) (by decide +kernel)) (iv_c 0 (a := 0) (b := 0) (by decide +kernel)) (by decide +kernel)) (by decide +kernel)
                    have xf41 : f41.toInt = f31.toInt + 1 := sg_inc (k := 1) ef41 (iv_add (a' := 1) (b' := 1) ef31 (iv_add (a' := 0) (b' := 0) ef11 (iv_add (a' := 0) (b' := 0) ef5 (iv_c 0 (a := 0) (b := 0) (by decide +kernel)) (iv_c 0 (a := 0) (b := 0) (by decide +kernel)) (by decide +kernel)) (iv_c 0 (a := 0) (b := 0) (by decide +kernel)) (by decide +kernel)) (iv_c 1 (a := 1) (b := 1) (by decide +kernel)) (by decide +kernel)) (by decide +kernel)
                    exact sg_iretP X hr hlk hS ⟨⟨by omega, by omega⟩, by unfold sg_nb; omega⟩ dX12_bytesIn_34
                  · exact ((iv_no (iv_le (b' := (-8)) (iv_ge_of c43) (iv_c 0 (a := 0) (b := 0) (by decide +kernel)) (iv_add (a' := (-8)) (b' := (-8)) ey42 (iv_add (a' := 0) (b' := 0) ey32 (iv_add (a' := 8) (b' := 8) ey12 (iv_add (a' := 16) (b' := 16) ey6 (iv_c 24 (a := 24) (b := 24) (by decide +kernel)) (iv_c _ (a := (-8)) (b := (-8)) (by decide +kernel)) (by decide +kernel)) (iv_c _ (a := (-8)) (b := (-8)) (by decide +kernel)) (by decide +kernel)) (iv_c _ (a := (-8)) (b := (-8)) (by decide +kernel)) (by decide +kernel)) (iv_c _ (a := (-8)) (b := (-8)) (by decide +kernel)) (by decide +kernel)) (by decide +kernel)) (by decide +kernel))).elim
        · refine lv_iconst (v := 1) X.1 X.2.1 dX12_bytesIn_20 (by decide +kernel) ?_
          refine lv_goto (tgt := 25) X.1 X.2.1 dX12_bytesIn_21 (by decide) ?_
          refine lv_iadd X.1 X.2.1 dX12_bytesIn_25 ?_
          refine lv_topi (fun f45 ef45 => ?_)
          refine lv_istore_n (lv' := [(1, .int f45), (2, .int y6), (0, .int x0)]) X.1 X.2.1 dX12_bytesIn_26 rfl hl (by decide) rfl (fun ls hl => ?_)
          obtain ⟨y46, ey46⟩ : ∃ y : Int32, y = y6 + Int32.ofInt (-8) := ⟨_, rfl⟩
          refine lv_iinc (v := y46) (lv' := [(2, .int y46), (1, .int f45), (0, .int x0)]) X.1 X.2.1 dX12_bytesIn_27 hl (k := 1) rfl ey46.symm (by decide) rfl (fun ls hl => ?_)
          refine lv_goto (tgt := 5) X.1 X.2.1 dX12_bytesIn_30 (by decide) ?_
          refine lv_iload_n X.1 X.2.1 dX12_bytesIn_5 rfl (lv_at hl 0 rfl) ?_
          refine lv_if_lt (tgt := 33) X.1 X.2.1 dX12_bytesIn_6 (by decide) (fun c47 => ?_) (fun c47 => ?_)
          · exact ((iv_no (iv_lt (b' := (-1)) c47 (iv_add (a' := 8) (b' := 8) ey46 (iv_add (a' := 16) (b' := 16) ey6 (iv_c 24 (a := 24) (b := 24) (by decide +kernel)) (iv_c _ (a := (-8)) (b := (-8)) (by decide +kernel)) (by decide +kernel)) (iv_c _ (a := (-8)) (b := (-8)) (by decide +kernel)) (by decide +kernel)) (iv_c 0 (a := 0) (b := 0) (by decide +kernel)) (by decide +kernel)) (by decide +kernel))).elim
          · refine lv_iload_n X.1 X.2.1 dX12_bytesIn_9 rfl (lv_at hl 1 rfl) ?_
            refine lv_iload_n X.1 X.2.1 dX12_bytesIn_10 rfl (lv_at hl 2 rfl) ?_
            refine lv_iload_n X.1 X.2.1 dX12_bytesIn_11 rfl (lv_at hl 0 rfl) ?_
            refine lv_ishr X.1 X.2.1 dX12_bytesIn_12 ?_
            refine lv_topi (fun f48 ef48 => ?_)
            refine lv_sipush (v := 255) X.1 X.2.1 dX12_bytesIn_13 (by decide +kernel) ?_
            refine lv_iand X.1 X.2.1 dX12_bytesIn_16 ?_
            refine lv_topi (fun f49 ef49 => ?_)
            refine lv_if_eq (tgt := 24) X.1 X.2.1 dX12_bytesIn_17 (by decide) (fun c50 => ?_) (fun c50 => ?_)
            · refine lv_iconst (v := 0) X.1 X.2.1 dX12_bytesIn_24 (by decide +kernel) ?_
              refine lv_iadd X.1 X.2.1 dX12_bytesIn_25 ?_
              refine lv_topi (fun f51 ef51 => ?_)
              refine lv_istore_n (lv' := [(1, .int f51), (2, .int y46), (0, .int x0)]) X.1 X.2.1 dX12_bytesIn_26 rfl hl (by decide) rfl (fun ls hl => ?_)
              obtain ⟨y52, ey52⟩ : ∃ y : Int32, y = y46 + Int32.ofInt (-8) := ⟨_, rfl⟩
              refine lv_iinc (v := y52) (lv' := [(2, .int y52), (1, .int f51), (0, .int x0)]) X.1 X.2.1 dX12_bytesIn_27 hl (k := 1) rfl ey52.symm (by decide) rfl (fun ls hl => ?_)
              refine lv_goto (tgt := 5) X.1 X.2.1 dX12_bytesIn_30 (by decide) ?_
              refine lv_iload_n X.1 X.2.1 dX12_bytesIn_5 rfl (lv_at hl 0 rfl) ?_
              refine lv_if_lt (tgt := 33) X.1 X.2.1 dX12_bytesIn_6 (by decide) (fun c53 => ?_) (fun c53 => ?_)
              · exact ((iv_no (iv_lt (b' := (-1)) c53 (iv_add (a' := 0) (b' := 0) ey52 (iv_add (a' := 8) (b' := 8) ey46 (iv_add (a' := 16) (b' := 16) ey6 (iv_c 24 (a := 24) (b := 24) (by decide +kernel)) (iv_c _ (a := (-8)) (b := (-8)) (by decide +kernel)) (by decide +kernel)) (iv_c _ (a := (-8)) (b := (-8)) (by decide +kernel)) (by decide +kernel)) (iv_c _ (a := (-8)) (b := (-8)) (by decide +kernel)) (by decide +kernel)) (iv_c 0 (a := 0) (b := 0) (by decide +kernel)) (by decide +kernel)) (by decide +kernel))).elim
              · refine lv_iload_n X.1 X.2.1 dX12_bytesIn_9 rfl (lv_at hl 1 rfl) ?_
                refine lv_iload_n X.1 X.2.1 dX12_bytesIn_10 rfl (lv_at hl 2 rfl) ?_
                refine lv_iload_n X.1 X.2.1 dX12_bytesIn_11 rfl (lv_at hl 0 rfl) ?_
                refine lv_ishr X.1 X.2.1 dX12_bytesIn_12 ?_
                refine lv_topi (fun f54 ef54 => ?_)
                refine lv_sipush (v := 255) X.1 X.2.1 dX12_bytesIn_13 (by decide +kernel) ?_
                refine lv_iand X.1 X.2.1 dX12_bytesIn_16 ?_
                refine lv_topi (fun f55 ef55 => ?_)
                refine lv_if_eq (tgt := 24) X.1 X.2.1 dX12_bytesIn_17 (by decide) (fun c56 => ?_) (fun c56 => ?_)
                · refine lv_iconst (v := 0) X.1 X.2.1 dX12_bytesIn_24 (by decide +kernel) ?_
                  refine lv_iadd X.1 X.2.1 dX12_bytesIn_25 ?_
                  refine lv_topi (fun f57 ef57 => ?_)
                  refine lv_istore_n (lv' := [(1, .int f57), (2, .int y52), (0, .int x0)]) X.1 X.2.1 dX12_bytesIn_26 rfl hl (by decide) rfl (fun ls hl => ?_)
                  obtain ⟨y58, ey58⟩ : ∃ y : Int32, y = y52 + Int32.ofInt (-8) := ⟨_, rfl⟩
                  refine lv_iinc (v := y58) (lv' := [(2, .int y58), (1, .int f57), (0, .int x0)]) X.1 X.2.1 dX12_bytesIn_27 hl (k := 1) rfl ey58.symm (by decide) rfl (fun ls hl => ?_)
                  refine lv_goto (tgt := 5) X.1 X.2.1 dX12_bytesIn_30 (by decide) ?_
                  refine lv_iload_n X.1 X.2.1 dX12_bytesIn_5 rfl (lv_at hl 0 rfl) ?_
                  refine lv_if_lt (tgt := 33) X.1 X.2.1 dX12_bytesIn_6 (by decide) (fun c59 => ?_) (fun c59 => ?_)
                  · refine lv_iload_n X.1 X.2.1 dX12_bytesIn_33 rfl (lv_at hl 1 rfl) ?_
                    have nb24 := sg_nbp ef2 ef3 (sg_kc (24) (iv_c 24 (a := 24) (b := 24) (by decide +kernel)) (by decide +kernel)) c4
                    have nb16 := sg_nbq ef8 ef9 (sg_kc (16) (iv_add (a' := 16) (b' := 16) ey6 (iv_c 24 (a := 24) (b := 24) (by decide +kernel)) (iv_c _ (a := (-8)) (b := (-8)) (by decide +kernel)) (by decide +kernel)) (by decide +kernel)) c10
                    have nb8 := sg_nbp ef48 ef49 (sg_kc (8) (iv_add (a' := 8) (b' := 8) ey46 (iv_add (a' := 16) (b' := 16) ey6 (iv_c 24 (a := 24) (b := 24) (by decide +kernel)) (iv_c _ (a := (-8)) (b := (-8)) (by decide +kernel)) (by decide +kernel)) (iv_c _ (a := (-8)) (b := (-8)) (by decide +kernel)) (by decide +kernel)) (by decide +kernel)) c50
                    have nb0 := sg_nbp ef54 ef55 (sg_kc (0) (iv_add (a' := 0) (b' := 0) ey52 (iv_add (a' := 8) (b' := 8) ey46 (iv_add (a' := 16) (b' := 16) ey6 (iv_c 24 (a := 24) (b := 24) (by decide +kernel)) (iv_c _ (a := (-8)) (b := (-8)) (by decide +kernel)) (by decide +kernel)) (iv_c _ (a := (-8)) (b := (-8)) (by decide +kernel)) (by decide +kernel)) (iv_c _ (a := (-8)) (b := (-8)) (by decide +kernel)) (by decide +kernel)) (by decide +kernel)) c56
                    have cq60 : (0 : Int32).toInt = 0 := by decide +kernel
                    have xf5 : f5.toInt = (0 : Int32).toInt + 0 := sg_inc (k := 0) ef5 (iv_c 0 (a := 0) (b := 0) (by decide +kernel)) (by decide +kernel)
                    have xf45 : f45.toInt = f5.toInt + 1 := sg_inc (k := 1) ef45 (iv_add (a' := 0) (b' := 0) ef5 (iv_c 0 (a := 0) (b := 0) (by decide +kernel)) (iv_c 0 (a := 0) (b := 0) (by decide +kernel)) (by decide +kernel)) (by decide +kernel)
                    have xf51 : f51.toInt = f45.toInt + 0 := sg_inc (k := 0) ef51 (iv_add (a' := 1) (b' := 1) ef45 (iv_add (a' := 0) (b' := 0) ef5 (iv_c 0 (a := 0) (b := 0) (by decide +kernel)) (iv_c 0 (a := 0) (b := 0) (by decide +kernel)) (by decide +kernel)) (iv_c 1 (a := 1) (b := 1) (by decide +kernel)) (by decide +kernel)) (by decide +kernel)
                    have xf57 : f57.toInt = f51.toInt + 0 := sg_inc (k := 0) ef57 (iv_add (a' := 1) (b' := 1) ef51 (iv_add (a' := 1) (b' := 1) ef45 (iv_add (a' := 0) (b' := 0) ef5 (iv_c 0 (a := 0) (b := 0) (by decide +kernel)) (iv_c 0 (a := 0) (b := 0) (by decide +kernel)) (by decide +kernel)) (iv_c 1 (a := 1) (b := 1) (by decide +kernel)) (by decide +kernel)) (iv_c 0 (a := 0) (b := 0) (by decide +kernel)) (by decide +kernel)) (by decide +kernel)
                    exact sg_iretP X hr hlk hS ⟨⟨by omega, by omega⟩, by unfold sg_nb; omega⟩ dX12_bytesIn_34
                  · exact ((iv_no (iv_le (b' := (-8)) (iv_ge_of c59) (iv_c 0 (a := 0) (b := 0) (by decide +kernel)) (iv_add (a' := (-8)) (b' := (-8)) ey58 (iv_add (a' := 0) (b' := 0) ey52 (iv_add (a' := 8) (b' := 8) ey46 (iv_add (a' := 16) (b' := 16) ey6 (iv_c 24 (a := 24) (b := 24) (by decide +kernel)) (iv_c _ (a := (-8)) (b := (-8)) (by decide +kernel)) (by decide +kernel)) (iv_c _ (a := (-8)) (b := (-8)) (by decide +kernel)) (by decide +kernel)) (iv_c _ (a := (-8)) (b := (-8)) (by decide +kernel)) (by decide +kernel)) (iv_c _ (a := (-8)) (b := (-8)) (by decide +kernel)) (by decide +kernel)) (by decide +kernel)) (by decide +kernel))).elim
                · refine lv_iconst (v := 1) X.1 X.2.1 dX12_bytesIn_20 (by decide +kernel) ?_
                  refine lv_goto (tgt := 25) X.1 X.2.1 dX12_bytesIn_21 (by decide) ?_
                  refine lv_iadd X.1 X.2.1 dX12_bytesIn_25 ?_
                  refine lv_topi (fun f61 ef61 => ?_)
                  refine lv_istore_n (lv' := [(1, .int f61), (2, .int y52), (0, .int x0)]) X.1 X.2.1 dX12_bytesIn_26 rfl hl (by decide) rfl (fun ls hl => ?_)
                  obtain ⟨y62, ey62⟩ : ∃ y : Int32, y = y52 + Int32.ofInt (-8) := ⟨_, rfl⟩
                  refine lv_iinc (v := y62) (lv' := [(2, .int y62), (1, .int f61), (0, .int x0)]) X.1 X.2.1 dX12_bytesIn_27 hl (k := 1) rfl ey62.symm (by decide) rfl (fun ls hl => ?_)
                  refine lv_goto (tgt := 5) X.1 X.2.1 dX12_bytesIn_30 (by decide) ?_
                  refine lv_iload_n X.1 X.2.1 dX12_bytesIn_5 rfl (lv_at hl 0 rfl) ?_
                  refine lv_if_lt (tgt := 33) X.1 X.2.1 dX12_bytesIn_6 (by decide) (fun c63 => ?_) (fun c63 => ?_)
                  · refine lv_iload_n X.1 X.2.1 dX12_bytesIn_33 rfl (lv_at hl 1 rfl) ?_
                    have nb24 := sg_nbp ef2 ef3 (sg_kc (24) (iv_c 24 (a := 24) (b := 24) (by decide +kernel)) (by decide +kernel)) c4
                    have nb16 := sg_nbq ef8 ef9 (sg_kc (16) (iv_add (a' := 16) (b' := 16) ey6 (iv_c 24 (a := 24) (b := 24) (by decide +kernel)) (iv_c _ (a := (-8)) (b := (-8)) (by decide +kernel)) (by decide +kernel)) (by decide +kernel)) c10
                    have nb8 := sg_nbp ef48 ef49 (sg_kc (8) (iv_add (a' := 8) (b' := 8) ey46 (iv_add (a' := 16) (b' := 16) ey6 (iv_c 24 (a := 24) (b := 24) (by decide +kernel)) (iv_c _ (a := (-8)) (b := (-8)) (by decide +kernel)) (by decide +kernel)) (iv_c _ (a := (-8)) (b := (-8)) (by decide +kernel)) (by decide +kernel)) (by decide +kernel)) c50
                    have nb0 := sg_nbq ef54 ef55 (sg_kc (0) (iv_add (a' := 0) (b' := 0) ey52 (iv_add (a' := 8) (b' := 8) ey46 (iv_add (a' := 16) (b' := 16) ey6 (iv_c 24 (a := 24) (b := 24) (by decide +kernel)) (iv_c _ (a := (-8)) (b := (-8)) (by decide +kernel)) (by decide +kernel)) (iv_c _ (a := (-8)) (b := (-8)) (by decide +kernel)) (by decide +kernel)) (iv_c _ (a := (-8)) (b := (-8)) (by decide +kernel)) (by decide +kernel)) (by decide +kernel)) c56
                    have cq64 : (0 : Int32).toInt = 0 := by decide +kernel
                    have xf5 : f5.toInt = (0 : Int32).toInt + 0 := sg_inc (k := 0) ef5 (iv_c 0 (a := 0) (b := 0) (by decide +kernel)) (by decide +kernel)
                    have xf45 : f45.toInt = f5.toInt + 1 := sg_inc (k := 1) ef45 (iv_add (a' := 0) (b' := 0) ef5 (iv_c 0 (a := 0) (b := 0) (by decide +kernel)) (iv_c 0 (a := 0) (b := 0) (by decide +kernel)) (by decide +kernel)) (by decide +kernel)
                    have xf51 : f51.toInt = f45.toInt + 0 := sg_inc (k := 0) ef51 (iv_add (a' := 1) (b' := 1) ef45 (iv_add (a' := 0) (b' := 0) ef5 (iv_c 0 (a := 0) (b := 0) (by decide +kernel)) (iv_c 0 (a := 0) (b := 0) (by decide +kernel)) (by decide +kernel)) (iv_c 1 (a := 1) (b := 1) (by decide +kernel)) (by decide +kernel)) (by decide +kernel)
                    have xf61 : f61.toInt = f51.toInt + 1 := sg_inc (k := 1) ef61 (iv_add (a' := 1) (b' := 1) ef51 (iv_add (a' := 1) (b' := 1) ef45 (iv_add (a' := 0) (b' := 0) ef5 (iv_c 0 (a := 0) (b := 0) (by decide +kernel)) (iv_c 0 (a := 0) (b := 0) (by decide +kernel)) (by decide +kernel)) (iv_c 1 (a := 1) (b := 1) (by decide +kernel)) (by decide +kernel)) (iv_c 0 (a := 0) (b := 0) (by decide +kernel)) (by decide +kernel)) (by decide +kernel)
                    exact sg_iretP X hr hlk hS ⟨⟨by omega, by omega⟩, by unfold sg_nb; omega⟩ dX12_bytesIn_34
                  · exact ((iv_no (iv_le (b' := (-8)) (iv_ge_of c63) (iv_c 0 (a := 0) (b := 0) (by decide +kernel)) (iv_add (a' := (-8)) (b' := (-8)) ey62 (iv_add (a' := 0) (b' := 0) ey52 (iv_add (a' := 8) (b' := 8) ey46 (iv_add (a' := 16) (b' := 16) ey6 (iv_c 24 (a := 24) (b := 24) (by decide +kernel)) (iv_c _ (a := (-8)) (b := (-8)) (by decide +kernel)) (by decide +kernel)) (iv_c _ (a := (-8)) (b := (-8)) (by decide +kernel)) (by decide +kernel)) (iv_c _ (a := (-8)) (b := (-8)) (by decide +kernel)) (by decide +kernel)) (iv_c _ (a := (-8)) (b := (-8)) (by decide +kernel)) (by decide +kernel)) (by decide +kernel)) (by decide +kernel))).elim
            · refine lv_iconst (v := 1) X.1 X.2.1 dX12_bytesIn_20 (by decide +kernel) ?_
              refine lv_goto (tgt := 25) X.1 X.2.1 dX12_bytesIn_21 (by decide) ?_
              refine lv_iadd X.1 X.2.1 dX12_bytesIn_25 ?_
              refine lv_topi (fun f65 ef65 => ?_)
              refine lv_istore_n (lv' := [(1, .int f65), (2, .int y46), (0, .int x0)]) X.1 X.2.1 dX12_bytesIn_26 rfl hl (by decide) rfl (fun ls hl => ?_)
              obtain ⟨y66, ey66⟩ : ∃ y : Int32, y = y46 + Int32.ofInt (-8) := ⟨_, rfl⟩
              refine lv_iinc (v := y66) (lv' := [(2, .int y66), (1, .int f65), (0, .int x0)]) X.1 X.2.1 dX12_bytesIn_27 hl (k := 1) rfl ey66.symm (by decide) rfl (fun ls hl => ?_)
              refine lv_goto (tgt := 5) X.1 X.2.1 dX12_bytesIn_30 (by decide) ?_
              refine lv_iload_n X.1 X.2.1 dX12_bytesIn_5 rfl (lv_at hl 0 rfl) ?_
              refine lv_if_lt (tgt := 33) X.1 X.2.1 dX12_bytesIn_6 (by decide) (fun c67 => ?_) (fun c67 => ?_)
              · exact ((iv_no (iv_lt (b' := (-1)) c67 (iv_add (a' := 0) (b' := 0) ey66 (iv_add (a' := 8) (b' := 8) ey46 (iv_add (a' := 16) (b' := 16) ey6 (iv_c 24 (a := 24) (b := 24) (by decide +kernel)) (iv_c _ (a := (-8)) (b := (-8)) (by decide +kernel)) (by decide +kernel)) (iv_c _ (a := (-8)) (b := (-8)) (by decide +kernel)) (by decide +kernel)) (iv_c _ (a := (-8)) (b := (-8)) (by decide +kernel)) (by decide +kernel)) (iv_c 0 (a := 0) (b := 0) (by decide +kernel)) (by decide +kernel)) (by decide +kernel))).elim
              · refine lv_iload_n X.1 X.2.1 dX12_bytesIn_9 rfl (lv_at hl 1 rfl) ?_
                refine lv_iload_n X.1 X.2.1 dX12_bytesIn_10 rfl (lv_at hl 2 rfl) ?_
                refine lv_iload_n X.1 X.2.1 dX12_bytesIn_11 rfl (lv_at hl 0 rfl) ?_
                refine lv_ishr X.1 X.2.1 dX12_bytesIn_12 ?_
                refine lv_topi (fun f68 ef68 => ?_)
                refine lv_sipush (v := 255) X.1 X.2.1 dX12_bytesIn_13 (by decide +kernel) ?_
                refine lv_iand X.1 X.2.1 dX12_bytesIn_16 ?_
                refine lv_topi (fun f69 ef69 => ?_)
                refine lv_if_eq (tgt := 24) X.1 X.2.1 dX12_bytesIn_17 (by decide) (fun c70 => ?_) (fun c70 => ?_)
                · refine lv_iconst (v := 0) X.1 X.2.1 dX12_bytesIn_24 (by decide +kernel) ?_
                  refine lv_iadd X.1 X.2.1 dX12_bytesIn_25 ?_
                  refine lv_topi (fun f71 ef71 => ?_)
                  refine lv_istore_n (lv' := [(1, .int f71), (2, .int y66), (0, .int x0)]) X.1 X.2.1 dX12_bytesIn_26 rfl hl (by decide) rfl (fun ls hl => ?_)
                  obtain ⟨y72, ey72⟩ : ∃ y : Int32, y = y66 + Int32.ofInt (-8) := ⟨_, rfl⟩
                  refine lv_iinc (v := y72) (lv' := [(2, .int y72), (1, .int f71), (0, .int x0)]) X.1 X.2.1 dX12_bytesIn_27 hl (k := 1) rfl ey72.symm (by decide) rfl (fun ls hl => ?_)
                  refine lv_goto (tgt := 5) X.1 X.2.1 dX12_bytesIn_30 (by decide) ?_
                  refine lv_iload_n X.1 X.2.1 dX12_bytesIn_5 rfl (lv_at hl 0 rfl) ?_
                  refine lv_if_lt (tgt := 33) X.1 X.2.1 dX12_bytesIn_6 (by decide) (fun c73 => ?_) (fun c73 => ?_)
                  · refine lv_iload_n X.1 X.2.1 dX12_bytesIn_33 rfl (lv_at hl 1 rfl) ?_
                    have nb24 := sg_nbp ef2 ef3 (sg_kc (24) (iv_c 24 (a := 24) (b := 24) (by decide +kernel)) (by decide +kernel)) c4
                    have nb16 := sg_nbq ef8 ef9 (sg_kc (16) (iv_add (a' := 16) (b' := 16) ey6 (iv_c 24 (a := 24) (b := 24) (by decide +kernel)) (iv_c _ (a := (-8)) (b := (-8)) (by decide +kernel)) (by decide +kernel)) (by decide +kernel)) c10
                    have nb8 := sg_nbq ef48 ef49 (sg_kc (8) (iv_add (a' := 8) (b' := 8) ey46 (iv_add (a' := 16) (b' := 16) ey6 (iv_c 24 (a := 24) (b := 24) (by decide +kernel)) (iv_c _ (a := (-8)) (b := (-8)) (by decide +kernel)) (by decide +kernel)) (iv_c _ (a := (-8)) (b := (-8)) (by decide +kernel)) (by decide +kernel)) (by decide +kernel)) c50
                    have nb0 := sg_nbp ef68 ef69 (sg_kc (0) (iv_add (a' := 0) (b' := 0) ey66 (iv_add (a' := 8) (b' := 8) ey46 (iv_add (a' := 16) (b' := 16) ey6 (iv_c 24 (a := 24) (b := 24) (by decide +kernel)) (iv_c _ (a := (-8)) (b := (-8)) (by decide +kernel)) (by decide +kernel)) (iv_c _ (a := (-8)) (b := (-8)) (by decide +kernel)) (by decide +kernel)) (iv_c _ (a := (-8)) (b := (-8)) (by decide +kernel)) (by decide +kernel)) (by decide +kernel)) c70
                    have cq74 : (0 : Int32).toInt = 0 := by decide +kernel
                    have xf5 : f5.toInt = (0 : Int32).toInt + 0 := sg_inc (k := 0) ef5 (iv_c 0 (a := 0) (b := 0) (by decide +kernel)) (by decide +kernel)
                    have xf45 : f45.toInt = f5.toInt + 1 := sg_inc (k := 1) ef45 (iv_add (a' := 0) (b' := 0) ef5 (iv_c 0 (a := 0) (b := 0) (by decide +kernel)) (iv_c 0 (a := 0) (b := 0) (by decide +kernel)) (by decide +kernel)) (by decide +kernel)
                    have xf65 : f65.toInt = f45.toInt + 1 := sg_inc (k := 1) ef65 (iv_add (a' := 1) (b' := 1) ef45 (iv_add (a' := 0) (b' := 0) ef5 (iv_c 0 (a := 0) (b := 0) (by decide +kernel)) (iv_c 0 (a := 0) (b := 0) (by decide +kernel)) (by decide +kernel)) (iv_c 1 (a := 1) (b := 1) (by decide +kernel)) (by decide +kernel)) (by decide +kernel)
                    have xf71 : f71.toInt = f65.toInt + 0 := sg_inc (k := 0) ef71 (iv_add (a' := 2) (b' := 2) ef65 (iv_add (a' := 1) (b' := 1) ef45 (iv_add (a' := 0) (b' := 0) ef5 (iv_c 0 (a := 0) (b := 0) (by decide +kernel)) (iv_c 0 (a := 0) (b := 0) (by decide +kernel)) (by decide +kernel)) (iv_c 1 (a := 1) (b := 1) (by decide +kernel)) (by decide +kernel)) (iv_c 1 (a := 1) (b := 1) (by decide +kernel)) (by decide +kernel)) (by decide +kernel)
                    exact sg_iretP X hr hlk hS ⟨⟨by omega, by omega⟩, by unfold sg_nb; omega⟩ dX12_bytesIn_34
                  · exact ((iv_no (iv_le (b' := (-8)) (iv_ge_of c73) (iv_c 0 (a := 0) (b := 0) (by decide +kernel)) (iv_add (a' := (-8)) (b' := (-8)) ey72 (iv_add (a' := 0) (b' := 0) ey66 (iv_add (a' := 8) (b' := 8) ey46 (iv_add (a' := 16) (b' := 16) ey6 (iv_c 24 (a := 24) (b := 24) (by decide +kernel)) (iv_c _ (a := (-8)) (b := (-8)) (by decide +kernel)) (by decide +kernel)) (iv_c _ (a := (-8)) (b := (-8)) (by decide +kernel)) (by decide +kernel)) (iv_c _ (a := (-8)) (b := (-8)) (by decide +kernel)) (by decide +kernel)) (iv_c _ (a := (-8)) (b := (-8)) (by decide +kernel)) (by decide +kernel)) (by decide +kernel)) (by decide +kernel))).elim
                · refine lv_iconst (v := 1) X.1 X.2.1 dX12_bytesIn_20 (by decide +kernel) ?_
                  refine lv_goto (tgt := 25) X.1 X.2.1 dX12_bytesIn_21 (by decide) ?_
                  refine lv_iadd X.1 X.2.1 dX12_bytesIn_25 ?_
                  refine lv_topi (fun f75 ef75 => ?_)
                  refine lv_istore_n (lv' := [(1, .int f75), (2, .int y66), (0, .int x0)]) X.1 X.2.1 dX12_bytesIn_26 rfl hl (by decide) rfl (fun ls hl => ?_)
                  obtain ⟨y76, ey76⟩ : ∃ y : Int32, y = y66 + Int32.ofInt (-8) := ⟨_, rfl⟩
                  refine lv_iinc (v := y76) (lv' := [(2, .int y76), (1, .int f75), (0, .int x0)]) X.1 X.2.1 dX12_bytesIn_27 hl (k := 1) rfl ey76.symm (by decide) rfl (fun ls hl => ?_)
                  refine lv_goto (tgt := 5) X.1 X.2.1 dX12_bytesIn_30 (by decide) ?_
                  refine lv_iload_n X.1 X.2.1 dX12_bytesIn_5 rfl (lv_at hl 0 rfl) ?_
                  refine lv_if_lt (tgt := 33) X.1 X.2.1 dX12_bytesIn_6 (by decide) (fun c77 => ?_) (fun c77 => ?_)
                  · refine lv_iload_n X.1 X.2.1 dX12_bytesIn_33 rfl (lv_at hl 1 rfl) ?_
                    have nb24 := sg_nbp ef2 ef3 (sg_kc (24) (iv_c 24 (a := 24) (b := 24) (by decide +kernel)) (by decide +kernel)) c4
                    have nb16 := sg_nbq ef8 ef9 (sg_kc (16) (iv_add (a' := 16) (b' := 16) ey6 (iv_c 24 (a := 24) (b := 24) (by decide +kernel)) (iv_c _ (a := (-8)) (b := (-8)) (by decide +kernel)) (by decide +kernel)) (by decide +kernel)) c10
                    have nb8 := sg_nbq ef48 ef49 (sg_kc (8) (iv_add (a' := 8) (b' := 8) ey46 (iv_add (a' := 16) (b' := 16) ey6 (iv_c 24 (a := 24) (b := 24) (by decide +kernel)) (iv_c _ (a := (-8)) (b := (-8)) (by decide +kernel)) (by decide +kernel)) (iv_c _ (a := (-8)) (b := (-8)) (by decide +kernel)) (by decide +kernel)) (by decide +kernel)) c50
                    have nb0 := sg_nbq ef68 ef69 (sg_kc (0) (iv_add (a' := 0) (b' := 0) ey66 (iv_add (a' := 8) (b' := 8) ey46 (iv_add (a' := 16) (b' := 16) ey6 (iv_c 24 (a := 24) (b := 24) (by decide +kernel)) (iv_c _ (a := (-8)) (b := (-8)) (by decide +kernel)) (by decide +kernel)) (iv_c _ (a := (-8)) (b := (-8)) (by decide +kernel)) (by decide +kernel)) (iv_c _ (a := (-8)) (b := (-8)) (by decide +kernel)) (by decide +kernel)) (by decide +kernel)) c70
                    have cq78 : (0 : Int32).toInt = 0 := by decide +kernel
                    have xf5 : f5.toInt = (0 : Int32).toInt + 0 := sg_inc (k := 0) ef5 (iv_c 0 (a := 0) (b := 0) (by decide +kernel)) (by decide +kernel)
                    have xf45 : f45.toInt = f5.toInt + 1 := sg_inc (k := 1) ef45 (iv_add (a' := 0) (b' := 0) ef5 (iv_c 0 (a := 0) (b := 0) (by decide +kernel)) (iv_c 0 (a := 0) (b := 0) (by decide +kernel)) (by decide +kernel)) (by decide +kernel)
                    have xf65 : f65.toInt = f45.toInt + 1 := sg_inc (k := 1) ef65 (iv_add (a' := 1) (b' := 1) ef45 (iv_add (a' := 0) (b' := 0) ef5 (iv_c 0 (a := 0) (b := 0) (by decide +kernel)) (iv_c 0 (a := 0) (b := 0) (by decide +kernel)) (by decide +kernel)) (iv_c 1 (a := 1) (b := 1) (by decide +kernel)) (by decide +kernel)) (by decide +kernel)
                    have xf75 : f75.toInt = f65.toInt + 1 := sg_inc (k := 1) ef75 (iv_add (a' := 2) (b' := 2) ef65 (iv_add (a' := 1) (b' := 1) ef45 (iv_add (a' := 0) (b' := 0) ef5 (iv_c 0 (a := 0) (b := 0) (by decide +kernel)) (iv_c 0 (a := 0) (b := 0) (by decide +kernel)) (by decide +kernel)) (iv_c 1 (a := 1) (b := 1) (by decide +kernel)) (by decide +kernel)) (iv_c 1 (a := 1) (b := 1) (by decide +kernel)) (by decide +kernel)) (by decide +kernel)
                    exact sg_iretP X hr hlk hS ⟨⟨by omega, by omega⟩, by unfold sg_nb; omega⟩ dX12_bytesIn_34
                  · exact ((iv_no (iv_le (b' := (-8)) (iv_ge_of c77) (iv_c 0 (a := 0) (b := 0) (by decide +kernel)) (iv_add (a' := (-8)) (b' := (-8)) ey76 (iv_add (a' := 0) (b' := 0) ey66 (iv_add (a' := 8) (b' := 8) ey46 (iv_add (a' := 16) (b' := 16) ey6 (iv_c 24 (a := 24) (b := 24) (by decide +kernel)) (iv_c _ (a := (-8)) (b := (-8)) (by decide +kernel)) (by decide +kernel)) (iv_c _ (a := (-8)) (b := (-8)) (by decide +kernel)) (by decide +kernel)) (iv_c _ (a := (-8)) (b := (-8)) (by decide +kernel)) (by decide +kernel)) (iv_c _ (a := (-8)) (b := (-8)) (by decide +kernel)) (by decide +kernel)) (by decide +kernel)) (by decide +kernel))).elim
    · refine lv_iconst (v := 1) X.1 X.2.1 dX12_bytesIn_20 (by decide +kernel) ?_
      refine lv_goto (tgt := 25) X.1 X.2.1 dX12_bytesIn_21 (by decide) ?_
      refine lv_iadd X.1 X.2.1 dX12_bytesIn_25 ?_
      refine lv_topi (fun f79 ef79 => ?_)
      refine lv_istore_n (lv' := [(1, .int f79), (2, .int 24), (0, .int x0)]) X.1 X.2.1 dX12_bytesIn_26 rfl hl (by decide) rfl (fun ls hl => ?_)
      obtain ⟨y80, ey80⟩ : ∃ y : Int32, y = 24 + Int32.ofInt (-8) := ⟨_, rfl⟩
      refine lv_iinc (v := y80) (lv' := [(2, .int y80), (1, .int f79), (0, .int x0)]) X.1 X.2.1 dX12_bytesIn_27 hl (k := 1) rfl ey80.symm (by decide) rfl (fun ls hl => ?_)
      refine lv_goto (tgt := 5) X.1 X.2.1 dX12_bytesIn_30 (by decide) ?_
      refine lv_iload_n X.1 X.2.1 dX12_bytesIn_5 rfl (lv_at hl 0 rfl) ?_
      refine lv_if_lt (tgt := 33) X.1 X.2.1 dX12_bytesIn_6 (by decide) (fun c81 => ?_) (fun c81 => ?_)
      · exact ((iv_no (iv_lt (b' := (-1)) c81 (iv_add (a' := 16) (b' := 16) ey80 (iv_c 24 (a := 24) (b := 24) (by decide +kernel)) (iv_c _ (a := (-8)) (b := (-8)) (by decide +kernel)) (by decide +kernel)) (iv_c 0 (a := 0) (b := 0) (by decide +kernel)) (by decide +kernel)) (by decide +kernel))).elim
      · refine lv_iload_n X.1 X.2.1 dX12_bytesIn_9 rfl (lv_at hl 1 rfl) ?_
        refine lv_iload_n X.1 X.2.1 dX12_bytesIn_10 rfl (lv_at hl 2 rfl) ?_
        refine lv_iload_n X.1 X.2.1 dX12_bytesIn_11 rfl (lv_at hl 0 rfl) ?_
        refine lv_ishr X.1 X.2.1 dX12_bytesIn_12 ?_
        refine lv_topi (fun f82 ef82 => ?_)
        refine lv_sipush (v := 255) X.1 X.2.1 dX12_bytesIn_13 (by decide +kernel) ?_
        refine lv_iand X.1 X.2.1 dX12_bytesIn_16 ?_
        refine lv_topi (fun f83 ef83 => ?_)
        refine lv_if_eq (tgt := 24) X.1 X.2.1 dX12_bytesIn_17 (by decide) (fun c84 => ?_) (fun c84 => ?_)
        · refine lv_iconst (v := 0) X.1 X.2.1 dX12_bytesIn_24 (by decide +kernel) ?_
          refine lv_iadd X.1 X.2.1 dX12_bytesIn_25 ?_
          refine lv_topi (fun f85 ef85 => ?_)
          refine lv_istore_n (lv' := [(1, .int f85), (2, .int y80), (0, .int x0)]) X.1 X.2.1 dX12_bytesIn_26 rfl hl (by decide) rfl (fun ls hl => ?_)
          obtain ⟨y86, ey86⟩ : ∃ y : Int32, y = y80 + Int32.ofInt (-8) := ⟨_, rfl⟩
          refine lv_iinc (v := y86) (lv' := [(2, .int y86), (1, .int f85), (0, .int x0)]) X.1 X.2.1 dX12_bytesIn_27 hl (k := 1) rfl ey86.symm (by decide) rfl (fun ls hl => ?_)
          refine lv_goto (tgt := 5) X.1 X.2.1 dX12_bytesIn_30 (by decide) ?_
          refine lv_iload_n X.1 X.2.1 dX12_bytesIn_5 rfl (lv_at hl 0 rfl) ?_
          refine lv_if_lt (tgt := 33) X.1 X.2.1 dX12_bytesIn_6 (by decide) (fun c87 => ?_) (fun c87 => ?_)
          · exact ((iv_no (iv_lt (b' := (-1)) c87 (iv_add (a' := 8) (b' := 8) ey86 (iv_add (a' := 16) (b' := 16) ey80 (iv_c 24 (a := 24) (b := 24) (by decide +kernel)) (iv_c _ (a := (-8)) (b := (-8)) (by decide +kernel)) (by decide +kernel)) (iv_c _ (a := (-8)) (b := (-8)) (by decide +kernel)) (by decide +kernel)) (iv_c 0 (a := 0) (b := 0) (by decide +kernel)) (by decide +kernel)) (by decide +kernel))).elim
          · refine lv_iload_n X.1 X.2.1 dX12_bytesIn_9 rfl (lv_at hl 1 rfl) ?_
            refine lv_iload_n X.1 X.2.1 dX12_bytesIn_10 rfl (lv_at hl 2 rfl) ?_
            refine lv_iload_n X.1 X.2.1 dX12_bytesIn_11 rfl (lv_at hl 0 rfl) ?_
            refine lv_ishr X.1 X.2.1 dX12_bytesIn_12 ?_
            refine lv_topi (fun f88 ef88 => ?_)
            refine lv_sipush (v := 255) X.1 X.2.1 dX12_bytesIn_13 (by decide +kernel) ?_
            refine lv_iand X.1 X.2.1 dX12_bytesIn_16 ?_
            refine lv_topi (fun f89 ef89 => ?_)
            refine lv_if_eq (tgt := 24) X.1 X.2.1 dX12_bytesIn_17 (by decide) (fun c90 => ?_) (fun c90 => ?_)
            · refine lv_iconst (v := 0) X.1 X.2.1 dX12_bytesIn_24 (by decide +kernel) ?_
              refine lv_iadd X.1 X.2.1 dX12_bytesIn_25 ?_
              refine lv_topi (fun f91 ef91 => ?_)
              refine lv_istore_n (lv' := [(1, .int f91), (2, .int y86), (0, .int x0)]) X.1 X.2.1 dX12_bytesIn_26 rfl hl (by decide) rfl (fun ls hl => ?_)
              obtain ⟨y92, ey92⟩ : ∃ y : Int32, y = y86 + Int32.ofInt (-8) := ⟨_, rfl⟩
              refine lv_iinc (v := y92) (lv' := [(2, .int y92), (1, .int f91), (0, .int x0)]) X.1 X.2.1 dX12_bytesIn_27 hl (k := 1) rfl ey92.symm (by decide) rfl (fun ls hl => ?_)
              refine lv_goto (tgt := 5) X.1 X.2.1 dX12_bytesIn_30 (by decide) ?_
              refine lv_iload_n X.1 X.2.1 dX12_bytesIn_5 rfl (lv_at hl 0 rfl) ?_
              refine lv_if_lt (tgt := 33) X.1 X.2.1 dX12_bytesIn_6 (by decide) (fun c93 => ?_) (fun c93 => ?_)
              · exact ((iv_no (iv_lt (b' := (-1)) c93 (iv_add (a' := 0) (b' := 0) ey92 (iv_add (a' := 8) (b' := 8) ey86 (iv_add (a' := 16) (b' := 16) ey80 (iv_c 24 (a := 24) (b := 24) (by decide +kernel)) (iv_c _ (a := (-8)) (b := (-8)) (by decide +kernel)) (by decide +kernel)) (iv_c _ (a := (-8)) (b := (-8)) (by decide +kernel)) (by decide +kernel)) (iv_c _ (a := (-8)) (b := (-8)) (by decide +kernel)) (by decide +kernel)) (iv_c 0 (a := 0) (b := 0) (by decide +kernel)) (by decide +kernel)) (by decide +kernel))).elim
              · refine lv_iload_n X.1 X.2.1 dX12_bytesIn_9 rfl (lv_at hl 1 rfl) ?_
                refine lv_iload_n X.1 X.2.1 dX12_bytesIn_10 rfl (lv_at hl 2 rfl) ?_
                refine lv_iload_n X.1 X.2.1 dX12_bytesIn_11 rfl (lv_at hl 0 rfl) ?_
                refine lv_ishr X.1 X.2.1 dX12_bytesIn_12 ?_
                refine lv_topi (fun f94 ef94 => ?_)
                refine lv_sipush (v := 255) X.1 X.2.1 dX12_bytesIn_13 (by decide +kernel) ?_
                refine lv_iand X.1 X.2.1 dX12_bytesIn_16 ?_
                refine lv_topi (fun f95 ef95 => ?_)
                refine lv_if_eq (tgt := 24) X.1 X.2.1 dX12_bytesIn_17 (by decide) (fun c96 => ?_) (fun c96 => ?_)
                · refine lv_iconst (v := 0) X.1 X.2.1 dX12_bytesIn_24 (by decide +kernel) ?_
                  refine lv_iadd X.1 X.2.1 dX12_bytesIn_25 ?_
                  refine lv_topi (fun f97 ef97 => ?_)
                  refine lv_istore_n (lv' := [(1, .int f97), (2, .int y92), (0, .int x0)]) X.1 X.2.1 dX12_bytesIn_26 rfl hl (by decide) rfl (fun ls hl => ?_)
                  obtain ⟨y98, ey98⟩ : ∃ y : Int32, y = y92 + Int32.ofInt (-8) := ⟨_, rfl⟩
                  refine lv_iinc (v := y98) (lv' := [(2, .int y98), (1, .int f97), (0, .int x0)]) X.1 X.2.1 dX12_bytesIn_27 hl (k := 1) rfl ey98.symm (by decide) rfl (fun ls hl => ?_)
                  refine lv_goto (tgt := 5) X.1 X.2.1 dX12_bytesIn_30 (by decide) ?_
                  refine lv_iload_n X.1 X.2.1 dX12_bytesIn_5 rfl (lv_at hl 0 rfl) ?_
                  refine lv_if_lt (tgt := 33) X.1 X.2.1 dX12_bytesIn_6 (by decide) (fun c99 => ?_) (fun c99 => ?_)
                  · refine lv_iload_n X.1 X.2.1 dX12_bytesIn_33 rfl (lv_at hl 1 rfl) ?_
                    have nb24 := sg_nbq ef2 ef3 (sg_kc (24) (iv_c 24 (a := 24) (b := 24) (by decide +kernel)) (by decide +kernel)) c4
                    have nb16 := sg_nbp ef82 ef83 (sg_kc (16) (iv_add (a' := 16) (b' := 16) ey80 (iv_c 24 (a := 24) (b := 24) (by decide +kernel)) (iv_c _ (a := (-8)) (b := (-8)) (by decide +kernel)) (by decide +kernel)) (by decide +kernel)) c84
                    have nb8 := sg_nbp ef88 ef89 (sg_kc (8) (iv_add (a' := 8) (b' := 8) ey86 (iv_add (a' := 16) (b' := 16) ey80 (iv_c 24 (a := 24) (b := 24) (by decide +kernel)) (iv_c _ (a := (-8)) (b := (-8)) (by decide +kernel)) (by decide +kernel)) (iv_c _ (a := (-8)) (b := (-8)) (by decide +kernel)) (by decide +kernel)) (by decide +kernel)) c90
                    have nb0 := sg_nbp ef94 ef95 (sg_kc (0) (iv_add (a' := 0) (b' := 0) ey92 (iv_add (a' := 8) (b' := 8) ey86 (iv_add (a' := 16) (b' := 16) ey80 (iv_c 24 (a := 24) (b := 24) (by decide +kernel)) (iv_c _ (a := (-8)) (b := (-8)) (by decide +kernel)) (by decide +kernel)) (iv_c _ (a := (-8)) (b := (-8)) (by decide +kernel)) (by decide +kernel)) (iv_c _ (a := (-8)) (b := (-8)) (by decide +kernel)) (by decide +kernel)) (by decide +kernel)) c96
                    have cq100 : (0 : Int32).toInt = 0 := by decide +kernel
                    have xf79 : f79.toInt = (0 : Int32).toInt + 1 := sg_inc (k := 1) ef79 (iv_c 0 (a := 0) (b := 0) (by decide +kernel)) (by decide +kernel)
                    have xf85 : f85.toInt = f79.toInt + 0 := sg_inc (k := 0) ef85 (iv_add (a' := 1) (b' := 1) ef79 (iv_c 0 (a := 0) (b := 0) (by decide +kernel)) (iv_c 1 (a := 1) (b := 1) (by decide +kernel)) (by decide +kernel)) (by decide +kernel)
                    have xf91 : f91.toInt = f85.toInt + 0 := sg_inc (k := 0) ef91 (iv_add (a' := 1) (b' := 1) ef85 (iv_add (a' := 1) (b' := 1) ef79 (iv_c 0 (a := 0) (b := 0) (by decide +kernel)) (iv_c 1 (a := 1) (b := 1) (by decide +kernel)) (by decide +kernel)) (iv_c 0 (a := 0) (b := 0) (by decide +kernel)) (by decide +kernel)) (by decide +kernel)
                    have xf97 : f97.toInt = f91.toInt + 0 := sg_inc (k := 0) ef97 (iv_add (a' := 1) (b' := 1) ef91 (iv_add (a' := 1) (b' := 1) ef85 (iv_add (a' := 1) (b' := 1) ef79 (iv_c 0 (a := 0) (b := 0) (by decide +kernel)) (iv_c 1 (a := 1) (b := 1) (by decide +kernel)) (by decide +kernel)) (iv_c 0 (a := 0) (b := 0) (by decide +kernel)) (by decide +kernel)) (iv_c 0 (a := 0) (b := 0) (by decide +kernel)) (by decide +kernel)) (by decide +kernel)
                    exact sg_iretP X hr hlk hS ⟨⟨by omega, by omega⟩, by unfold sg_nb; omega⟩ dX12_bytesIn_34
                  · exact ((iv_no (iv_le (b' := (-8)) (iv_ge_of c99) (iv_c 0 (a := 0) (b := 0) (by decide +kernel)) (iv_add (a' := (-8)) (b' := (-8)) ey98 (iv_add (a' := 0) (b' := 0) ey92 (iv_add (a' := 8) (b' := 8) ey86 (iv_add (a' := 16) (b' := 16) ey80 (iv_c 24 (a := 24) (b := 24) (by decide +kernel)) (iv_c _ (a := (-8)) (b := (-8)) (by decide +kernel)) (by decide +kernel)) (iv_c _ (a := (-8)) (b := (-8)) (by decide +kernel)) (by decide +kernel)) (iv_c _ (a := (-8)) (b := (-8)) (by decide +kernel)) (by decide +kernel)) (iv_c _ (a := (-8)) (b := (-8)) (by decide +kernel)) (by decide +kernel)) (by decide +kernel)) (by decide +kernel))).elim
                · refine lv_iconst (v := 1) X.1 X.2.1 dX12_bytesIn_20 (by decide +kernel) ?_
                  refine lv_goto (tgt := 25) X.1 X.2.1 dX12_bytesIn_21 (by decide) ?_
                  refine lv_iadd X.1 X.2.1 dX12_bytesIn_25 ?_
                  refine lv_topi (fun f101 ef101 => ?_)
                  refine lv_istore_n (lv' := [(1, .int f101), (2, .int y92), (0, .int x0)]) X.1 X.2.1 dX12_bytesIn_26 rfl hl (by decide) rfl (fun ls hl => ?_)
                  obtain ⟨y102, ey102⟩ : ∃ y : Int32, y = y92 + Int32.ofInt (-8) := ⟨_, rfl⟩
                  refine lv_iinc (v := y102) (lv' := [(2, .int y102), (1, .int f101), (0, .int x0)]) X.1 X.2.1 dX12_bytesIn_27 hl (k := 1) rfl ey102.symm (by decide) rfl (fun ls hl => ?_)
                  refine lv_goto (tgt := 5) X.1 X.2.1 dX12_bytesIn_30 (by decide) ?_
                  refine lv_iload_n X.1 X.2.1 dX12_bytesIn_5 rfl (lv_at hl 0 rfl) ?_
                  refine lv_if_lt (tgt := 33) X.1 X.2.1 dX12_bytesIn_6 (by decide) (fun c103 => ?_) (fun c103 => ?_)
                  · refine lv_iload_n X.1 X.2.1 dX12_bytesIn_33 rfl (lv_at hl 1 rfl) ?_
                    have nb24 := sg_nbq ef2 ef3 (sg_kc (24) (iv_c 24 (a := 24) (b := 24) (by decide +kernel)) (by decide +kernel)) c4
                    have nb16 := sg_nbp ef82 ef83 (sg_kc (16) (iv_add (a' := 16) (b' := 16) ey80 (iv_c 24 (a := 24) (b := 24) (by decide +kernel)) (iv_c _ (a := (-8)) (b := (-8)) (by decide +kernel)) (by decide +kernel)) (by decide +kernel)) c84
                    have nb8 := sg_nbp ef88 ef89 (sg_kc (8) (iv_add (a' := 8) (b' := 8) ey86 (iv_add (a' := 16) (b' := 16) ey80 (iv_c 24 (a := 24) (b := 24) (by decide +kernel)) (iv_c _ (a := (-8)) (b := (-8)) (by decide +kernel)) (by decide +kernel)) (iv_c _ (a := (-8)) (b := (-8)) (by decide +kernel)) (by decide +kernel)) (by decide +kernel)) c90
                    have nb0 := sg_nbq ef94 ef95 (sg_kc (0) (iv_add (a' := 0) (b' := 0) ey92 (iv_add (a' := 8) (b' := 8) ey86 (iv_add (a' := 16) (b' := 16) ey80 (iv_c 24 (a := 24) (b := 24) (by decide +kernel)) (iv_c _ (a := (-8)) (b := (-8)) (by decide +kernel)) (by decide +kernel)) (iv_c _ (a := (-8)) (b := (-8)) (by decide +kernel)) (by decide +kernel)) (iv_c _ (a := (-8)) (b := (-8)) (by decide +kernel)) (by decide +kernel)) (by decide +kernel)) c96
                    have cq104 : (0 : Int32).toInt = 0 := by decide +kernel
                    have xf79 : f79.toInt = (0 : Int32).toInt + 1 := sg_inc (k := 1) ef79 (iv_c 0 (a := 0) (b := 0) (by decide +kernel)) (by decide +kernel)
                    have xf85 : f85.toInt = f79.toInt + 0 := sg_inc (k := 0) ef85 (iv_add (a' := 1) (b' := 1) ef79 (iv_c 0 (a := 0) (b := 0) (by decide +kernel)) (iv_c 1 (a := 1) (b := 1) (by decide +kernel)) (by decide +kernel)) (by decide +kernel)
                    have xf91 : f91.toInt = f85.toInt + 0 := sg_inc (k := 0) ef91 (iv_add (a' := 1) (b' := 1) ef85 (iv_add (a' := 1) (b' := 1) ef79 (iv_c 0 (a := 0) (b := 0) (by decide +kernel)) (iv_c 1 (a := 1) (b := 1) (by decide +kernel)) (by decide +kernel)) (iv_c 0 (a := 0) (b := 0) (by decide +kernel)) (by decide +kernel)) (by decide +kernel)
                    have xf101 : f101.toInt = f91.toInt + 1 := sg_inc (k := 1) ef101 (iv_add (a' := 1) (b' := 1) ef91 (iv_add (a' := 1) (b' := 1) ef85 (iv_add (a' := 1) (b' := 1) ef79 (iv_c 0 (a := 0) (b := 0) (by decide +kernel)) (iv_c 1 (a := 1) (b := 1) (by decide +kernel)) (by decide +kernel)) (iv_c 0 (a := 0) (b := 0) (by decide +kernel)) (by decide +kernel)) (iv_c 0 (a := 0) (b := 0) (by decide +kernel)) (by decide +kernel)) (by decide +kernel)
                    exact sg_iretP X hr hlk hS ⟨⟨by omega, by omega⟩, by unfold sg_nb; omega⟩ dX12_bytesIn_34
                  · exact ((iv_no (iv_le (b' := (-8)) (iv_ge_of c103) (iv_c 0 (a := 0) (b := 0) (by decide +kernel)) (iv_add (a' := (-8)) (b' := (-8)) ey102 (iv_add (a' := 0) (b' := 0) ey92 (iv_add (a' := 8) (b' := 8) ey86 (iv_add (a' := 16) (b' := 16) ey80 (iv_c 24 (a := 24) (b := 24) (by decide +kernel)) (iv_c _ (a := (-8)) (b := (-8)) (by decide +kernel)) (by decide +kernel)) (iv_c _ (a := (-8)) (b := (-8)) (by decide +kernel)) (by decide +kernel)) (iv_c _ (a := (-8)) (b := (-8)) (by decide +kernel)) (by decide +kernel)) (iv_c _ (a := (-8)) (b := (-8)) (by decide +kernel)) (by decide +kernel)) (by decide +kernel)) (by decide +kernel))).elim
            · refine lv_iconst (v := 1) X.1 X.2.1 dX12_bytesIn_20 (by decide +kernel) ?_
              refine lv_goto (tgt := 25) X.1 X.2.1 dX12_bytesIn_21 (by decide) ?_
              refine lv_iadd X.1 X.2.1 dX12_bytesIn_25 ?_
              refine lv_topi (fun f105 ef105 => ?_)
              refine lv_istore_n (lv' := [(1, .int f105), (2, .int y86), (0, .int x0)]) X.1 X.2.1 dX12_bytesIn_26 rfl hl (by decide) rfl (fun ls hl => ?_)
              obtain ⟨y106, ey106⟩ : ∃ y : Int32, y = y86 + Int32.ofInt (-8) := ⟨_, rfl⟩
              refine lv_iinc (v := y106) (lv' := [(2, .int y106), (1, .int f105), (0, .int x0)]) X.1 X.2.1 dX12_bytesIn_27 hl (k := 1) rfl ey106.symm (by decide) rfl (fun ls hl => ?_)
              refine lv_goto (tgt := 5) X.1 X.2.1 dX12_bytesIn_30 (by decide) ?_
              refine lv_iload_n X.1 X.2.1 dX12_bytesIn_5 rfl (lv_at hl 0 rfl) ?_
              refine lv_if_lt (tgt := 33) X.1 X.2.1 dX12_bytesIn_6 (by decide) (fun c107 => ?_) (fun c107 => ?_)
              · exact ((iv_no (iv_lt (b' := (-1)) c107 (iv_add (a' := 0) (b' := 0) ey106 (iv_add (a' := 8) (b' := 8) ey86 (iv_add (a' := 16) (b' := 16) ey80 (iv_c 24 (a := 24) (b := 24) (by decide +kernel)) (iv_c _ (a := (-8)) (b := (-8)) (by decide +kernel)) (by decide +kernel)) (iv_c _ (a := (-8)) (b := (-8)) (by decide +kernel)) (by decide +kernel)) (iv_c _ (a := (-8)) (b := (-8)) (by decide +kernel)) (by decide +kernel)) (iv_c 0 (a := 0) (b := 0) (by decide +kernel)) (by decide +kernel)) (by decide +kernel))).elim
              · refine lv_iload_n X.1 X.2.1 dX12_bytesIn_9 rfl (lv_at hl 1 rfl) ?_
                refine lv_iload_n X.1 X.2.1 dX12_bytesIn_10 rfl (lv_at hl 2 rfl) ?_
                refine lv_iload_n X.1 X.2.1 dX12_bytesIn_11 rfl (lv_at hl 0 rfl) ?_
                refine lv_ishr X.1 X.2.1 dX12_bytesIn_12 ?_
                refine lv_topi (fun f108 ef108 => ?_)
                refine lv_sipush (v := 255) X.1 X.2.1 dX12_bytesIn_13 (by decide +kernel) ?_
                refine lv_iand X.1 X.2.1 dX12_bytesIn_16 ?_
                refine lv_topi (fun f109 ef109 => ?_)
                refine lv_if_eq (tgt := 24) X.1 X.2.1 dX12_bytesIn_17 (by decide) (fun c110 => ?_) (fun c110 => ?_)
                · refine lv_iconst (v := 0) X.1 X.2.1 dX12_bytesIn_24 (by decide +kernel) ?_
                  refine lv_iadd X.1 X.2.1 dX12_bytesIn_25 ?_
                  refine lv_topi (fun f111 ef111 => ?_)
                  refine lv_istore_n (lv' := [(1, .int f111), (2, .int y106), (0, .int x0)]) X.1 X.2.1 dX12_bytesIn_26 rfl hl (by decide) rfl (fun ls hl => ?_)
                  obtain ⟨y112, ey112⟩ : ∃ y : Int32, y = y106 + Int32.ofInt (-8) := ⟨_, rfl⟩
                  refine lv_iinc (v := y112) (lv' := [(2, .int y112), (1, .int f111), (0, .int x0)]) X.1 X.2.1 dX12_bytesIn_27 hl (k := 1) rfl ey112.symm (by decide) rfl (fun ls hl => ?_)
                  refine lv_goto (tgt := 5) X.1 X.2.1 dX12_bytesIn_30 (by decide) ?_
                  refine lv_iload_n X.1 X.2.1 dX12_bytesIn_5 rfl (lv_at hl 0 rfl) ?_
                  refine lv_if_lt (tgt := 33) X.1 X.2.1 dX12_bytesIn_6 (by decide) (fun c113 => ?_) (fun c113 => ?_)
                  · refine lv_iload_n X.1 X.2.1 dX12_bytesIn_33 rfl (lv_at hl 1 rfl) ?_
                    have nb24 := sg_nbq ef2 ef3 (sg_kc (24) (iv_c 24 (a := 24) (b := 24) (by decide +kernel)) (by decide +kernel)) c4
                    have nb16 := sg_nbp ef82 ef83 (sg_kc (16) (iv_add (a' := 16) (b' := 16) ey80 (iv_c 24 (a := 24) (b := 24) (by decide +kernel)) (iv_c _ (a := (-8)) (b := (-8)) (by decide +kernel)) (by decide +kernel)) (by decide +kernel)) c84
                    have nb8 := sg_nbq ef88 ef89 (sg_kc (8) (iv_add (a' := 8) (b' := 8) ey86 (iv_add (a' := 16) (b' := 16) ey80 (iv_c 24 (a := 24) (b := 24) (by decide +kernel)) (iv_c _ (a := (-8)) (b := (-8)) (by decide +kernel)) (by decide +kernel)) (iv_c _ (a := (-8)) (b := (-8)) (by decide +kernel)) (by decide +kernel)) (by decide +kernel)) c90
                    have nb0 := sg_nbp ef108 ef109 (sg_kc (0) (iv_add (a' := 0) (b' := 0) ey106 (iv_add (a' := 8) (b' := 8) ey86 (iv_add (a' := 16) (b' := 16) ey80 (iv_c 24 (a := 24) (b := 24) (by decide +kernel)) (iv_c _ (a := (-8)) (b := (-8)) (by decide +kernel)) (by decide +kernel)) (iv_c _ (a := (-8)) (b := (-8)) (by decide +kernel)) (by decide +kernel)) (iv_c _ (a := (-8)) (b := (-8)) (by decide +kernel)) (by decide +kernel)) (by decide +kernel)) c110
                    have cq114 : (0 : Int32).toInt = 0 := by decide +kernel
                    have xf79 : f79.toInt = (0 : Int32).toInt + 1 := sg_inc (k := 1) ef79 (iv_c 0 (a := 0) (b := 0) (by decide +kernel)) (by decide +kernel)
                    have xf85 : f85.toInt = f79.toInt + 0 := sg_inc (k := 0) ef85 (iv_add (a' := 1) (b' := 1) ef79 (iv_c 0 (a := 0) (b := 0) (by decide +kernel)) (iv_c 1 (a := 1) (b := 1) (by decide +kernel)) (by decide +kernel)) (by decide +kernel)
                    have xf105 : f105.toInt = f85.toInt + 1 := sg_inc (k := 1) ef105 (iv_add (a' := 1) (b' := 1) ef85 (iv_add (a' := 1) (b' := 1) ef79 (iv_c 0 (a := 0) (b := 0) (by decide +kernel)) (iv_c 1 (a := 1) (b := 1) (by decide +kernel)) (by decide +kernel)) (iv_c 0 (a := 0) (b := 0) (by decide +kernel)) (by decide +kernel)) (by decide +kernel)
                    have xf111 : f111.toInt = f105.toInt + 0 := sg_inc (k := 0) ef111 (iv_add (a' := 2) (b' := 2) ef105 (iv_add (a' := 1) (b' := 1) ef85 (iv_add (a' := 1) (b' := 1) ef79 (iv_c 0 (a := 0) (b := 0) (by decide +kernel)) (iv_c 1 (a := 1) (b := 1) (by decide +kernel)) (by decide +kernel)) (iv_c 0 (a := 0) (b := 0) (by decide +kernel)) (by decide +kernel)) (iv_c 1 (a := 1) (b := 1) (by decide +kernel)) (by decide +kernel)) (by decide +kernel)
                    exact sg_iretP X hr hlk hS ⟨⟨by omega, by omega⟩, by unfold sg_nb; omega⟩ dX12_bytesIn_34
                  · exact ((iv_no (iv_le (b' := (-8)) (iv_ge_of c113) (iv_c 0 (a := 0) (b := 0) (by decide +kernel)) (iv_add (a' := (-8)) (b' := (-8)) ey112 (iv_add (a' := 0) (b' := 0) ey106 (iv_add (a' := 8) (b' := 8) ey86 (iv_add (a' := 16) (b' := 16) ey80 (iv_c 24 (a := 24) (b := 24) (by decide +kernel)) (iv_c _ (a := (-8)) (b := (-8)) (by decide +kernel)) (by decide +kernel)) (iv_c _ (a := (-8)) (b := (-8)) (by decide +kernel)) (by decide +kernel)) (iv_c _ (a := (-8)) (b := (-8)) (by decide +kernel)) (by decide +kernel)) (iv_c _ (a := (-8)) (b := (-8)) (by decide +kernel)) (by decide +kernel)) (by decide +kernel)) (by decide +kernel))).elim
                · refine lv_iconst (v := 1) X.1 X.2.1 dX12_bytesIn_20 (by decide +kernel) ?_
                  refine lv_goto (tgt := 25) X.1 X.2.1 dX12_bytesIn_21 (by decide) ?_
                  refine lv_iadd X.1 X.2.1 dX12_bytesIn_25 ?_
                  refine lv_topi (fun f115 ef115 => ?_)
                  refine lv_istore_n (lv' := [(1, .int f115), (2, .int y106), (0, .int x0)]) X.1 X.2.1 dX12_bytesIn_26 rfl hl (by decide) rfl (fun ls hl => ?_)
                  obtain ⟨y116, ey116⟩ : ∃ y : Int32, y = y106 + Int32.ofInt (-8) := ⟨_, rfl⟩
                  refine lv_iinc (v := y116) (lv' := [(2, .int y116), (1, .int f115), (0, .int x0)]) X.1 X.2.1 dX12_bytesIn_27 hl (k := 1) rfl ey116.symm (by decide) rfl (fun ls hl => ?_)
                  refine lv_goto (tgt := 5) X.1 X.2.1 dX12_bytesIn_30 (by decide) ?_
                  refine lv_iload_n X.1 X.2.1 dX12_bytesIn_5 rfl (lv_at hl 0 rfl) ?_
                  refine lv_if_lt (tgt := 33) X.1 X.2.1 dX12_bytesIn_6 (by decide) (fun c117 => ?_) (fun c117 => ?_)
                  · refine lv_iload_n X.1 X.2.1 dX12_bytesIn_33 rfl (lv_at hl 1 rfl) ?_
                    have nb24 := sg_nbq ef2 ef3 (sg_kc (24) (iv_c 24 (a := 24) (b := 24) (by decide +kernel)) (by decide +kernel)) c4
                    have nb16 := sg_nbp ef82 ef83 (sg_kc (16) (iv_add (a' := 16) (b' := 16) ey80 (iv_c 24 (a := 24) (b := 24) (by decide +kernel)) (iv_c _ (a := (-8)) (b := (-8)) (by decide +kernel)) (by decide +kernel)) (by decide +kernel)) c84
                    have nb8 := sg_nbq ef88 ef89 (sg_kc (8) (iv_add (a' := 8) (b' := 8) ey86 (iv_add (a' := 16) (b' := 16) ey80 (iv_c 24 (a := 24) (b := 24) (by decide +kernel)) (iv_c _ (a := (-8)) (b := (-8)) (by decide +kernel)) (by decide +kernel)) (iv_c _ (a := (-8)) (b := (-8)) (by decide +kernel)) (by decide +kernel)) (by decide +kernel)) c90
                    have nb0 := sg_nbq ef108 ef109 (sg_kc (0) (iv_add (a' := 0) (b' := 0) ey106 (iv_add (a' := 8) (b' := 8) ey86 (iv_add (a' := 16) (b' := 16) ey80 (iv_c 24 (a := 24) (b := 24) (by decide +kernel)) (iv_c _ (a := (-8)) (b := (-8)) (by decide +kernel)) (by decide +kernel)) (iv_c _ (a := (-8)) (b := (-8)) (by decide +kernel)) (by decide +kernel)) (iv_c _ (a := (-8)) (b := (-8)) (by decide +kernel)) (by decide +kernel)) (by decide +kernel)) c110
                    have cq118 : (0 : Int32).toInt = 0 := by decide +kernel
                    have xf79 : f79.toInt = (0 : Int32).toInt + 1 := sg_inc (k := 1) ef79 (iv_c 0 (a := 0) (b := 0) (by decide +kernel)) (by decide +kernel)
                    have xf85 : f85.toInt = f79.toInt + 0 := sg_inc (k := 0) ef85 (iv_add (a' := 1) (b' := 1) ef79 (iv_c 0 (a := 0) (b := 0) (by decide +kernel)) (iv_c 1 (a := 1) (b := 1) (by decide +kernel)) (by decide +kernel)) (by decide +kernel)
                    have xf105 : f105.toInt = f85.toInt + 1 := sg_inc (k := 1) ef105 (iv_add (a' := 1) (b' := 1) ef85 (iv_add (a' := 1) (b' := 1) ef79 (iv_c 0 (a := 0) (b := 0) (by decide +kernel)) (iv_c 1 (a := 1) (b := 1) (by decide +kernel)) (by decide +kernel)) (iv_c 0 (a := 0) (b := 0) (by decide +kernel)) (by decide +kernel)) (by decide +kernel)
                    have xf115 : f115.toInt = f105.toInt + 1 := sg_inc (k := 1) ef115 (iv_add (a' := 2) (b' := 2) ef105 (iv_add (a' := 1) (b' := 1) ef85 (iv_add (a' := 1) (b' := 1) ef79 (iv_c 0 (a := 0) (b := 0) (by decide +kernel)) (iv_c 1 (a := 1) (b := 1) (by decide +kernel)) (by decide +kernel)) (iv_c 0 (a := 0) (b := 0) (by decide +kernel)) (by decide +kernel)) (iv_c 1 (a := 1) (b := 1) (by decide +kernel)) (by decide +kernel)) (by decide +kernel)
                    exact sg_iretP X hr hlk hS ⟨⟨by omega, by omega⟩, by unfold sg_nb; omega⟩ dX12_bytesIn_34
                  · exact ((iv_no (iv_le (b' := (-8)) (iv_ge_of c117) (iv_c 0 (a := 0) (b := 0) (by decide +kernel)) (iv_add (a' := (-8)) (b' := (-8)) ey116 (iv_add (a' := 0) (b' := 0) ey106 (iv_add (a' := 8) (b' := 8) ey86 (iv_add (a' := 16) (b' := 16) ey80 (iv_c 24 (a := 24) (b := 24) (by decide +kernel)) (iv_c _ (a := (-8)) (b := (-8)) (by decide +kernel)) (by decide +kernel)) (iv_c _ (a := (-8)) (b := (-8)) (by decide +kernel)) (by decide +kernel)) (iv_c _ (a := (-8)) (b := (-8)) (by decide +kernel)) (by decide +kernel)) (iv_c _ (a := (-8)) (b := (-8)) (by decide +kernel)) (by decide +kernel)) (by decide +kernel)) (by decide +kernel))).elim
        · refine lv_iconst (v := 1) X.1 X.2.1 dX12_bytesIn_20 (by decide +kernel) ?_
          refine lv_goto (tgt := 25) X.1 X.2.1 dX12_bytesIn_21 (by decide) ?_
          refine lv_iadd X.1 X.2.1 dX12_bytesIn_25 ?_
          refine lv_topi (fun f119 ef119 => ?_)
          refine lv_istore_n (lv' := [(1, .int f119), (2, .int y80), (0, .int x0)]) X.1 X.2.1 dX12_bytesIn_26 rfl hl (by decide) rfl (fun ls hl => ?_)
          obtain ⟨y120, ey120⟩ : ∃ y : Int32, y = y80 + Int32.ofInt (-8) := ⟨_, rfl⟩
          refine lv_iinc (v := y120) (lv' := [(2, .int y120), (1, .int f119), (0, .int x0)]) X.1 X.2.1 dX12_bytesIn_27 hl (k := 1) rfl ey120.symm (by decide) rfl (fun ls hl => ?_)
          refine lv_goto (tgt := 5) X.1 X.2.1 dX12_bytesIn_30 (by decide) ?_
          refine lv_iload_n X.1 X.2.1 dX12_bytesIn_5 rfl (lv_at hl 0 rfl) ?_
          refine lv_if_lt (tgt := 33) X.1 X.2.1 dX12_bytesIn_6 (by decide) (fun c121 => ?_) (fun c121 => ?_)
          · exact ((iv_no (iv_lt (b' := (-1)) c121 (iv_add (a' := 8) (b' := 8) ey120 (iv_add (a' := 16) (b' := 16) ey80 (iv_c 24 (a := 24) (b := 24) (by decide +kernel)) (iv_c _ (a := (-8)) (b := (-8)) (by decide +kernel)) (by decide +kernel)) (iv_c _ (a := (-8)) (b := (-8)) (by decide +kernel)) (by decide +kernel)) (iv_c 0 (a := 0) (b := 0) (by decide +kernel)) (by decide +kernel)) (by decide +kernel))).elim
          · refine lv_iload_n X.1 X.2.1 dX12_bytesIn_9 rfl (lv_at hl 1 rfl) ?_
            refine lv_iload_n X.1 X.2.1 dX12_bytesIn_10 rfl (lv_at hl 2 rfl) ?_
            refine lv_iload_n X.1 X.2.1 dX12_bytesIn_11 rfl (lv_at hl 0 rfl) ?_
            refine lv_ishr X.1 X.2.1 dX12_bytesIn_12 ?_
            refine lv_topi (fun f122 ef122 => ?_)
            refine lv_sipush (v := 255) X.1 X.2.1 dX12_bytesIn_13 (by decide +kernel) ?_
            refine lv_iand X.1 X.2.1 dX12_bytesIn_16 ?_
            refine lv_topi (fun f123 ef123 => ?_)
            refine lv_if_eq (tgt := 24) X.1 X.2.1 dX12_bytesIn_17 (by decide) (fun c124 => ?_) (fun c124 => ?_)
            · refine lv_iconst (v := 0) X.1 X.2.1 dX12_bytesIn_24 (by decide +kernel) ?_
              refine lv_iadd X.1 X.2.1 dX12_bytesIn_25 ?_
              refine lv_topi (fun f125 ef125 => ?_)
              refine lv_istore_n (lv' := [(1, .int f125), (2, .int y120), (0, .int x0)]) X.1 X.2.1 dX12_bytesIn_26 rfl hl (by decide) rfl (fun ls hl => ?_)
              obtain ⟨y126, ey126⟩ : ∃ y : Int32, y = y120 + Int32.ofInt (-8) := ⟨_, rfl⟩
              refine lv_iinc (v := y126) (lv' := [(2, .int y126), (1, .int f125), (0, .int x0)]) X.1 X.2.1 dX12_bytesIn_27 hl (k := 1) rfl ey126.symm (by decide) rfl (fun ls hl => ?_)
              refine lv_goto (tgt := 5) X.1 X.2.1 dX12_bytesIn_30 (by decide) ?_
              refine lv_iload_n X.1 X.2.1 dX12_bytesIn_5 rfl (lv_at hl 0 rfl) ?_
              refine lv_if_lt (tgt := 33) X.1 X.2.1 dX12_bytesIn_6 (by decide) (fun c127 => ?_) (fun c127 => ?_)
              · exact ((iv_no (iv_lt (b' := (-1)) c127 (iv_add (a' := 0) (b' := 0) ey126 (iv_add (a' := 8) (b' := 8) ey120 (iv_add (a' := 16) (b' := 16) ey80 (iv_c 24 (a := 24) (b := 24) (by decide +kernel)) (iv_c _ (a := (-8)) (b := (-8)) (by decide +kernel)) (by decide +kernel)) (iv_c _ (a := (-8)) (b := (-8)) (by decide +kernel)) (by decide +kernel)) (iv_c _ (a := (-8)) (b := (-8)) (by decide +kernel)) (by decide +kernel)) (iv_c 0 (a := 0) (b := 0) (by decide +kernel)) (by decide +kernel)) (by decide +kernel))).elim
              · refine lv_iload_n X.1 X.2.1 dX12_bytesIn_9 rfl (lv_at hl 1 rfl) ?_
                refine lv_iload_n X.1 X.2.1 dX12_bytesIn_10 rfl (lv_at hl 2 rfl) ?_
                refine lv_iload_n X.1 X.2.1 dX12_bytesIn_11 rfl (lv_at hl 0 rfl) ?_
                refine lv_ishr X.1 X.2.1 dX12_bytesIn_12 ?_
                refine lv_topi (fun f128 ef128 => ?_)
                refine lv_sipush (v := 255) X.1 X.2.1 dX12_bytesIn_13 (by decide +kernel) ?_
                refine lv_iand X.1 X.2.1 dX12_bytesIn_16 ?_
                refine lv_topi (fun f129 ef129 => ?_)
                refine lv_if_eq (tgt := 24) X.1 X.2.1 dX12_bytesIn_17 (by decide) (fun c130 => ?_) (fun c130 => ?_)
                · refine lv_iconst (v := 0) X.1 X.2.1 dX12_bytesIn_24 (by decide +kernel) ?_
                  refine lv_iadd X.1 X.2.1 dX12_bytesIn_25 ?_
                  refine lv_topi (fun f131 ef131 => ?_)
                  refine lv_istore_n (lv' := [(1, .int f131), (2, .int y126), (0, .int x0)]) X.1 X.2.1 dX12_bytesIn_26 rfl hl (by decide) rfl (fun ls hl => ?_)
                  obtain ⟨y132, ey132⟩ : ∃ y : Int32, y = y126 + Int32.ofInt (-8) := ⟨_, rfl⟩
                  refine lv_iinc (v := y132) (lv' := [(2, .int y132), (1, .int f131), (0, .int x0)]) X.1 X.2.1 dX12_bytesIn_27 hl (k := 1) rfl ey132.symm (by decide) rfl (fun ls hl => ?_)
                  refine lv_goto (tgt := 5) X.1 X.2.1 dX12_bytesIn_30 (by decide) ?_
                  refine lv_iload_n X.1 X.2.1 dX12_bytesIn_5 rfl (lv_at hl 0 rfl) ?_
                  refine lv_if_lt (tgt := 33) X.1 X.2.1 dX12_bytesIn_6 (by decide) (fun c133 => ?_) (fun c133 => ?_)
                  · refine lv_iload_n X.1 X.2.1 dX12_bytesIn_33 rfl (lv_at hl 1 rfl) ?_
                    have nb24 := sg_nbq ef2 ef3 (sg_kc (24) (iv_c 24 (a := 24) (b := 24) (by decide +kernel)) (by decide +kernel)) c4
                    have nb16 := sg_nbq ef82 ef83 (sg_kc (16) (iv_add (a' := 16) (b' := 16) ey80 (iv_c 24 (a := 24) (b := 24) (by decide +kernel)) (iv_c _ (a := (-8)) (b := (-8)) (by decide +kernel)) (by decide +kernel)) (by decide +kernel)) c84
                    have nb8 := sg_nbp ef122 ef123 (sg_kc (8) (iv_add (a' := 8) (b' := 8) ey120 (iv_add (a' := 16) (b' := 16) ey80 (iv_c 24 (a := 24) (b := 24) (by decide +kernel)) (iv_c _ (a := (-8)) (b := (-8)) (by decide +kernel)) (by decide +kernel)) (iv_c _ (a := (-8)) (b := (-8)) (by decide +kernel)) (by decide +kernel)) (by decide +kernel)) c124
                    have nb0 := sg_nbp ef128 ef129 (sg_kc (0) (iv_add (a' := 0) (b' := 0) ey126 (iv_add (a' := 8) (b' := 8) ey120 (iv_add (a' := 16) (b' := 16) ey80 (iv_c 24 (a := 24) (b := 24) (by decide +kernel)) (iv_c _ (a := (-8)) (b := (-8)) (by decide +kernel)) (by decide +kernel)) (iv_c _ (a := (-8)) (b := (-8)) (by decide +kernel)) (by decide +kernel)) (iv_c _ (a := (-8)) (b := (-8)) (by decide +kernel)) (by decide +kernel)) (by decide +kernel)) c130
                    have cq134 : (0 : Int32).toInt = 0 := by decide +kernel
                    have xf79 : f79.toInt = (0 : Int32).toInt + 1 := sg_inc (k := 1) ef79 (iv_c 0 (a := 0) (b := 0) (by decide +kernel)) (by decide +kernel)
                    have xf119 : f119.toInt = f79.toInt + 1 := sg_inc (k := 1) ef119 (iv_add (a' := 1) (b' := 1) ef79 (iv_c 0 (a := 0) (b := 0) (by decide +kernel)) (iv_c 1 (a := 1) (b := 1) (by decide +kernel)) (by decide +kernel)) (by decide +kernel)
                    have xf125 : f125.toInt = f119.toInt + 0 := sg_inc (k := 0) ef125 (iv_add (a' := 2) (b' := 2) ef119 (iv_add (a' := 1) (b' := 1) ef79 (iv_c 0 (a := 0) (b := 0) (by decide +kernel)) (iv_c 1 (a := 1) (b := 1) (by decide +kernel)) (by decide +kernel)) (iv_c 1 (a := 1) (b := 1) (by decide +kernel)) (by decide +kernel)) (by decide +kernel)
                    have xf131 : f131.toInt = f125.toInt + 0 := sg_inc (k := 0) ef131 (iv_add (a' := 2) (b' := 2) ef125 (iv_add (a' := 2) (b' := 2) ef119 (iv_add (a' := 1) (b' := 1) ef79 (iv_c 0 (a := 0) (b := 0) (by decide +kernel)) (iv_c 1 (a := 1) (b := 1) (by decide +kernel)) (by decide +kernel)) (iv_c 1 (a := 1) (b := 1) (by decide +kernel)) (by decide +kernel)) (iv_c 0 (a := 0) (b := 0) (by decide +kernel)) (by decide +kernel)) (by decide +kernel)
                    exact sg_iretP X hr hlk hS ⟨⟨by omega, by omega⟩, by unfold sg_nb; omega⟩ dX12_bytesIn_34
                  · exact ((iv_no (iv_le (b' := (-8)) (iv_ge_of c133) (iv_c 0 (a := 0) (b := 0) (by decide +kernel)) (iv_add (a' := (-8)) (b' := (-8)) ey132 (iv_add (a' := 0) (b' := 0) ey126 (iv_add (a' := 8) (b' := 8) ey120 (iv_add (a' := 16) (b' := 16) ey80 (iv_c 24 (a := 24) (b := 24) (by decide +kernel)) (iv_c _ (a := (-8)) (b := (-8)) (by decide +kernel)) (by decide +kernel)) (iv_c _ (a := (-8)) (b := (-8)) (by decide +kernel)) (by decide +kernel)) (iv_c _ (a := (-8)) (b := (-8)) (by decide +kernel)) (by decide +kernel)) (iv_c _ (a := (-8)) (b := (-8)) (by decide +kernel)) (by decide +kernel)) (by decide +kernel)) (by decide +kernel))).elim
                · refine lv_iconst (v := 1) X.1 X.2.1 dX12_bytesIn_20 (by decide +kernel) ?_
                  refine lv_goto (tgt := 25) X.1 X.2.1 dX12_bytesIn_21 (by decide) ?_
                  refine lv_iadd X.1 X.2.1 dX12_bytesIn_25 ?_
                  refine lv_topi (fun f135 ef135 => ?_)
                  refine lv_istore_n (lv' := [(1, .int f135), (2, .int y126), (0, .int x0)]) X.1 X.2.1 dX12_bytesIn_26 rfl hl (by decide) rfl (fun ls hl => ?_)
                  obtain ⟨y136, ey136⟩ : ∃ y : Int32, y = y126 + Int32.ofInt (-8) := ⟨_, rfl⟩
                  refine lv_iinc (v := y136) (lv' := [(2, .int y136), (1, .int f135), (0, .int x0)]) X.1 X.2.1 dX12_bytesIn_27 hl (k := 1) rfl ey136.symm (by decide) rfl (fun ls hl => ?_)
                  refine lv_goto (tgt := 5) X.1 X.2.1 dX12_bytesIn_30 (by decide) ?_
                  refine lv_iload_n X.1 X.2.1 dX12_bytesIn_5 rfl (lv_at hl 0 rfl) ?_
                  refine lv_if_lt (tgt := 33) X.1 X.2.1 dX12_bytesIn_6 (by decide) (fun c137 => ?_) (fun c137 => ?_)
                  · refine lv_iload_n X.1 X.2.1 dX12_bytesIn_33 rfl (lv_at hl 1 rfl) ?_
                    have nb24 := sg_nbq ef2 ef3 (sg_kc (24) (iv_c 24 (a := 24) (b := 24) (by decide +kernel)) (by decide +kernel)) c4
                    have nb16 := sg_nbq ef82 ef83 (sg_kc (16) (iv_add (a' := 16) (b' := 16) ey80 (iv_c 24 (a := 24) (b := 24) (by decide +kernel)) (iv_c _ (a := (-8)) (b := (-8)) (by decide +kernel)) (by decide +kernel)) (by decide +kernel)) c84
                    have nb8 := sg_nbp ef122 ef123 (sg_kc (8) (iv_add (a' := 8) (b' := 8) ey120 (iv_add (a' := 16) (b' := 16) ey80 (iv_c 24 (a := 24) (b := 24) (by decide +kernel)) (iv_c _ (a := (-8)) (b := (-8)) (by decide +kernel)) (by decide +kernel)) (iv_c _ (a := (-8)) (b := (-8)) (by decide +kernel)) (by decide +kernel)) (by decide +kernel)) c124
                    have nb0 := sg_nbq ef128 ef129 (sg_kc (0) (iv_add (a' := 0) (b' := 0) ey126 (iv_add (a' := 8) (b' := 8) ey120 (iv_add (a' := 16) (b' := 16) ey80 (iv_c 24 (a := 24) (b := 24) (by decide +kernel)) (iv_c _ (a := (-8)) (b := (-8)) (by decide +kernel)) (by decide +kernel)) (iv_c _ (a := (-8)) (b := (-8)) (by decide +kernel)) (by decide +kernel)) (iv_c _ (a := (-8)) (b := (-8)) (by decide +kernel)) (by decide +kernel)) (by decide +kernel)) c130
                    have cq138 : (0 : Int32).toInt = 0 := by decide +kernel
                    have xf79 : f79.toInt = (0 : Int32).toInt + 1 := sg_inc (k := 1) ef79 (iv_c 0 (a := 0) (b := 0) (by decide +kernel)) (by decide +kernel)
                    have xf119 : f119.toInt = f79.toInt + 1 := sg_inc (k := 1) ef119 (iv_add (a' := 1) (b' := 1) ef79 (iv_c 0 (a := 0) (b := 0) (by decide +kernel)) (iv_c 1 (a := 1) (b := 1) (by decide +kernel)) (by decide +kernel)) (by decide +kernel)
                    have xf125 : f125.toInt = f119.toInt + 0 := sg_inc (k := 0) ef125 (iv_add (a' := 2) (b' := 2) ef119 (iv_add (a' := 1) (b' := 1) ef79 (iv_c 0 (a := 0) (b := 0) (by decide +kernel)) (iv_c 1 (a := 1) (b := 1) (by decide +kernel)) (by decide +kernel)) (iv_c 1 (a := 1) (b := 1) (by decide +kernel)) (by decide +kernel)) (by decide +kernel)
                    have xf135 : f135.toInt = f125.toInt + 1 := sg_inc (k := 1) ef135 (iv_add (a' := 2) (b' := 2) ef125 (iv_add (a' := 2) (b' := 2) ef119 (iv_add (a' := 1) (b' := 1) ef79 (iv_c 0 (a := 0) (b := 0) (by decide +kernel)) (iv_c 1 (a := 1) (b := 1) (by decide +kernel)) (by decide +kernel)) (iv_c 1 (a := 1) (b := 1) (by decide +kernel)) (by decide +kernel)) (iv_c 0 (a := 0) (b := 0) (by decide +kernel)) (by decide +kernel)) (by decide +kernel)
                    exact sg_iretP X hr hlk hS ⟨⟨by omega, by omega⟩, by unfold sg_nb; omega⟩ dX12_bytesIn_34
                  · exact ((iv_no (iv_le (b' := (-8)) (iv_ge_of c137) (iv_c 0 (a := 0) (b := 0) (by decide +kernel)) (iv_add (a' := (-8)) (b' := (-8)) ey136 (iv_add (a' := 0) (b' := 0) ey126 (iv_add (a' := 8) (b' := 8) ey120 (iv_add (a' := 16) (b' := 16) ey80 (iv_c 24 (a := 24) (b := 24) (by decide +kernel)) (iv_c _ (a := (-8)) (b := (-8)) (by decide +kernel)) (by decide +kernel)) (iv_c _ (a := (-8)) (b := (-8)) (by decide +kernel)) (by decide +kernel)) (iv_c _ (a := (-8)) (b := (-8)) (by decide +kernel)) (by decide +kernel)) (iv_c _ (a := (-8)) (b := (-8)) (by decide +kernel)) (by decide +kernel)) (by decide +kernel)) (by decide +kernel))).elim
            · refine lv_iconst (v := 1) X.1 X.2.1 dX12_bytesIn_20 (by decide +kernel) ?_
              refine lv_goto (tgt := 25) X.1 X.2.1 dX12_bytesIn_21 (by decide) ?_
              refine lv_iadd X.1 X.2.1 dX12_bytesIn_25 ?_
              refine lv_topi (fun f139 ef139 => ?_)
              refine lv_istore_n (lv' := [(1, .int f139), (2, .int y120), (0, .int x0)]) X.1 X.2.1 dX12_bytesIn_26 rfl hl (by decide) rfl (fun ls hl => ?_)
              obtain ⟨y140, ey140⟩ : ∃ y : Int32, y = y120 + Int32.ofInt (-8) := ⟨_, rfl⟩
              refine lv_iinc (v := y140) (lv' := [(2, .int y140), (1, .int f139), (0, .int x0)]) X.1 X.2.1 dX12_bytesIn_27 hl (k := 1) rfl ey140.symm (by decide) rfl (fun ls hl => ?_)
              refine lv_goto (tgt := 5) X.1 X.2.1 dX12_bytesIn_30 (by decide) ?_
              refine lv_iload_n X.1 X.2.1 dX12_bytesIn_5 rfl (lv_at hl 0 rfl) ?_
              refine lv_if_lt (tgt := 33) X.1 X.2.1 dX12_bytesIn_6 (by decide) (fun c141 => ?_) (fun c141 => ?_)
              · exact ((iv_no (iv_lt (b' := (-1)) c141 (iv_add (a' := 0) (b' := 0) ey140 (iv_add (a' := 8) (b' := 8) ey120 (iv_add (a' := 16) (b' := 16) ey80 (iv_c 24 (a := 24) (b := 24) (by decide +kernel)) (iv_c _ (a := (-8)) (b := (-8)) (by decide +kernel)) (by decide +kernel)) (iv_c _ (a := (-8)) (b := (-8)) (by decide +kernel)) (by decide +kernel)) (iv_c _ (a := (-8)) (b := (-8)) (by decide +kernel)) (by decide +kernel)) (iv_c 0 (a := 0) (b := 0) (by decide +kernel)) (by decide +kernel)) (by decide +kernel))).elim
              · refine lv_iload_n X.1 X.2.1 dX12_bytesIn_9 rfl (lv_at hl 1 rfl) ?_
                refine lv_iload_n X.1 X.2.1 dX12_bytesIn_10 rfl (lv_at hl 2 rfl) ?_
                refine lv_iload_n X.1 X.2.1 dX12_bytesIn_11 rfl (lv_at hl 0 rfl) ?_
                refine lv_ishr X.1 X.2.1 dX12_bytesIn_12 ?_
                refine lv_topi (fun f142 ef142 => ?_)
                refine lv_sipush (v := 255) X.1 X.2.1 dX12_bytesIn_13 (by decide +kernel) ?_
                refine lv_iand X.1 X.2.1 dX12_bytesIn_16 ?_
                refine lv_topi (fun f143 ef143 => ?_)
                refine lv_if_eq (tgt := 24) X.1 X.2.1 dX12_bytesIn_17 (by decide) (fun c144 => ?_) (fun c144 => ?_)
                · refine lv_iconst (v := 0) X.1 X.2.1 dX12_bytesIn_24 (by decide +kernel) ?_
                  refine lv_iadd X.1 X.2.1 dX12_bytesIn_25 ?_
                  refine lv_topi (fun f145 ef145 => ?_)
                  refine lv_istore_n (lv' := [(1, .int f145), (2, .int y140), (0, .int x0)]) X.1 X.2.1 dX12_bytesIn_26 rfl hl (by decide) rfl (fun ls hl => ?_)
                  obtain ⟨y146, ey146⟩ : ∃ y : Int32, y = y140 + Int32.ofInt (-8) := ⟨_, rfl⟩
                  refine lv_iinc (v := y146) (lv' := [(2, .int y146), (1, .int f145), (0, .int x0)]) X.1 X.2.1 dX12_bytesIn_27 hl (k := 1) rfl ey146.symm (by decide) rfl (fun ls hl => ?_)
                  refine lv_goto (tgt := 5) X.1 X.2.1 dX12_bytesIn_30 (by decide) ?_
                  refine lv_iload_n X.1 X.2.1 dX12_bytesIn_5 rfl (lv_at hl 0 rfl) ?_
                  refine lv_if_lt (tgt := 33) X.1 X.2.1 dX12_bytesIn_6 (by decide) (fun c147 => ?_) (fun c147 => ?_)
                  · refine lv_iload_n X.1 X.2.1 dX12_bytesIn_33 rfl (lv_at hl 1 rfl) ?_
                    have nb24 := sg_nbq ef2 ef3 (sg_kc (24) (iv_c 24 (a := 24) (b := 24) (by decide +kernel)) (by decide +kernel)) c4
                    have nb16 := sg_nbq ef82 ef83 (sg_kc (16) (iv_add (a' := 16) (b' := 16) ey80 (iv_c 24 (a := 24) (b := 24) (by decide +kernel)) (iv_c _ (a := (-8)) (b := (-8)) (by decide +kernel)) (by decide +kernel)) (by decide +kernel)) c84
                    have nb8 := sg_nbq ef122 ef123 (sg_kc (8) (iv_add (a' := 8) (b' := 8) ey120 (iv_add (a' := 16) (b' := 16) ey80 (iv_c 24 (a := 24) (b := 24) (by decide +kernel)) (iv_c _ (a := (-8)) (b := (-8)) (by decide +kernel)) (by decide +kernel)) (iv_c _ (a := (-8)) (b := (-8)) (by decide +kernel)) (by decide +kernel)) (by decide +kernel)) c124
                    have nb0 := sg_nbp ef142 ef143 (sg_kc (0) (iv_add (a' := 0) (b' := 0) ey140 (iv_add (a' := 8) (b' := 8) ey120 (iv_add (a' := 16) (b' := 16) ey80 (iv_c 24 (a := 24) (b := 24) (by decide +kernel)) (iv_c _ (a := (-8)) (b := (-8)) (by decide +kernel)) (by decide +kernel)) (iv_c _ (a := (-8)) (b := (-8)) (by decide +kernel)) (by decide +kernel)) (iv_c _ (a := (-8)) (b := (-8)) (by decide +kernel)) (by decide +kernel)) (by decide +kernel)) c144
                    have cq148 : (0 : Int32).toInt = 0 := by decide +kernel
                    have xf79 : f79.toInt = (0 : Int32).toInt + 1 := sg_inc (k := 1) ef79 (iv_c 0 (a := 0) (b := 0) (by decide +kernel)) (by decide +kernel)
                    have xf119 : f119.toInt = f79.toInt + 1 := sg_inc (k := 1) ef119 (iv_add (a' := 1) (b' := 1) ef79 (iv_c 0 (a := 0) (b := 0) (by decide +kernel)) (iv_c 1 (a := 1) (b := 1) (by decide +kernel)) (by decide +kernel)) (by decide +kernel)
                    have xf139 : f139.toInt = f119.toInt + 1 := sg_inc (k := 1) ef139 (iv_add (a' := 2) (b' := 2) ef119 (iv_add (a' := 1) (b' := 1) ef79 (iv_c 0 (a := 0) (b := 0) (by decide +kernel)) (iv_c 1 (a := 1) (b := 1) (by decide +kernel)) (by decide +kernel)) (iv_c 1 (a := 1) (b := 1) (by decide +kernel)) (by decide +kernel)) (by decide +kernel)
                    have xf145 : f145.toInt = f139.toInt + 0 := sg_inc (k := 0) ef145 (iv_add (a' := 3) (b' := 3) ef139 (iv_add (a' := 2) (b' := 2) ef119 (iv_add (a' := 1) (b' := 1) ef79 (iv_c 0 (a := 0) (b := 0) (by decide +kernel)) (iv_c 1 (a := 1) (b := 1) (by decide +kernel)) (by decide +kernel)) (iv_c 1 (a := 1) (b := 1) (by decide +kernel)) (by decide +kernel)) (iv_c 1 (a := 1) (b := 1) (by decide +kernel)) (by decide +kernel)) (by decide +kernel)
                    exact sg_iretP X hr hlk hS ⟨⟨by omega, by omega⟩, by unfold sg_nb; omega⟩ dX12_bytesIn_34
                  · exact ((iv_no (iv_le (b' := (-8)) (iv_ge_of c147) (iv_c 0 (a := 0) (b := 0) (by decide +kernel)) (iv_add (a' := (-8)) (b' := (-8)) ey146 (iv_add (a' := 0) (b' := 0) ey140 (iv_add (a' := 8) (b' := 8) ey120 (iv_add (a' := 16) (b' := 16) ey80 (iv_c 24 (a := 24) (b := 24) (by decide +kernel)) (iv_c _ (a := (-8)) (b := (-8)) (by decide +kernel)) (by decide +kernel)) (iv_c _ (a := (-8)) (b := (-8)) (by decide +kernel)) (by decide +kernel)) (iv_c _ (a := (-8)) (b := (-8)) (by decide +kernel)) (by decide +kernel)) (iv_c _ (a := (-8)) (b := (-8)) (by decide +kernel)) (by decide +kernel)) (by decide +kernel)) (by decide +kernel))).elim
                · refine lv_iconst (v := 1) X.1 X.2.1 dX12_bytesIn_20 (by decide +kernel) ?_
                  refine lv_goto (tgt := 25) X.1 X.2.1 dX12_bytesIn_21 (by decide) ?_
                  refine lv_iadd X.1 X.2.1 dX12_bytesIn_25 ?_
                  refine lv_topi (fun f149 ef149 => ?_)
                  refine lv_istore_n (lv' := [(1, .int f149), (2, .int y140), (0, .int x0)]) X.1 X.2.1 dX12_bytesIn_26 rfl hl (by decide) rfl (fun ls hl => ?_)
                  obtain ⟨y150, ey150⟩ : ∃ y : Int32, y = y140 + Int32.ofInt (-8) := ⟨_, rfl⟩
                  refine lv_iinc (v := y150) (lv' := [(2, .int y150), (1, .int f149), (0, .int x0)]) X.1 X.2.1 dX12_bytesIn_27 hl (k := 1) rfl ey150.symm (by decide) rfl (fun ls hl => ?_)
                  refine lv_goto (tgt := 5) X.1 X.2.1 dX12_bytesIn_30 (by decide) ?_
                  refine lv_iload_n X.1 X.2.1 dX12_bytesIn_5 rfl (lv_at hl 0 rfl) ?_
                  refine lv_if_lt (tgt := 33) X.1 X.2.1 dX12_bytesIn_6 (by decide) (fun c151 => ?_) (fun c151 => ?_)
                  · refine lv_iload_n X.1 X.2.1 dX12_bytesIn_33 rfl (lv_at hl 1 rfl) ?_
                    have nb24 := sg_nbq ef2 ef3 (sg_kc (24) (iv_c 24 (a := 24) (b := 24) (by decide +kernel)) (by decide +kernel)) c4
                    have nb16 := sg_nbq ef82 ef83 (sg_kc (16) (iv_add (a' := 16) (b' := 16) ey80 (iv_c 24 (a := 24) (b := 24) (by decide +kernel)) (iv_c _ (a := (-8)) (b := (-8)) (by decide +kernel)) (by decide +kernel)) (by decide +kernel)) c84
                    have nb8 := sg_nbq ef122 ef123 (sg_kc (8) (iv_add (a' := 8) (b' := 8) ey120 (iv_add (a' := 16) (b' := 16) ey80 (iv_c 24 (a := 24) (b := 24) (by decide +kernel)) (iv_c _ (a := (-8)) (b := (-8)) (by decide +kernel)) (by decide +kernel)) (iv_c _ (a := (-8)) (b := (-8)) (by decide +kernel)) (by decide +kernel)) (by decide +kernel)) c124
                    have nb0 := sg_nbq ef142 ef143 (sg_kc (0) (iv_add (a' := 0) (b' := 0) ey140 (iv_add (a' := 8) (b' := 8) ey120 (iv_add (a' := 16) (b' := 16) ey80 (iv_c 24 (a := 24) (b := 24) (by decide +kernel)) (iv_c _ (a := (-8)) (b := (-8)) (by decide +kernel)) (by decide +kernel)) (iv_c _ (a := (-8)) (b := (-8)) (by decide +kernel)) (by decide +kernel)) (iv_c _ (a := (-8)) (b := (-8)) (by decide +kernel)) (by decide +kernel)) (by decide +kernel)) c144
                    have cq152 : (0 : Int32).toInt = 0 := by decide +kernel
                    have xf79 : f79.toInt = (0 : Int32).toInt + 1 := sg_inc (k := 1) ef79 (iv_c 0 (a := 0) (b := 0) (by decide +kernel)) (by decide +kernel)
                    have xf119 : f119.toInt = f79.toInt + 1 := sg_inc (k := 1) ef119 (iv_add (a' := 1) (b' := 1) ef79 (iv_c 0 (a := 0) (b := 0) (by decide +kernel)) (iv_c 1 (a := 1) (b := 1) (by decide +kernel)) (by decide +kernel)) (by decide +kernel)
                    have xf139 : f139.toInt = f119.toInt + 1 := sg_inc (k := 1) ef139 (iv_add (a' := 2) (b' := 2) ef119 (iv_add (a' := 1) (b' := 1) ef79 (iv_c 0 (a := 0) (b := 0) (by decide +kernel)) (iv_c 1 (a := 1) (b := 1) (by decide +kernel)) (by decide +kernel)) (iv_c 1 (a := 1) (b := 1) (by decide +kernel)) (by decide +kernel)) (by decide +kernel)
                    have xf149 : f149.toInt = f139.toInt + 1 := sg_inc (k := 1) ef149 (iv_add (a' := 3) (b' := 3) ef139 (iv_add (a' := 2) (b' := 2) ef119 (iv_add (a' := 1) (b' := 1) ef79 (iv_c 0 (a := 0) (b := 0) (by decide +kernel)) (iv_c 1 (a := 1) (b := 1) (by decide +kernel)) (by decide +kernel)) (iv_c 1 (a := 1) (b := 1) (by decide +kernel)) (by decide +kernel)) (iv_c 1 (a := 1) (b := 1) (by decide +kernel)) (by decide +kernel)) (by decide +kernel)
                    exact sg_iretP X hr hlk hS ⟨⟨by omega, by omega⟩, by unfold sg_nb; omega⟩ dX12_bytesIn_34
                  · exact ((iv_no (iv_le (b' := (-8)) (iv_ge_of c151) (iv_c 0 (a := 0) (b := 0) (by decide +kernel)) (iv_add (a' := (-8)) (b' := (-8)) ey150 (iv_add (a' := 0) (b' := 0) ey140 (iv_add (a' := 8) (b' := 8) ey120 (iv_add (a' := 16) (b' := 16) ey80 (iv_c 24 (a := 24) (b := 24) (by decide +kernel)) (iv_c _ (a := (-8)) (b := (-8)) (by decide +kernel)) (by decide +kernel)) (iv_c _ (a := (-8)) (b := (-8)) (by decide +kernel)) (by decide +kernel)) (iv_c _ (a := (-8)) (b := (-8)) (by decide +kernel)) (by decide +kernel)) (iv_c _ (a := (-8)) (b := (-8)) (by decide +kernel)) (by decide +kernel)) (by decide +kernel)) (by decide +kernel))).elim

theorem ca_X12_bytesIn_b   (X : CallFix p m c cc nL s args sg_tbl own) (hK : va_K D vwCl tys s) (hG : sgG (KT P) D vwCl (fun q : Nat => base ≤ q) tys ad ks H) (hC : sgC base s) (hA : ∀ q : Nat, A q → base ≤ q) (hS : va_S A s.heap H locs) (hb : base ≤ s.heap.size) (x0 : Int32) (hl : Cond.methodLink own index yX12_bytesIn ∈ sg_tbl) (hsize : ls.size = nL) (hst : st0 = [.int x0].reverse ++ rest) (hW : (rest.map fun v => v.category).sum ≤ 8) (hR : 1 ≤ R.frames ∧ 22 ≤ R.locals) (hf : cells ≤ R.cells ∧ slots ≤ R.slots) (hdg : decode cc pc = .ok (.invokestatic index, 3)) (kk : ∀ (r : Int32) (locs1 : List Loc), (fun r : Int32 => iv 0 4 r ∧ r.toInt = sg_nb x0) r → va_S A s.heap H locs1 → W p l e R s m args below meth c H locs1 cells slots Q (F0 m (pc + 3) ls (.int r :: rest))) : W p l e R s m args below meth c H locs cells slots Q (F0 m pc ls st0) :=
  sg_callPSi X hK hG hC hA hS hb (m_X12_bytesIn_b l x0) wl_7_105 wl_1_13 wl_7_104 (n := 1) (by decide +kernel) rfl rfl rfl hl hsize hst hW hR hf hdg kk
end
