
section
variable {p : Program} {l : Launch} {e : Env} {R : Room} {s : State} {m : MethodId} {args : Array Value} {below : List Frame} {meth : Method} {c : Code} {H : Heap} {locs : List Loc} {cells slots : Nat} {Q : State → Prop} {cc : ByteArray} {nL pc : Nat} {ls : Array Slot} {rest : List Value} {own : String} {D : va_G} {A : Nat → Prop} {tys : List (ClassId × FieldType)} {ad ks : List Nat} {P : sgPm} {H0 : Heap} {index : Nat} {base : Nat} {st0 : List Value} {a : Nat}

set_option maxHeartbeats 8000000 in
set_option maxRecDepth 100000 in
theorem m_J1_canEncode_9a6ad_v (l : Launch) {D : va_G} {base : Nat} {tys : List (ClassId × FieldType)} {ad ks : List Nat} {P : sgPm} {Hx : Heap} (x0 : Int32) (h0 : iv 0 255 x0) : sgPi l (KT P) D vwCl base tys ad ks Hx yJ1_canEncode_9a6ad cJ1_canEncode_9a6ad 1 (some .boolean) ({ frames := 0, cells := 0, slots := 0, locals := 0 }) [.int x0] (fun r : Int32 => iv 1 1 r) := by
  refine sg_ofP (Pq := fun Hx => va_Qi (fun r (_ : Unit) => (fun r : Int32 => iv 1 1 r) r) (fun _ t => t.heap = Hx) (fun _ : Nat => False)) (by decide +kernel) (Nat.le_of_ble_eq_true rfl) (fun p e s m below meth c X hr hlk hb hK hC hG ls hl => ?_)
  have hS : va_S (fun _ : Nat => False) s.heap s.heap [] := va_S.rf
  have hl : lv_has ls 1 [(0, .int x0)] := hl
  refine lv_iload_n X.1 X.2.1 dJ1_canEncode_9a6ad_0 rfl (lv_at hl 0 rfl) ?_
  refine lv_if_lt (tgt := 15) X.1 X.2.1 dJ1_canEncode_9a6ad_1 (by decide) (fun c1 => ?_) (fun c1 => ?_)
  · have i2 : x0.toInt < (0 : Int) := vq_lt c1 rfl (by decide +kernel)
    exact ((iv_no (iv_lt (b' := (-1)) c1 h0 (iv_c 0 (a := 0) (b := 0) (by decide +kernel)) (by decide +kernel)) (by decide +kernel))).elim
  · have i3 : ¬ x0.toInt < (0 : Int) := vq_le (iv_ge_of c1) (by decide +kernel) rfl
    refine lv_iload_n X.1 X.2.1 dJ1_canEncode_9a6ad_4 rfl (lv_at hl 0 rfl) ?_
    refine lv_sipush (v := 255) X.1 X.2.1 dJ1_canEncode_9a6ad_5 (by decide +kernel) ?_
    refine lv_icmp_gt (tgt := 15) X.1 X.2.1 dJ1_canEncode_9a6ad_8 (by decide) (fun c4 => ?_) (fun c4 => ?_)
    · have i5 : (255 : Int) < x0.toInt := vq_lt c4 (by decide +kernel) rfl
      exact ((iv_no (iv_lt (b' := 254) c4 (iv_c 255 (a := 255) (b := 255) (by decide +kernel)) h0 (by decide +kernel)) (by decide +kernel))).elim
    · have i6 : ¬ (255 : Int) < x0.toInt := vq_le (iv_ge_of c4) rfl (by decide +kernel)
      refine lv_iconst (v := 1) X.1 X.2.1 dJ1_canEncode_9a6ad_11 (by decide +kernel) ?_
      refine lv_goto (tgt := 16) X.1 X.2.1 dJ1_canEncode_9a6ad_12 (by decide) ?_
      exact sg_zretP X hr (sg_zn (iv_of (iv_c 1 (a := 1) (b := 1) (by decide +kernel)) (a' := 0) (b' := 1) (by decide +kernel))) hlk hS (iv_c 1 (a := 1) (b := 1) (by decide +kernel)) dJ1_canEncode_9a6ad_16

theorem ca_J1_canEncode_9a6ad_v   (X : CallFix p m c cc nL s args sg_tbl own) (hK : va_K D vwCl tys s) (hG : sgG (KT P) D vwCl (fun q : Nat => base ≤ q) tys ad ks H) (hC : sgC base s) (hA : ∀ q : Nat, A q → base ≤ q) (hS : va_S A s.heap H locs) (hb : base ≤ s.heap.size) (x0 : Int32) (h0 : iv 0 255 x0) (hl : Cond.methodLink own index yJ1_canEncode_9a6ad ∈ sg_tbl) (hsize : ls.size = nL) (hst : st0 = [.int x0].reverse ++ rest) (hW : (rest.map fun v => v.category).sum ≤ 8) (hR : 1 ≤ R.frames ∧ 20 ≤ R.locals) (hf : cells ≤ R.cells ∧ slots ≤ R.slots) (hdg : decode cc pc = .ok (.invokestatic index, 3)) (kk : ∀ (r : Int32) (locs1 : List Loc), (fun r : Int32 => iv 1 1 r) r → va_S A s.heap H locs1 → W p l e R s m args below meth c H locs1 cells slots Q (F0 m (pc + 3) ls (.int r :: rest))) : W p l e R s m args below meth c H locs cells slots Q (F0 m pc ls st0) :=
  sg_callPSi X hK hG hC hA hS hb (m_J1_canEncode_9a6ad_v l x0 h0) wl_3_98 wl_1_17 wl_3_97 (n := 1) (by decide +kernel) rfl rfl rfl hl hsize hst hW hR hf hdg kk

set_option maxHeartbeats 8000000 in
set_option maxRecDepth 100000 in
theorem m_J1_indexOfChar_4cfef_v7 (l : Launch) {D : va_G} {base : Nat} {tys : List (ClassId × FieldType)} {ad ks : List Nat} {P : sgPm} {Hx : Heap} (ta tv : Nat) (tb : List Int32) (x1 : Int32) (h1 : iv 0 255 x1) (x2 : Int32) (h2 : iv 0 0 x2) (x3 : Int32) (h3 : iv 7 7 x3) (htb : ∀ j : Nat, j < 7 → iv 0 127 (tb.getD j 0)) : sgEi l (KT P) D vwCl base tys ad ks Hx ta tv 7 tb yJ1_indexOfChar_4cfef cJ1_indexOfChar_4cfef 6 (some .int) ({ frames := 0, cells := 0, slots := 0, locals := 0 }) [.ref tv, .int x1, .int x2, .int x3] (fun r : Int32 => r.toInt = vIx tb x1.toInt 7 0) := by
  refine sg_ofE (Pq := fun Hx => va_Qi (fun r (_ : Unit) => (fun r : Int32 => r.toInt = vIx tb x1.toInt 7 0) r) (fun _ t => t.heap = Hx) (fun _ : Nat => False)) (by decide +kernel) (Nat.le_of_ble_eq_true rfl) (fun p e s m below meth c X hr hlk hb hK hC hG ls hl hp => ?_)
  have hS : va_S (fun _ : Nat => False) s.heap s.heap [] := va_S.rf
  have hl : lv_has ls 6 [(0, .ref tv), (1, .int x1), (2, .int x2), (3, .int x3)] := hl
  refine lv_iload_n X.1 X.2.1 dJ1_indexOfChar_4cfef_0 rfl (lv_at hl 1 rfl) ?_
  obtain ⟨f1, ef1⟩ : ∃ y : Int32, y = (x1 : Int32).toInt8.toInt32 := ⟨_, rfl⟩
  refine lv_i2b (v := f1) X.1 X.2.1 dJ1_indexOfChar_4cfef_1 ef1.symm ?_
  refine lv_istore (lv' := [(4, .int f1), (0, .ref tv), (1, .int x1), (2, .int x2), (3, .int x3)]) X.1 X.2.1 dJ1_indexOfChar_4cfef_2 hl (by decide) rfl (fun ls hl => ?_)
  refine lv_iload_n X.1 X.2.1 dJ1_indexOfChar_4cfef_4 rfl (lv_at hl 3 rfl) ?_
  refine lv_istore (lv' := [(5, .int x2), (4, .int f1), (0, .ref tv), (1, .int x1), (2, .int x2), (3, .int x3)]) X.1 X.2.1 dJ1_indexOfChar_4cfef_5 hl (by decide) rfl (fun ls hl => ?_)
  refine lv_iload X.1 X.2.1 dJ1_indexOfChar_4cfef_7 (lv_at hl 0 rfl) ?_
  refine lv_iload_n X.1 X.2.1 dJ1_indexOfChar_4cfef_9 rfl (lv_at hl 5 rfl) ?_
  refine lv_icmp_ge (tgt := 31) X.1 X.2.1 dJ1_indexOfChar_4cfef_10 (by decide) (fun c2 => ?_) (fun c2 => ?_)
  · have i3 : ¬ x2.toInt < x3.toInt := vq_le c2 rfl rfl
    exact ((iv_no (iv_le (b' := 0) c2 h3 h2 (by decide +kernel)) (by decide +kernel))).elim
  · have i4 : x2.toInt < x3.toInt := vq_lt (iv_gt_of c2) rfl rfl
    refine lv_aload_n X.1 X.2.1 dJ1_indexOfChar_4cfef_13 rfl (lv_at hl 2 rfl) ?_
    refine lv_iload X.1 X.2.1 dJ1_indexOfChar_4cfef_14 (lv_at hl 0 rfl) ?_
    refine va_tb X.1 X.2.1 hp.2.2.2.1 hS (i := x2) (iv_vpin h2 (by decide +kernel)) rfl dJ1_indexOfChar_4cfef_16 ?_
    refine lv_topi (fun f5 ef5 => ?_)
    have xf5 : f5.toInt = (tb.getD 0 0).toInt := by rw [ef5, sg_cl h2 (by decide)]; rfl
    refine lv_iload X.1 X.2.1 dJ1_indexOfChar_4cfef_17 (lv_at hl 1 rfl) ?_
    refine lv_icmp_ne (tgt := 25) X.1 X.2.1 dJ1_indexOfChar_4cfef_19 (by decide) (fun c6 => ?_) (fun c6 => ?_)
    · have i7 : ((tb.getD 0 0).toInt = x1.toInt) = False := vq_bne c6 ef1 h1 (by rw [ef5]; exact htb _ (sg_inlt (iv_vpin h2 (by decide +kernel)))) xf5 rfl
      obtain ⟨y9, ey9⟩ : ∃ y : Int32, y = x2 + Int32.ofInt 1 := ⟨_, rfl⟩
      have xy9 : y9.toInt = (x2.toInt + 1) := sg_exadd ey9 h2 (iv_c _ (a := 1) (b := 1) (by decide +kernel)) (by decide +kernel) rfl (by decide +kernel)
      refine lv_iinc (v := y9) (lv' := [(5, .int y9), (4, .int f1), (0, .ref tv), (1, .int x1), (2, .int x2), (3, .int x3)]) X.1 X.2.1 dJ1_indexOfChar_4cfef_25 hl (k := 0) rfl ey9.symm (by decide) rfl (fun ls hl => ?_)
      refine lv_goto (tgt := 7) X.1 X.2.1 dJ1_indexOfChar_4cfef_28 (by decide) ?_
      refine lv_iload X.1 X.2.1 dJ1_indexOfChar_4cfef_7 (lv_at hl 0 rfl) ?_
      refine lv_iload_n X.1 X.2.1 dJ1_indexOfChar_4cfef_9 rfl (lv_at hl 5 rfl) ?_
      refine lv_icmp_ge (tgt := 31) X.1 X.2.1 dJ1_indexOfChar_4cfef_10 (by decide) (fun c10 => ?_) (fun c10 => ?_)
      · have i11 : ¬ (x2.toInt + 1) < x3.toInt := vq_le c10 rfl xy9
        exact ((iv_no (iv_le (b' := 1) c10 h3 (iv_add (a' := 1) (b' := 1) ey9 h2 (iv_c _ (a := 1) (b := 1) (by decide +kernel)) (by decide +kernel)) (by decide +kernel)) (by decide +kernel))).elim
      · have i12 : (x2.toInt + 1) < x3.toInt := vq_lt (iv_gt_of c10) xy9 rfl
        refine lv_aload_n X.1 X.2.1 dJ1_indexOfChar_4cfef_13 rfl (lv_at hl 2 rfl) ?_
        refine lv_iload X.1 X.2.1 dJ1_indexOfChar_4cfef_14 (lv_at hl 0 rfl) ?_
        refine va_tb X.1 X.2.1 hp.2.2.2.1 hS (i := y9) (iv_vpin (iv_add (a' := 1) (b' := 1) ey9 h2 (iv_c _ (a := 1) (b := 1) (by decide +kernel)) (by decide +kernel)) (by decide +kernel)) rfl dJ1_indexOfChar_4cfef_16 ?_
        refine lv_topi (fun f13 ef13 => ?_)
        have xf13 : f13.toInt = (tb.getD 1 0).toInt := by rw [ef13, sg_cl (iv_add (a' := 1) (b' := 1) ey9 h2 (iv_c _ (a := 1) (b := 1) (by decide +kernel)) (by decide +kernel)) (by decide)]; rfl
        refine lv_iload X.1 X.2.1 dJ1_indexOfChar_4cfef_17 (lv_at hl 1 rfl) ?_
        refine lv_icmp_ne (tgt := 25) X.1 X.2.1 dJ1_indexOfChar_4cfef_19 (by decide) (fun c14 => ?_) (fun c14 => ?_)
        · have i15 : ((tb.getD 1 0).toInt = x1.toInt) = False := vq_bne c14 ef1 h1 (by rw [ef13]; exact htb _ (sg_inlt (iv_vpin (iv_add (a' := 1) (b' := 1) ey9 h2 (iv_c _ (a := 1) (b := 1) (by decide +kernel)) (by decide +kernel)) (by decide +kernel)))) xf13 rfl
          obtain ⟨y17, ey17⟩ : ∃ y : Int32, y = y9 + Int32.ofInt 1 := ⟨_, rfl⟩
          have xy17 : y17.toInt = ((x2.toInt + 1) + 1) := sg_exadd ey17 (iv_add (a' := 1) (b' := 1) ey9 h2 (iv_c _ (a := 1) (b := 1) (by decide +kernel)) (by decide +kernel)) (iv_c _ (a := 1) (b := 1) (by decide +kernel)) (by decide +kernel) xy9 (by decide +kernel)
          refine lv_iinc (v := y17) (lv' := [(5, .int y17), (4, .int f1), (0, .ref tv), (1, .int x1), (2, .int x2), (3, .int x3)]) X.1 X.2.1 dJ1_indexOfChar_4cfef_25 hl (k := 0) rfl ey17.symm (by decide) rfl (fun ls hl => ?_)
          refine lv_goto (tgt := 7) X.1 X.2.1 dJ1_indexOfChar_4cfef_28 (by decide) ?_
          refine lv_iload X.1 X.2.1 dJ1_indexOfChar_4cfef_7 (lv_at hl 0 rfl) ?_
          refine lv_iload_n X.1 X.2.1 dJ1_indexOfChar_4cfef_9 rfl (lv_at hl 5 rfl) ?_
          refine lv_icmp_ge (tgt := 31) X.1 X.2.1 dJ1_indexOfChar_4cfef_10 (by decide) (fun c18 => ?_) (fun c18 => ?_)
          · have i19 : ¬ ((x2.toInt + 1) + 1) < x3.toInt := vq_le c18 rfl xy17
            exact ((iv_no (iv_le (b' := 2) c18 h3 (iv_add (a' := 2) (b' := 2) ey17 (iv_add (a' := 1) (b' := 1) ey9 h2 (iv_c _ (a := 1) (b := 1) (by decide +kernel)) (by decide +kernel)) (iv_c _ (a := 1) (b := 1) (by decide +kernel)) (by decide +kernel)) (by decide +kernel)) (by decide +kernel))).elim
          · have i20 : ((x2.toInt + 1) + 1) < x3.toInt := vq_lt (iv_gt_of c18) xy17 rfl
            refine lv_aload_n X.1 X.2.1 dJ1_indexOfChar_4cfef_13 rfl (lv_at hl 2 rfl) ?_
            refine lv_iload X.1 X.2.1 dJ1_indexOfChar_4cfef_14 (lv_at hl 0 rfl) ?_
            refine va_tb X.1 X.2.1 hp.2.2.2.1 hS (i := y17) (iv_vpin (iv_add (a' := 2) (b' := 2) ey17 (iv_add (a' := 1) (b' := 1) ey9 h2 (iv_c _ (a := 1) (b := 1) (by decide +kernel)) (by decide +kernel)) (iv_c _ (a := 1) (b := 1) (by decide +kernel)) (by decide +kernel)) (by decide +kernel)) rfl dJ1_indexOfChar_4cfef_16 ?_
            refine lv_topi (fun f21 ef21 => ?_)
            have xf21 : f21.toInt = (tb.getD 2 0).toInt := by rw [ef21, sg_cl (iv_add (a' := 2) (b' := 2) ey17 (iv_add (a' := 1) (b' := 1) ey9 h2 (iv_c _ (a := 1) (b := 1) (by decide +kernel)) (by decide +kernel)) (iv_c _ (a := 1) (b := 1) (by decide +kernel)) (by decide +kernel)) (by decide)]; rfl
            refine lv_iload X.1 X.2.1 dJ1_indexOfChar_4cfef_17 (lv_at hl 1 rfl) ?_
            refine lv_icmp_ne (tgt := 25) X.1 X.2.1 dJ1_indexOfChar_4cfef_19 (by decide) (fun c22 => ?_) (fun c22 => ?_)
            · have i23 : ((tb.getD 2 0).toInt = x1.toInt) = False := vq_bne c22 ef1 h1 (by rw [ef21]; exact htb _ (sg_inlt (iv_vpin (iv_add (a' := 2) (b' := 2) ey17 (iv_add (a' := 1) (b' := 1) ey9 h2 (iv_c _ (a := 1) (b := 1) (by decide +kernel)) (by decide +kernel)) (iv_c _ (a := 1) (b := 1) (by decide +kernel)) (by decide +kernel)) (by decide +kernel)))) xf21 rfl
              obtain ⟨y25, ey25⟩ : ∃ y : Int32, y = y17 + Int32.ofInt 1 := ⟨_, rfl⟩
              have xy25 : y25.toInt = (((x2.toInt + 1) + 1) + 1) := sg_exadd ey25 (iv_add (a' := 2) (b' := 2) ey17 (iv_add (a' := 1) (b' := 1) ey9 h2 (iv_c _ (a := 1) (b := 1) (by decide +kernel)) (by decide +kernel)) (iv_c _ (a := 1) (b := 1) (by decide +kernel)) (by decide +kernel)) (iv_c _ (a := 1) (b := 1) (by decide +kernel)) (by decide +kernel) xy17 (by decide +kernel)
              refine lv_iinc (v := y25) (lv' := [(5, .int y25), (4, .int f1), (0, .ref tv), (1, .int x1), (2, .int x2), (3, .int x3)]) X.1 X.2.1 dJ1_indexOfChar_4cfef_25 hl (k := 0) rfl ey25.symm (by decide) rfl (fun ls hl => ?_)
              refine lv_goto (tgt := 7) X.1 X.2.1 dJ1_indexOfChar_4cfef_28 (by decide) ?_
              refine lv_iload X.1 X.2.1 dJ1_indexOfChar_4cfef_7 (lv_at hl 0 rfl) ?_
              refine lv_iload_n X.1 X.2.1 dJ1_indexOfChar_4cfef_9 rfl (lv_at hl 5 rfl) ?_
              refine lv_icmp_ge (tgt := 31) X.1 X.2.1 dJ1_indexOfChar_4cfef_10 (by decide) (fun c26 => ?_) (fun c26 => ?_)
              · have i27 : ¬ (((x2.toInt + 1) + 1) + 1) < x3.toInt := vq_le c26 rfl xy25
                exact ((iv_no (iv_le (b' := 3) c26 h3 (iv_add (a' := 3) (b' := 3) ey25 (iv_add (a' := 2) (b' := 2) ey17 (iv_add (a' := 1) (b' := 1) ey9 h2 (iv_c _ (a := 1) (b := 1) (by decide +kernel)) (by decide +kernel)) (iv_c _ (a := 1) (b := 1) (by decide +kernel)) (by decide +kernel)) (iv_c _ (a := 1) (b := 1) (by decide +kernel)) (by decide +kernel)) (by decide +kernel)) (by decide +kernel))).elim
              · have i28 : (((x2.toInt + 1) + 1) + 1) < x3.toInt := vq_lt (iv_gt_of c26) xy25 rfl
                refine lv_aload_n X.1 X.2.1 dJ1_indexOfChar_4cfef_13 rfl (lv_at hl 2 rfl) ?_
                refine lv_iload X.1 X.2.1 dJ1_indexOfChar_4cfef_14 (lv_at hl 0 rfl) ?_
                refine va_tb X.1 X.2.1 hp.2.2.2.1 hS (i := y25) (iv_vpin (iv_add (a' := 3) (b' := 3) ey25 (iv_add (a' := 2) (b' := 2) ey17 (iv_add (a' := 1) (b' := 1) ey9 h2 (iv_c _ (a := 1) (b := 1) (by decide +kernel)) (by decide +kernel)) (iv_c _ (a := 1) (b := 1) (by decide +kernel)) (by decide +kernel)) (iv_c _ (a := 1) (b := 1) (by decide +kernel)) (by decide +kernel)) (by decide +kernel)) rfl dJ1_indexOfChar_4cfef_16 ?_
                refine lv_topi (fun f29 ef29 => ?_)
                have xf29 : f29.toInt = (tb.getD 3 0).toInt := by rw [ef29, sg_cl (iv_add (a' := 3) (b' := 3) ey25 (iv_add (a' := 2) (b' := 2) ey17 (iv_add (a' := 1) (b' := 1) ey9 h2 (iv_c _ (a := 1) (b := 1) (by decide +kernel)) (by decide +kernel)) (iv_c _ (a := 1) (b := 1) (by decide +kernel)) (by decide +kernel)) (iv_c _ (a := 1) (b := 1) (by decide +kernel)) (by decide +kernel)) (by decide)]; rfl
                refine lv_iload X.1 X.2.1 dJ1_indexOfChar_4cfef_17 (lv_at hl 1 rfl) ?_
                refine lv_icmp_ne (tgt := 25) X.1 X.2.1 dJ1_indexOfChar_4cfef_19 (by decide) (fun c30 => ?_) (fun c30 => ?_)
                · have i31 : ((tb.getD 3 0).toInt = x1.toInt) = False := vq_bne c30 ef1 h1 (by rw [ef29]; exact htb _ (sg_inlt (iv_vpin (iv_add (a' := 3) (b' := 3) ey25 (iv_add (a' := 2) (b' := 2) ey17 (iv_add (a' := 1) (b' := 1) ey9 h2 (iv_c _ (a := 1) (b := 1) (by decide +kernel)) (by decide +kernel)) (iv_c _ (a := 1) (b := 1) (by decide +kernel)) (by decide +kernel)) (iv_c _ (a := 1) (b := 1) (by decide +kernel)) (by decide +kernel)) (by decide +kernel)))) xf29 rfl
                  obtain ⟨y33, ey33⟩ : ∃ y : Int32, y = y25 + Int32.ofInt 1 := ⟨_, rfl⟩
                  have xy33 : y33.toInt = ((((x2.toInt + 1) + 1) + 1) + 1) := sg_exadd ey33 (iv_add (a' := 3) (b' := 3) ey25 (iv_add (a' := 2) (b' := 2) ey17 (iv_add (a' := 1) (b' := 1) ey9 h2 (iv_c _ (a := 1) (b := 1) (by decide +kernel)) (by decide +kernel)) (iv_c _ (a := 1) (b := 1) (by decide +kernel)) (by decide +kernel)) (iv_c _ (a := 1) (b := 1) (by decide +kernel)) (by decide +kernel)) (iv_c _ (a := 1) (b := 1) (by decide +kernel)) (by decide +kernel) xy25 (by decide +kernel)
                  refine lv_iinc (v := y33) (lv' := [(5, .int y33), (4, .int f1), (0, .ref tv), (1, .int x1), (2, .int x2), (3, .int x3)]) X.1 X.2.1 dJ1_indexOfChar_4cfef_25 hl (k := 0) rfl ey33.symm (by decide) rfl (fun ls hl => ?_)
                  refine lv_goto (tgt := 7) X.1 X.2.1 dJ1_indexOfChar_4cfef_28 (by decide) ?_
                  refine lv_iload X.1 X.2.1 dJ1_indexOfChar_4cfef_7 (lv_at hl 0 rfl) ?_
                  refine lv_iload_n X.1 X.2.1 dJ1_indexOfChar_4cfef_9 rfl (lv_at hl 5 rfl) ?_
                  refine lv_icmp_ge (tgt := 31) X.1 X.2.1 dJ1_indexOfChar_4cfef_10 (by decide) (fun c34 => ?_) (fun c34 => ?_)
                  · have i35 : ¬ ((((x2.toInt + 1) + 1) + 1) + 1) < x3.toInt := vq_le c34 rfl xy33
                    exact ((iv_no (iv_le (b' := 4) c34 h3 (iv_add (a' := 4) (b' := 4) ey33 (iv_add (a' := 3) (b' := 3) ey25 (iv_add (a' := 2) (b' := 2) ey17 (iv_add (a' := 1) (b' := 1) ey9 h2 (iv_c _ (a := 1) (b := 1) (by decide +kernel)) (by decide +kernel)) (iv_c _ (a := 1) (b := 1) (by decide +kernel)) (by decide +kernel)) (iv_c _ (a := 1) (b := 1) (by decide +kernel)) (by decide +kernel)) (iv_c _ (a := 1) (b := 1) (by decide +kernel)) (by decide +kernel)) (by decide +kernel)) (by decide +kernel))).elim
                  · have i36 : ((((x2.toInt + 1) + 1) + 1) + 1) < x3.toInt := vq_lt (iv_gt_of c34) xy33 rfl
                    refine lv_aload_n X.1 X.2.1 dJ1_indexOfChar_4cfef_13 rfl (lv_at hl 2 rfl) ?_
                    refine lv_iload X.1 X.2.1 dJ1_indexOfChar_4cfef_14 (lv_at hl 0 rfl) ?_
                    refine va_tb X.1 X.2.1 hp.2.2.2.1 hS (i := y33) (iv_vpin (iv_add (a' := 4) (b' := 4) ey33 (iv_add (a' := 3) (b' := 3) ey25 (iv_add (a' := 2) (b' := 2) ey17 (iv_add (a' := 1) (b' := 1) ey9 h2 (iv_c _ (a := 1) (b := 1) (by decide +kernel)) (by decide +kernel)) (iv_c _ (a := 1) (b := 1) (by decide +kernel)) (by decide +kernel)) (iv_c _ (a := 1) (b := 1) (by decide +kernel)) (by decide +kernel)) (iv_c _ (a := 1) (b := 1) (by decide +kernel)) (by decide +kernel)) (by decide +kernel)) rfl dJ1_indexOfChar_4cfef_16 ?_
                    refine lv_topi (fun f37 ef37 => ?_)
                    have xf37 : f37.toInt = (tb.getD 4 0).toInt := by rw [ef37, sg_cl (iv_add (a' := 4) (b' := 4) ey33 (iv_add (a' := 3) (b' := 3) ey25 (iv_add (a' := 2) (b' := 2) ey17 (iv_add (a' := 1) (b' := 1) ey9 h2 (iv_c _ (a := 1) (b := 1) (by decide +kernel)) (by decide +kernel)) (iv_c _ (a := 1) (b := 1) (by decide +kernel)) (by decide +kernel)) (iv_c _ (a := 1) (b := 1) (by decide +kernel)) (by decide +kernel)) (iv_c _ (a := 1) (b := 1) (by decide +kernel)) (by decide +kernel)) (by decide)]; rfl
                    refine lv_iload X.1 X.2.1 dJ1_indexOfChar_4cfef_17 (lv_at hl 1 rfl) ?_
                    refine lv_icmp_ne (tgt := 25) X.1 X.2.1 dJ1_indexOfChar_4cfef_19 (by decide) (fun c38 => ?_) (fun c38 => ?_)
                    · have i39 : ((tb.getD 4 0).toInt = x1.toInt) = False := vq_bne c38 ef1 h1 (by rw [ef37]; exact htb _ (sg_inlt (iv_vpin (iv_add (a' := 4) (b' := 4) ey33 (iv_add (a' := 3) (b' := 3) ey25 (iv_add (a' := 2) (b' := 2) ey17 (iv_add (a' := 1) (b' := 1) ey9 h2 (iv_c _ (a := 1) (b := 1) (by decide +kernel)) (by decide +kernel)) (iv_c _ (a := 1) (b := 1) (by decide +kernel)) (by decide +kernel)) (iv_c _ (a := 1) (b := 1) (by decide +kernel)) (by decide +kernel)) (iv_c _ (a := 1) (b := 1) (by decide +kernel)) (by decide +kernel)) (by decide +kernel)))) xf37 rfl
                      obtain ⟨y41, ey41⟩ : ∃ y : Int32, y = y33 + Int32.ofInt 1 := ⟨_, rfl⟩
                      have xy41 : y41.toInt = (((((x2.toInt + 1) + 1) + 1) + 1) + 1) := sg_exadd ey41 (iv_add (a' := 4) (b' := 4) ey33 (iv_add (a' := 3) (b' := 3) ey25 (iv_add (a' := 2) (b' := 2) ey17 (iv_add (a' := 1) (b' := 1) ey9 h2 (iv_c _ (a := 1) (b := 1) (by decide +kernel)) (by decide +kernel)) (iv_c _ (a := 1) (b := 1) (by decide +kernel)) (by decide +kernel)) (iv_c _ (a := 1) (b := 1) (by decide +kernel)) (by decide +kernel)) (iv_c _ (a := 1) (b := 1) (by decide +kernel)) (by decide +kernel)) (iv_c _ (a := 1) (b := 1) (by decide +kernel)) (by decide +kernel) xy33 (by decide +kernel)
                      refine lv_iinc (v := y41) (lv' := [(5, .int y41), (4, .int f1), (0, .ref tv), (1, .int x1), (2, .int x2), (3, .int x3)]) X.1 X.2.1 dJ1_indexOfChar_4cfef_25 hl (k := 0) rfl ey41.symm (by decide) rfl (fun ls hl => ?_)
                      refine lv_goto (tgt := 7) X.1 X.2.1 dJ1_indexOfChar_4cfef_28 (by decide) ?_
                      refine lv_iload X.1 X.2.1 dJ1_indexOfChar_4cfef_7 (lv_at hl 0 rfl) ?_
                      refine lv_iload_n X.1 X.2.1 dJ1_indexOfChar_4cfef_9 rfl (lv_at hl 5 rfl) ?_
                      refine lv_icmp_ge (tgt := 31) X.1 X.2.1 dJ1_indexOfChar_4cfef_10 (by decide) (fun c42 => ?_) (fun c42 => ?_)
                      · have i43 : ¬ (((((x2.toInt + 1) + 1) + 1) + 1) + 1) < x3.toInt := vq_le c42 rfl xy41
                        exact ((iv_no (iv_le (b' := 5) c42 h3 (iv_add (a' := 5) (b' := 5) ey41 (iv_add (a' := 4) (b' := 4) ey33 (iv_add (a' := 3) (b' := 3) ey25 (iv_add (a' := 2) (b' := 2) ey17 (iv_add (a' := 1) (b' := 1) ey9 h2 (iv_c _ (a := 1) (b := 1) (by decide +kernel)) (by decide +kernel)) (iv_c _ (a := 1) (b := 1) (by decide +kernel)) (by decide +kernel)) (iv_c _ (a := 1) (b := 1) (by decide +kernel)) (by decide +kernel)) (iv_c _ (a := 1) (b := 1) (by decide +kernel)) (by decide +kernel)) (iv_c _ (a := 1) (b := 1) (by decide +kernel)) (by decide +kernel)) (by decide +kernel)) (by decide +kernel))).elim
                      · have i44 : (((((x2.toInt + 1) + 1) + 1) + 1) + 1) < x3.toInt := vq_lt (iv_gt_of c42) xy41 rfl
                        refine lv_aload_n X.1 X.2.1 dJ1_indexOfChar_4cfef_13 rfl (lv_at hl 2 rfl) ?_
                        refine lv_iload X.1 X.2.1 dJ1_indexOfChar_4cfef_14 (lv_at hl 0 rfl) ?_
                        refine va_tb X.1 X.2.1 hp.2.2.2.1 hS (i := y41) (iv_vpin (iv_add (a' := 5) (b' := 5) ey41 (iv_add (a' := 4) (b' := 4) ey33 (iv_add (a' := 3) (b' := 3) ey25 (iv_add (a' := 2) (b' := 2) ey17 (iv_add (a' := 1) (b' := 1) ey9 h2 (iv_c _ (a := 1) (b := 1) (by decide +kernel)) (by decide +kernel)) (iv_c _ (a := 1) (b := 1) (by decide +kernel)) (by decide +kernel)) (iv_c _ (a := 1) (b := 1) (by decide +kernel)) (by decide +kernel)) (iv_c _ (a := 1) (b := 1) (by decide +kernel)) (by decide +kernel)) (iv_c _ (a := 1) (b := 1) (by decide +kernel)) (by decide +kernel)) (by decide +kernel)) rfl dJ1_indexOfChar_4cfef_16 ?_
                        refine lv_topi (fun f45 ef45 => ?_)
                        have xf45 : f45.toInt = (tb.getD 5 0).toInt := by rw [ef45, sg_cl (iv_add (a' := 5) (b' := 5) ey41 (iv_add (a' := 4) (b' := 4) ey33 (iv_add (a' := 3) (b' := 3) ey25 (iv_add (a' := 2) (b' := 2) ey17 (iv_add (a' := 1) (b' := 1) ey9 h2 (iv_c _ (a := 1) (b := 1) (by decide +kernel)) (by decide +kernel)) (iv_c _ (a := 1) (b := 1) (by decide +kernel)) (by decide +kernel)) (iv_c _ (a := 1) (b := 1) (by decide +kernel)) (by decide +kernel)) (iv_c _ (a := 1) (b := 1) (by decide +kernel)) (by decide +kernel)) (iv_c _ (a := 1) (b := 1) (by decide +kernel)) (by decide +kernel)) (by decide)]; rfl
                        refine lv_iload X.1 X.2.1 dJ1_indexOfChar_4cfef_17 (lv_at hl 1 rfl) ?_
                        refine lv_icmp_ne (tgt := 25) X.1 X.2.1 dJ1_indexOfChar_4cfef_19 (by decide) (fun c46 => ?_) (fun c46 => ?_)
                        · have i47 : ((tb.getD 5 0).toInt = x1.toInt) = False := vq_bne c46 ef1 h1 (by rw [ef45]; exact htb _ (sg_inlt (iv_vpin (iv_add (a' := 5) (b' := 5) ey41 (iv_add (a' := 4) (b' := 4) ey33 (iv_add (a' := 3) (b' := 3) ey25 (iv_add (a' := 2) (b' := 2) ey17 (iv_add (a' := 1) (b' := 1) ey9 h2 (iv_c _ (a := 1) (b := 1) (by decide +kernel)) (by decide +kernel)) (iv_c _ (a := 1) (b := 1) (by decide +kernel)) (by decide +kernel)) (iv_c _ (a := 1) (b := 1) (by decide +kernel)) (by decide +kernel)) (iv_c _ (a := 1) (b := 1) (by decide +kernel)) (by decide +kernel)) (iv_c _ (a := 1) (b := 1) (by decide +kernel)) (by decide +kernel)) (by decide +kernel)))) xf45 rfl
                          obtain ⟨y49, ey49⟩ : ∃ y : Int32, y = y41 + Int32.ofInt 1 := ⟨_, rfl⟩
                          have xy49 : y49.toInt = ((((((x2.toInt + 1) + 1) + 1) + 1) + 1) + 1) := sg_exadd ey49 (iv_add (a' := 5) (b' := 5) ey41 (iv_add (a' := 4) (b' := 4) ey33 (iv_add (a' := 3) (b' := 3) ey25 (iv_add (a' := 2) (b' := 2) ey17 (iv_add (a' := 1) (b' := 1) ey9 h2 (iv_c _ (a := 1) (b := 1) (by decide +kernel)) (by decide +kernel)) (iv_c _ (a := 1) (b := 1) (by decide +kernel)) (by decide +kernel)) (iv_c _ (a := 1) (b := 1) (by decide +kernel)) (by decide +kernel)) (iv_c _ (a := 1) (b := 1) (by decide +kernel)) (by decide +kernel)) (iv_c _ (a := 1) (b := 1) (by decide +kernel)) (by decide +kernel)) (iv_c _ (a := 1) (b := 1) (by decide +kernel)) (by decide +kernel) xy41 (by decide +kernel)
                          refine lv_iinc (v := y49) (lv' := [(5, .int y49), (4, .int f1), (0, .ref tv), (1, .int x1), (2, .int x2), (3, .int x3)]) X.1 X.2.1 dJ1_indexOfChar_4cfef_25 hl (k := 0) rfl ey49.symm (by decide) rfl (fun ls hl => ?_)
                          refine lv_goto (tgt := 7) X.1 X.2.1 dJ1_indexOfChar_4cfef_28 (by decide) ?_
                          refine lv_iload X.1 X.2.1 dJ1_indexOfChar_4cfef_7 (lv_at hl 0 rfl) ?_
                          refine lv_iload_n X.1 X.2.1 dJ1_indexOfChar_4cfef_9 rfl (lv_at hl 5 rfl) ?_
                          refine lv_icmp_ge (tgt := 31) X.1 X.2.1 dJ1_indexOfChar_4cfef_10 (by decide) (fun c50 => ?_) (fun c50 => ?_)
                          · have i51 : ¬ ((((((x2.toInt + 1) + 1) + 1) + 1) + 1) + 1) < x3.toInt := vq_le c50 rfl xy49
                            exact ((iv_no (iv_le (b' := 6) c50 h3 (iv_add (a' := 6) (b' := 6) ey49 (iv_add (a' := 5) (b' := 5) ey41 (iv_add (a' := 4) (b' := 4) ey33 (iv_add (a' := 3) (b' := 3) ey25 (iv_add (a' := 2) (b' := 2) ey17 (iv_add (a' := 1) (b' := 1) ey9 h2 (iv_c _ (a := 1) (b := 1) (by decide +kernel)) (by decide +kernel)) (iv_c _ (a := 1) (b := 1) (by decide +kernel)) (by decide +kernel)) (iv_c _ (a := 1) (b := 1) (by decide +kernel)) (by decide +kernel)) (iv_c _ (a := 1) (b := 1) (by decide +kernel)) (by decide +kernel)) (iv_c _ (a := 1) (b := 1) (by decide +kernel)) (by decide +kernel)) (iv_c _ (a := 1) (b := 1) (by decide +kernel)) (by decide +kernel)) (by decide +kernel)) (by decide +kernel))).elim
                          · have i52 : ((((((x2.toInt + 1) + 1) + 1) + 1) + 1) + 1) < x3.toInt := vq_lt (iv_gt_of c50) xy49 rfl
                            refine lv_aload_n X.1 X.2.1 dJ1_indexOfChar_4cfef_13 rfl (lv_at hl 2 rfl) ?_
                            refine lv_iload X.1 X.2.1 dJ1_indexOfChar_4cfef_14 (lv_at hl 0 rfl) ?_
                            refine va_tb X.1 X.2.1 hp.2.2.2.1 hS (i := y49) (iv_vpin (iv_add (a' := 6) (b' := 6) ey49 (iv_add (a' := 5) (b' := 5) ey41 (iv_add (a' := 4) (b' := 4) ey33 (iv_add (a' := 3) (b' := 3) ey25 (iv_add (a' := 2) (b' := 2) ey17 (iv_add (a' := 1) (b' := 1) ey9 h2 (iv_c _ (a := 1) (b := 1) (by decide +kernel)) (by decide +kernel)) (iv_c _ (a := 1) (b := 1) (by decide +kernel)) (by decide +kernel)) (iv_c _ (a := 1) (b := 1) (by decide +kernel)) (by decide +kernel)) (iv_c _ (a := 1) (b := 1) (by decide +kernel)) (by decide +kernel)) (iv_c _ (a := 1) (b := 1) (by decide +kernel)) (by decide +kernel)) (iv_c _ (a := 1) (b := 1) (by decide +kernel)) (by decide +kernel)) (by decide +kernel)) rfl dJ1_indexOfChar_4cfef_16 ?_
                            refine lv_topi (fun f53 ef53 => ?_)
                            have xf53 : f53.toInt = (tb.getD 6 0).toInt := by rw [ef53, sg_cl (iv_add (a' := 6) (b' := 6) ey49 (iv_add (a' := 5) (b' := 5) ey41 (iv_add (a' := 4) (b' := 4) ey33 (iv_add (a' := 3) (b' := 3) ey25 (iv_add (a' := 2) (b' := 2) ey17 (iv_add (a' := 1) (b' := 1) ey9 h2 (iv_c _ (a := 1) (b := 1) (by decide +kernel)) (by decide +kernel)) (iv_c _ (a := 1) (b := 1) (by decide +kernel)) (by decide +kernel)) (iv_c _ (a := 1) (b := 1) (by decide +kernel)) (by decide +kernel)) (iv_c _ (a := 1) (b := 1) (by decide +kernel)) (by decide +kernel)) (iv_c _ (a := 1) (b := 1) (by decide +kernel)) (by decide +kernel)) (iv_c _ (a := 1) (b := 1) (by decide +kernel)) (by decide +kernel)) (by decide)]; rfl
                            refine lv_iload X.1 X.2.1 dJ1_indexOfChar_4cfef_17 (lv_at hl 1 rfl) ?_
                            refine lv_icmp_ne (tgt := 25) X.1 X.2.1 dJ1_indexOfChar_4cfef_19 (by decide) (fun c54 => ?_) (fun c54 => ?_)
                            · have i55 : ((tb.getD 6 0).toInt = x1.toInt) = False := vq_bne c54 ef1 h1 (by rw [ef53]; exact htb _ (sg_inlt (iv_vpin (iv_add (a' := 6) (b' := 6) ey49 (iv_add (a' := 5) (b' := 5) ey41 (iv_add (a' := 4) (b' := 4) ey33 (iv_add (a' := 3) (b' := 3) ey25 (iv_add (a' := 2) (b' := 2) ey17 (iv_add (a' := 1) (b' := 1) ey9 h2 (iv_c _ (a := 1) (b := 1) (by decide +kernel)) (by decide +kernel)) (iv_c _ (a := 1) (b := 1) (by decide +kernel)) (by decide +kernel)) (iv_c _ (a := 1) (b := 1) (by decide +kernel)) (by decide +kernel)) (iv_c _ (a := 1) (b := 1) (by decide +kernel)) (by decide +kernel)) (iv_c _ (a := 1) (b := 1) (by decide +kernel)) (by decide +kernel)) (iv_c _ (a := 1) (b := 1) (by decide +kernel)) (by decide +kernel)) (by decide +kernel)))) xf53 rfl
                              obtain ⟨y57, ey57⟩ : ∃ y : Int32, y = y49 + Int32.ofInt 1 := ⟨_, rfl⟩
                              have xy57 : y57.toInt = (((((((x2.toInt + 1) + 1) + 1) + 1) + 1) + 1) + 1) := sg_exadd ey57 (iv_add (a' := 6) (b' := 6) ey49 (iv_add (a' := 5) (b' := 5) ey41 (iv_add (a' := 4) (b' := 4) ey33 (iv_add (a' := 3) (b' := 3) ey25 (iv_add (a' := 2) (b' := 2) ey17 (iv_add (a' := 1) (b' := 1) ey9 h2 (iv_c _ (a := 1) (b := 1) (by decide +kernel)) (by decide +kernel)) (iv_c _ (a := 1) (b := 1) (by decide +kernel)) (by decide +kernel)) (iv_c _ (a := 1) (b := 1) (by decide +kernel)) (by decide +kernel)) (iv_c _ (a := 1) (b := 1) (by decide +kernel)) (by decide +kernel)) (iv_c _ (a := 1) (b := 1) (by decide +kernel)) (by decide +kernel)) (iv_c _ (a := 1) (b := 1) (by decide +kernel)) (by decide +kernel)) (iv_c _ (a := 1) (b := 1) (by decide +kernel)) (by decide +kernel) xy49 (by decide +kernel)
                              refine lv_iinc (v := y57) (lv' := [(5, .int y57), (4, .int f1), (0, .ref tv), (1, .int x1), (2, .int x2), (3, .int x3)]) X.1 X.2.1 dJ1_indexOfChar_4cfef_25 hl (k := 0) rfl ey57.symm (by decide) rfl (fun ls hl => ?_)
                              refine lv_goto (tgt := 7) X.1 X.2.1 dJ1_indexOfChar_4cfef_28 (by decide) ?_
                              refine lv_iload X.1 X.2.1 dJ1_indexOfChar_4cfef_7 (lv_at hl 0 rfl) ?_
                              refine lv_iload_n X.1 X.2.1 dJ1_indexOfChar_4cfef_9 rfl (lv_at hl 5 rfl) ?_
                              refine lv_icmp_ge (tgt := 31) X.1 X.2.1 dJ1_indexOfChar_4cfef_10 (by decide) (fun c58 => ?_) (fun c58 => ?_)
                              · have i59 : ¬ (((((((x2.toInt + 1) + 1) + 1) + 1) + 1) + 1) + 1) < x3.toInt := vq_le c58 rfl xy57
                                refine lv_iconst (v := (-1)) X.1 X.2.1 dJ1_indexOfChar_4cfef_31 (by decide +kernel) ?_
                                exact sg_iretP X hr hlk hS (by rw [show ((-1) : Int32).toInt = (-1 : Int) from (by decide +kernel)]; simp only [vIx, i4, i7, i12, i15, i20, i23, i28, i31, i36, i39, i44, i47, i52, i55, i59, if_true, if_false]) dJ1_indexOfChar_4cfef_32
                              · have i60 : (((((((x2.toInt + 1) + 1) + 1) + 1) + 1) + 1) + 1) < x3.toInt := vq_lt (iv_gt_of c58) xy57 rfl
                                exact ((iv_no (iv_lt (b' := 6) (iv_gt_of c58) (iv_add (a' := 7) (b' := 7) ey57 (iv_add (a' := 6) (b' := 6) ey49 (iv_add (a' := 5) (b' := 5) ey41 (iv_add (a' := 4) (b' := 4) ey33 (iv_add (a' := 3) (b' := 3) ey25 (iv_add (a' := 2) (b' := 2) ey17 (iv_add (a' := 1) (b' := 1) ey9 h2 (iv_c _ (a := 1) (b := 1) (by decide +kernel)) (by decide +kernel)) (iv_c _ (a := 1) (b := 1) (by decide +kernel)) (by decide +kernel)) (iv_c _ (a := 1) (b := 1) (by decide +kernel)) (by decide +kernel)) (iv_c _ (a := 1) (b := 1) (by decide +kernel)) (by decide +kernel)) (iv_c _ (a := 1) (b := 1) (by decide +kernel)) (by decide +kernel)) (iv_c _ (a := 1) (b := 1) (by decide +kernel)) (by decide +kernel)) (iv_c _ (a := 1) (b := 1) (by decide +kernel)) (by decide +kernel)) h3 (by decide +kernel)) (by decide +kernel))).elim
                            · have i56 : (tb.getD 6 0).toInt = x1.toInt := vq_beq c54 ef1 h1 (by rw [ef53]; exact htb _ (sg_inlt (iv_vpin (iv_add (a' := 6) (b' := 6) ey49 (iv_add (a' := 5) (b' := 5) ey41 (iv_add (a' := 4) (b' := 4) ey33 (iv_add (a' := 3) (b' := 3) ey25 (iv_add (a' := 2) (b' := 2) ey17 (iv_add (a' := 1) (b' := 1) ey9 h2 (iv_c _ (a := 1) (b := 1) (by decide +kernel)) (by decide +kernel)) (iv_c _ (a := 1) (b := 1) (by decide +kernel)) (by decide +kernel)) (iv_c _ (a := 1) (b := 1) (by decide +kernel)) (by decide +kernel)) (iv_c _ (a := 1) (b := 1) (by decide +kernel)) (by decide +kernel)) (iv_c _ (a := 1) (b := 1) (by decide +kernel)) (by decide +kernel)) (iv_c _ (a := 1) (b := 1) (by decide +kernel)) (by decide +kernel)) (by decide +kernel)))) xf53 rfl
                              refine lv_iload X.1 X.2.1 dJ1_indexOfChar_4cfef_22 (lv_at hl 0 rfl) ?_
                              exact sg_iretP X hr hlk hS (by rw [show (y49 : Int32).toInt = (6 : Int) from vq_iv ((iv_add (a' := 6) (b' := 6) ey49 (iv_add (a' := 5) (b' := 5) ey41 (iv_add (a' := 4) (b' := 4) ey33 (iv_add (a' := 3) (b' := 3) ey25 (iv_add (a' := 2) (b' := 2) ey17 (iv_add (a' := 1) (b' := 1) ey9 h2 (iv_c _ (a := 1) (b := 1) (by decide +kernel)) (by decide +kernel)) (iv_c _ (a := 1) (b := 1) (by decide +kernel)) (by decide +kernel)) (iv_c _ (a := 1) (b := 1) (by decide +kernel)) (by decide +kernel)) (iv_c _ (a := 1) (b := 1) (by decide +kernel)) (by decide +kernel)) (iv_c _ (a := 1) (b := 1) (by decide +kernel)) (by decide +kernel)) (iv_c _ (a := 1) (b := 1) (by decide +kernel)) (by decide +kernel)))]; simp only [vIx, i4, i7, i12, i15, i20, i23, i28, i31, i36, i39, i44, i47, i52, i56, if_true, if_false]; rfl) dJ1_indexOfChar_4cfef_24
                        · have i48 : (tb.getD 5 0).toInt = x1.toInt := vq_beq c46 ef1 h1 (by rw [ef45]; exact htb _ (sg_inlt (iv_vpin (iv_add (a' := 5) (b' := 5) ey41 (iv_add (a' := 4) (b' := 4) ey33 (iv_add (a' := 3) (b' := 3) ey25 (iv_add (a' := 2) (b' := 2) ey17 (iv_add (a' := 1) (b' := 1) ey9 h2 (iv_c _ (a := 1) (b := 1) (by decide +kernel)) (by decide +kernel)) (iv_c _ (a := 1) (b := 1) (by decide +kernel)) (by decide +kernel)) (iv_c _ (a := 1) (b := 1) (by decide +kernel)) (by decide +kernel)) (iv_c _ (a := 1) (b := 1) (by decide +kernel)) (by decide +kernel)) (iv_c _ (a := 1) (b := 1) (by decide +kernel)) (by decide +kernel)) (by decide +kernel)))) xf45 rfl
                          refine lv_iload X.1 X.2.1 dJ1_indexOfChar_4cfef_22 (lv_at hl 0 rfl) ?_
                          exact sg_iretP X hr hlk hS (by rw [show (y41 : Int32).toInt = (5 : Int) from vq_iv ((iv_add (a' := 5) (b' := 5) ey41 (iv_add (a' := 4) (b' := 4) ey33 (iv_add (a' := 3) (b' := 3) ey25 (iv_add (a' := 2) (b' := 2) ey17 (iv_add (a' := 1) (b' := 1) ey9 h2 (iv_c _ (a := 1) (b := 1) (by decide +kernel)) (by decide +kernel)) (iv_c _ (a := 1) (b := 1) (by decide +kernel)) (by decide +kernel)) (iv_c _ (a := 1) (b := 1) (by decide +kernel)) (by decide +kernel)) (iv_c _ (a := 1) (b := 1) (by decide +kernel)) (by decide +kernel)) (iv_c _ (a := 1) (b := 1) (by decide +kernel)) (by decide +kernel)))]; simp only [vIx, i4, i7, i12, i15, i20, i23, i28, i31, i36, i39, i44, i48, if_true, if_false]; rfl) dJ1_indexOfChar_4cfef_24
                    · have i40 : (tb.getD 4 0).toInt = x1.toInt := vq_beq c38 ef1 h1 (by rw [ef37]; exact htb _ (sg_inlt (iv_vpin (iv_add (a' := 4) (b' := 4) ey33 (iv_add (a' := 3) (b' := 3) ey25 (iv_add (a' := 2) (b' := 2) ey17 (iv_add (a' := 1) (b' := 1) ey9 h2 (iv_c _ (a := 1) (b := 1) (by decide +kernel)) (by decide +kernel)) (iv_c _ (a := 1) (b := 1) (by decide +kernel)) (by decide +kernel)) (iv_c _ (a := 1) (b := 1) (by decide +kernel)) (by decide +kernel)) (iv_c _ (a := 1) (b := 1) (by decide +kernel)) (by decide +kernel)) (by decide +kernel)))) xf37 rfl
                      refine lv_iload X.1 X.2.1 dJ1_indexOfChar_4cfef_22 (lv_at hl 0 rfl) ?_
                      exact sg_iretP X hr hlk hS (by rw [show (y33 : Int32).toInt = (4 : Int) from vq_iv ((iv_add (a' := 4) (b' := 4) ey33 (iv_add (a' := 3) (b' := 3) ey25 (iv_add (a' := 2) (b' := 2) ey17 (iv_add (a' := 1) (b' := 1) ey9 h2 (iv_c _ (a := 1) (b := 1) (by decide +kernel)) (by decide +kernel)) (iv_c _ (a := 1) (b := 1) (by decide +kernel)) (by decide +kernel)) (iv_c _ (a := 1) (b := 1) (by decide +kernel)) (by decide +kernel)) (iv_c _ (a := 1) (b := 1) (by decide +kernel)) (by decide +kernel)))]; simp only [vIx, i4, i7, i12, i15, i20, i23, i28, i31, i36, i40, if_true, if_false]; rfl) dJ1_indexOfChar_4cfef_24
                · have i32 : (tb.getD 3 0).toInt = x1.toInt := vq_beq c30 ef1 h1 (by rw [ef29]; exact htb _ (sg_inlt (iv_vpin (iv_add (a' := 3) (b' := 3) ey25 (iv_add (a' := 2) (b' := 2) ey17 (iv_add (a' := 1) (b' := 1) ey9 h2 (iv_c _ (a := 1) (b := 1) (by decide +kernel)) (by decide +kernel)) (iv_c _ (a := 1) (b := 1) (by decide +kernel)) (by decide +kernel)) (iv_c _ (a := 1) (b := 1) (by decide +kernel)) (by decide +kernel)) (by decide +kernel)))) xf29 rfl
                  refine lv_iload X.1 X.2.1 dJ1_indexOfChar_4cfef_22 (lv_at hl 0 rfl) ?_
                  exact sg_iretP X hr hlk hS (by rw [show (y25 : Int32).toInt = (3 : Int) from vq_iv ((iv_add (a' := 3) (b' := 3) ey25 (iv_add (a' := 2) (b' := 2) ey17 (iv_add (a' := 1) (b' := 1) ey9 h2 (iv_c _ (a := 1) (b := 1) (by decide +kernel)) (by decide +kernel)) (iv_c _ (a := 1) (b := 1) (by decide +kernel)) (by decide +kernel)) (iv_c _ (a := 1) (b := 1) (by decide +kernel)) (by decide +kernel)))]; simp only [vIx, i4, i7, i12, i15, i20, i23, i28, i32, if_true, if_false]; rfl) dJ1_indexOfChar_4cfef_24
            · have i24 : (tb.getD 2 0).toInt = x1.toInt := vq_beq c22 ef1 h1 (by rw [ef21]; exact htb _ (sg_inlt (iv_vpin (iv_add (a' := 2) (b' := 2) ey17 (iv_add (a' := 1) (b' := 1) ey9 h2 (iv_c _ (a := 1) (b := 1) (by decide +kernel)) (by decide +kernel)) (iv_c _ (a := 1) (b := 1) (by decide +kernel)) (by decide +kernel)) (by decide +kernel)))) xf21 rfl
              refine lv_iload X.1 X.2.1 dJ1_indexOfChar_4cfef_22 (lv_at hl 0 rfl) ?_
              exact sg_iretP X hr hlk hS (by rw [show (y17 : Int32).toInt = (2 : Int) from vq_iv ((iv_add (a' := 2) (b' := 2) ey17 (iv_add (a' := 1) (b' := 1) ey9 h2 (iv_c _ (a := 1) (b := 1) (by decide +kernel)) (by decide +kernel)) (iv_c _ (a := 1) (b := 1) (by decide +kernel)) (by decide +kernel)))]; simp only [vIx, i4, i7, i12, i15, i20, i24, if_true, if_false]; rfl) dJ1_indexOfChar_4cfef_24
        · have i16 : (tb.getD 1 0).toInt = x1.toInt := vq_beq c14 ef1 h1 (by rw [ef13]; exact htb _ (sg_inlt (iv_vpin (iv_add (a' := 1) (b' := 1) ey9 h2 (iv_c _ (a := 1) (b := 1) (by decide +kernel)) (by decide +kernel)) (by decide +kernel)))) xf13 rfl
          refine lv_iload X.1 X.2.1 dJ1_indexOfChar_4cfef_22 (lv_at hl 0 rfl) ?_
          exact sg_iretP X hr hlk hS (by rw [show (y9 : Int32).toInt = (1 : Int) from vq_iv ((iv_add (a' := 1) (b' := 1) ey9 h2 (iv_c _ (a := 1) (b := 1) (by decide +kernel)) (by decide +kernel)))]; simp only [vIx, i4, i7, i12, i16, if_true, if_false]; rfl) dJ1_indexOfChar_4cfef_24
    · have i8 : (tb.getD 0 0).toInt = x1.toInt := vq_beq c6 ef1 h1 (by rw [ef5]; exact htb _ (sg_inlt (iv_vpin h2 (by decide +kernel)))) xf5 rfl
      refine lv_iload X.1 X.2.1 dJ1_indexOfChar_4cfef_22 (lv_at hl 0 rfl) ?_
      exact sg_iretP X hr hlk hS (by rw [show (x2 : Int32).toInt = (0 : Int) from vq_iv (h2)]; simp only [vIx, i4, i8, if_true, if_false]; rfl) dJ1_indexOfChar_4cfef_24

theorem ca_J1_indexOfChar_4cfef_v7   (X : CallFix p m c cc nL s args sg_tbl own) (hK : va_K D vwCl tys s) (hG : sgG (KT P) D vwCl (fun q : Nat => base ≤ q) tys ad ks H) (hC : sgC base s) (hA : ∀ q : Nat, A q → base ≤ q) (hS : va_S A s.heap H locs)  (hb : base ≤ s.heap.size) {ta tv : Nat} {tb : List Int32} (hp : P_S ta tv 7 tb A s) (x1 : Int32) (h1 : iv 0 255 x1) (x2 : Int32) (h2 : iv 0 0 x2) (x3 : Int32) (h3 : iv 7 7 x3) (htb : ∀ j : Nat, j < 7 → iv 0 127 (tb.getD j 0)) (hl : Cond.methodLink own index yJ1_indexOfChar_4cfef ∈ sg_tbl) (hsize : ls.size = nL) (hst : st0 = [.ref tv, .int x1, .int x2, .int x3].reverse ++ rest) (hW : (rest.map fun v => v.category).sum ≤ 8) (hR : 1 ≤ R.frames ∧ 25 ≤ R.locals) (hf : cells ≤ R.cells ∧ slots ≤ R.slots) (hdg : decode cc pc = .ok (.invokestatic index, 3)) (kk : ∀ (r : Int32) (locs1 : List Loc), (fun r : Int32 => r.toInt = vIx tb x1.toInt 7 0) r → va_S A s.heap H locs1 → W p l e R s m args below meth c H locs1 cells slots Q (F0 m (pc + 3) ls (.int r :: rest))) : W p l e R s m args below meth c H locs cells slots Q (F0 m pc ls st0) :=
  sg_callESi X hK hG hC hA hS hb hp (m_J1_indexOfChar_4cfef_v7 l ta tv tb x1 h1 x2 h2 x3 h3 htb) wl_3_105 wl_1_17 wl_3_104 (n := 4) (by decide +kernel) rfl rfl rfl hl hsize hst hW hR hf hdg kk

set_option maxHeartbeats 8000000 in
set_option maxRecDepth 100000 in
theorem m_J1_indexOf_4cfef_v7 (l : Launch) {D : va_G} {base : Nat} {tys : List (ClassId × FieldType)} {ad ks : List Nat} {P : sgPm} {Hx : Heap} (ta tv : Nat) (tb : List Int32) (x1 : Int32) (h1 : iv 0 255 x1) (x2 : Int32) (h2 : iv 0 0 x2) (x3 : Int32) (h3 : iv 7 7 x3) (htb : ∀ j : Nat, j < 7 → iv 0 127 (tb.getD j 0)) : sgEi l (KT P) D vwCl base tys ad ks Hx ta tv 7 tb yJ1_indexOf_4cfef cJ1_indexOf_4cfef 4 (some .int) ({ frames := 1, cells := 0, slots := 0, locals := 25 }) [.ref tv, .int x1, .int x2, .int x3] (fun r : Int32 => r.toInt = vIx tb x1.toInt 7 0) := by
  refine sg_ofE (Pq := fun Hx => va_Qi (fun r (_ : Unit) => (fun r : Int32 => r.toInt = vIx tb x1.toInt 7 0) r) (fun _ t => t.heap = Hx) (fun _ : Nat => False)) (by decide +kernel) (Nat.le_of_ble_eq_true rfl) (fun p e s m below meth c X hr hlk hb hK hC hG ls hl hp => ?_)
  have hS : va_S (fun _ : Nat => False) s.heap s.heap [] := va_S.rf
  have hl : lv_has ls 4 [(0, .ref tv), (1, .int x1), (2, .int x2), (3, .int x3)] := hl
  refine lv_iload_n X.1 X.2.1 dJ1_indexOf_4cfef_0 rfl (lv_at hl 1 rfl) ?_
  refine ca_J1_canEncode_9a6ad_v X hK hG hC (fun _ h => h.elim) hS hb x1 h1 wl_3_96 hl.1 (rest := []) rfl (Nat.le_of_ble_eq_true rfl) ⟨Nat.le_of_ble_eq_true rfl, Nat.le_of_ble_eq_true rfl⟩ ⟨Nat.le_of_ble_eq_true rfl, Nat.le_of_ble_eq_true rfl⟩ dJ1_indexOf_4cfef_1 (fun f1 locs hf1 hS => ?_)
  refine lv_if_ne (tgt := 9) X.1 X.2.1 dJ1_indexOf_4cfef_4 (by decide) (fun c2 => ?_) (fun c2 => ?_)
  · have i3 : ((1 : Int) = (0 : Int)) = False := vq_ne c2 (vq_iv hf1) (by decide +kernel)
    refine lv_iload_n X.1 X.2.1 dJ1_indexOf_4cfef_9 rfl (lv_at hl 2 rfl) ?_
    refine lv_iconst (v := 0) X.1 X.2.1 dJ1_indexOf_4cfef_10 (by decide +kernel) ?_
    refine va_mmax X.1 X.2.1 (X.2.2.1.trans hl.1.symm) X.2.2.2.1 (X.2.2.2.2 _ wl_3_99) (X.2.2.2.2 _ wl_3_100) (X.2.2.2.2 _ wl_1_15) (X.2.2.2.2 _ wl_3_101) (Nat.le_of_ble_eq_true rfl) (Nat.le_of_ble_eq_true rfl) (Nat.le_of_ble_eq_true rfl) (Nat.le_of_ble_eq_true rfl) dJ1_indexOf_4cfef_11 ?_
    refine lv_topi (fun f5 ef5 => ?_)
    refine lv_istore_n (lv' := [(2, .int f5), (0, .ref tv), (1, .int x1), (3, .int x3)]) X.1 X.2.1 dJ1_indexOf_4cfef_14 rfl hl (by decide) rfl (fun ls hl => ?_)
    refine lv_iload_n X.1 X.2.1 dJ1_indexOf_4cfef_15 rfl (lv_at hl 3 rfl) ?_
    refine lv_aload_n X.1 X.2.1 dJ1_indexOf_4cfef_16 rfl (lv_at hl 1 rfl) ?_
    refine va_tlen X.1 X.2.1 hp.2.2.2.1 hS (v := 7) rfl dJ1_indexOf_4cfef_17 ?_
    refine va_mmin X.1 X.2.1 (X.2.2.1.trans hl.1.symm) X.2.2.2.1 (X.2.2.2.2 _ wl_3_102) (X.2.2.2.2 _ wl_3_64) (X.2.2.2.2 _ wl_1_15) (X.2.2.2.2 _ wl_3_65) (Nat.le_of_ble_eq_true rfl) (Nat.le_of_ble_eq_true rfl) (Nat.le_of_ble_eq_true rfl) (Nat.le_of_ble_eq_true rfl) dJ1_indexOf_4cfef_18 ?_
    refine lv_topi (fun f6 ef6 => ?_)
    refine lv_istore_n (lv' := [(3, .int f6), (2, .int f5), (0, .ref tv), (1, .int x1)]) X.1 X.2.1 dJ1_indexOf_4cfef_21 rfl hl (by decide) rfl (fun ls hl => ?_)
    refine lv_iload_n X.1 X.2.1 dJ1_indexOf_4cfef_22 rfl (lv_at hl 1 rfl) ?_
    refine lv_iload_n X.1 X.2.1 dJ1_indexOf_4cfef_23 rfl (lv_at hl 0 rfl) ?_
    refine lv_icmp_lt (tgt := 29) X.1 X.2.1 dJ1_indexOf_4cfef_24 (by decide) (fun c7 => ?_) (fun c7 => ?_)
    · refine lv_aload_n X.1 X.2.1 dJ1_indexOf_4cfef_29 rfl (lv_at hl 2 rfl) ?_
      refine lv_iload_n X.1 X.2.1 dJ1_indexOf_4cfef_30 rfl (lv_at hl 3 rfl) ?_
      refine lv_iload_n X.1 X.2.1 dJ1_indexOf_4cfef_31 rfl (lv_at hl 1 rfl) ?_
      refine lv_iload_n X.1 X.2.1 dJ1_indexOf_4cfef_32 rfl (lv_at hl 0 rfl) ?_
      refine ca_J1_indexOfChar_4cfef_v7 X hK hG hC (fun _ h => h.elim) hS hb hp x1 h1 f5 (iv_max (a' := 0) (b' := 0) ef5 h2 (iv_c 0 (a := 0) (b := 0) (by decide +kernel)) (by decide +kernel)) f6 (iv_min (a' := 7) (b' := 7) ef6 h3 (iv_c 7 (a := 7) (b := 7) (by decide +kernel)) (by decide +kernel)) htb wl_3_103 hl.1 (rest := []) rfl (Nat.le_of_ble_eq_true rfl) ⟨Nat.le_of_ble_eq_true rfl, Nat.le_of_ble_eq_true rfl⟩ ⟨Nat.le_of_ble_eq_true rfl, Nat.le_of_ble_eq_true rfl⟩ dJ1_indexOf_4cfef_33 (fun f8 locs hf8 hS => ?_)
      have xf8 : f8.toInt = vIx tb (x1.toInt) 7 0 := hf8
      exact sg_iretP X hr hlk hS xf8 dJ1_indexOf_4cfef_36
    · exact ((iv_no (iv_le (b' := 0) (iv_ge_of c7) (iv_min (a' := 7) (b' := 7) ef6 h3 (iv_c 7 (a := 7) (b := 7) (by decide +kernel)) (by decide +kernel)) (iv_max (a' := 0) (b' := 0) ef5 h2 (iv_c 0 (a := 0) (b := 0) (by decide +kernel)) (by decide +kernel)) (by decide +kernel)) (by decide +kernel))).elim
  · have i4 : (1 : Int) = (0 : Int) := vq_eq c2 (vq_iv hf1) (by decide +kernel)
    exact ((iv_no (a := 1) (b := 0) (iv_eqm c2 hf1 (iv_c 0 (a := 0) (b := 0) (by decide +kernel)) (by decide +kernel)) (by decide +kernel))).elim

theorem ca_J1_indexOf_4cfef_v7   (X : CallFix p m c cc nL s args sg_tbl own) (hK : va_K D vwCl tys s) (hG : sgG (KT P) D vwCl (fun q : Nat => base ≤ q) tys ad ks H) (hC : sgC base s) (hA : ∀ q : Nat, A q → base ≤ q) (hS : va_S A s.heap H locs)  (hb : base ≤ s.heap.size) {ta tv : Nat} {tb : List Int32} (hp : P_S ta tv 7 tb A s) (x1 : Int32) (h1 : iv 0 255 x1) (x2 : Int32) (h2 : iv 0 0 x2) (x3 : Int32) (h3 : iv 7 7 x3) (htb : ∀ j : Nat, j < 7 → iv 0 127 (tb.getD j 0)) (hl : Cond.methodLink own index yJ1_indexOf_4cfef ∈ sg_tbl) (hsize : ls.size = nL) (hst : st0 = [.ref tv, .int x1, .int x2, .int x3].reverse ++ rest) (hW : (rest.map fun v => v.category).sum ≤ 8) (hR : 2 ≤ R.frames ∧ 48 ≤ R.locals) (hf : cells ≤ R.cells ∧ slots ≤ R.slots) (hdg : decode cc pc = .ok (.invokestatic index, 3)) (kk : ∀ (r : Int32) (locs1 : List Loc), (fun r : Int32 => r.toInt = vIx tb x1.toInt 7 0) r → va_S A s.heap H locs1 → W p l e R s m args below meth c H locs1 cells slots Q (F0 m (pc + 3) ls (.int r :: rest))) : W p l e R s m args below meth c H locs cells slots Q (F0 m pc ls st0) :=
  sg_callESi X hK hG hC hA hS hb hp (m_J1_indexOf_4cfef_v7 l ta tv tb x1 h1 x2 h2 x3 h3 htb) wl_3_95 wl_1_17 wl_3_94 (n := 4) (by decide +kernel) rfl rfl rfl hl hsize hst hW hR hf hdg kk

set_option maxHeartbeats 8000000 in
set_option maxRecDepth 100000 in
theorem m_J0_indexOf_7cf53_v7 (l : Launch) {D : va_G} {base : Nat} {tys : List (ClassId × FieldType)} {ad ks : List Nat} {P : sgPm} {Hx : Heap} (ta tv : Nat) (tb : List Int32) (x1 : Int32) (h1 : iv 0 255 x1) (x2 : Int32) (h2 : iv 0 0 x2) (htb : ∀ j : Nat, j < 7 → iv 0 127 (tb.getD j 0)) : sgEi l (KT P) D vwCl base tys ad ks Hx ta tv 7 tb yJ0_indexOf_7cf53 cJ0_indexOf_7cf53 3 (some .int) ({ frames := 2, cells := 0, slots := 0, locals := 48 }) [.ref ta, .int x1, .int x2] (fun r : Int32 => r.toInt = vIx tb x1.toInt 7 0) := by
  refine sg_ofE (Pq := fun Hx => va_Qi (fun r (_ : Unit) => (fun r : Int32 => r.toInt = vIx tb x1.toInt 7 0) r) (fun _ t => t.heap = Hx) (fun _ : Nat => False)) (by decide +kernel) (Nat.le_of_ble_eq_true rfl) (fun p e s m below meth c X hr hlk hb hK hC hG ls hl hp => ?_)
  have hS : va_S (fun _ : Nat => False) s.heap s.heap [] := va_S.rf
  have hl : lv_has ls 3 [(0, .ref ta), (1, .int x1), (2, .int x2)] := hl
  refine lv_aload_n X.1 X.2.1 dJ0_indexOf_7cf53_0 rfl (lv_at hl 0 rfl) ?_
  refine ca_J0_isLatin1_aae02_7 X hK hG hC (fun _ h => h.elim) hS hb hp wl_3_79 hl.1 (rest := []) rfl (Nat.le_of_ble_eq_true rfl) ⟨Nat.le_of_ble_eq_true rfl, Nat.le_of_ble_eq_true rfl⟩ ⟨Nat.le_of_ble_eq_true rfl, Nat.le_of_ble_eq_true rfl⟩ dJ0_indexOf_7cf53_1 (fun f1 locs hf1 hS => ?_)
  refine lv_if_eq (tgt := 23) X.1 X.2.1 dJ0_indexOf_7cf53_4 (by decide) (fun c2 => ?_) (fun c2 => ?_)
  · have i3 : (1 : Int) = (0 : Int) := vq_eq c2 (vq_iv hf1) (by decide +kernel)
    exact ((iv_no (a := 1) (b := 0) (iv_eqm c2 hf1 (iv_c 0 (a := 0) (b := 0) (by decide +kernel)) (by decide +kernel)) (by decide +kernel))).elim
  · have i4 : ((1 : Int) = (0 : Int)) = False := vq_ne c2 (vq_iv hf1) (by decide +kernel)
    refine lv_aload_n X.1 X.2.1 dJ0_indexOf_7cf53_7 rfl (lv_at hl 0 rfl) ?_
    refine vk_getf (v := .ref tv) X.1 X.2.1 hp.2.2.1 hS X.2.2.2.1 (X.2.2.2.2 _ wl_9_181) (fun _ h9 => h9) dJ0_indexOf_7cf53_8 ?_
    refine lv_iload_n X.1 X.2.1 dJ0_indexOf_7cf53_11 rfl (lv_at hl 1 rfl) ?_
    refine lv_iload_n X.1 X.2.1 dJ0_indexOf_7cf53_12 rfl (lv_at hl 2 rfl) ?_
    refine lv_aload_n X.1 X.2.1 dJ0_indexOf_7cf53_13 rfl (lv_at hl 0 rfl) ?_
    refine ca_J0_length_8abf5_7 X hK hG hC (fun _ h => h.elim) hS hb hp wl_3_85 hl.1 (rest := [.int x2, .int x1, .ref tv]) rfl (Nat.le_of_ble_eq_true rfl) ⟨Nat.le_of_ble_eq_true rfl, Nat.le_of_ble_eq_true rfl⟩ ⟨Nat.le_of_ble_eq_true rfl, Nat.le_of_ble_eq_true rfl⟩ dJ0_indexOf_7cf53_14 (fun f5 locs hf5 hS => ?_)
    refine ca_J1_indexOf_4cfef_v7 X hK hG hC (fun _ h => h.elim) hS hb hp x1 h1 x2 h2 f5 hf5 htb wl_3_93 hl.1 (rest := []) rfl (Nat.le_of_ble_eq_true rfl) ⟨Nat.le_of_ble_eq_true rfl, Nat.le_of_ble_eq_true rfl⟩ ⟨Nat.le_of_ble_eq_true rfl, Nat.le_of_ble_eq_true rfl⟩ dJ0_indexOf_7cf53_17 (fun f6 locs hf6 hS => ?_)
    have xf6 : f6.toInt = vIx tb (x1.toInt) 7 0 := hf6
    refine lv_goto (tgt := 36) X.1 X.2.1 dJ0_indexOf_7cf53_20 (by decide) ?_
    exact sg_iretP X hr hlk hS xf6 dJ0_indexOf_7cf53_36

theorem ca_J0_indexOf_7cf53_v7   (X : CallFix p m c cc nL s args sg_tbl own) (hK : va_K D vwCl tys s) (hG : sgG (KT P) D vwCl (fun q : Nat => base ≤ q) tys ad ks H) (hC : sgC base s) (hA : ∀ q : Nat, A q → base ≤ q) (hS : va_S A s.heap H locs)  (hb : base ≤ s.heap.size) {ta tv : Nat} {tb : List Int32} (hp : P_S ta tv 7 tb A s) (x1 : Int32) (h1 : iv 0 255 x1) (x2 : Int32) (h2 : iv 0 0 x2) (htb : ∀ j : Nat, j < 7 → iv 0 127 (tb.getD j 0)) (hl : Cond.methodLink own index yJ0_indexOf_7cf53 ∈ sg_tbl) (hsize : ls.size = nL) (hst : st0 = [.int x1, .int x2].reverse ++ .ref ta :: rest) (hW : (rest.map fun v => v.category).sum ≤ 8) (hR : 3 ≤ R.frames ∧ 70 ≤ R.locals) (hf : cells ≤ R.cells ∧ slots ≤ R.slots) (hdg : decode cc pc = .ok (.invokevirtual index, 3)) (kk : ∀ (r : Int32) (locs1 : List Loc), (fun r : Int32 => r.toInt = vIx tb x1.toInt 7 0) r → va_S A s.heap H locs1 → W p l e R s m args below meth c H locs1 cells slots Q (F0 m (pc + 3) ls (.int r :: rest))) : W p l e R s m args below meth c H locs cells slots Q (F0 m pc ls st0) :=
  sg_callEVi X hK hG hC hA hS hb hp (m_J0_indexOf_7cf53_v7 l ta tv tb x1 h1 x2 h2 htb) wl_3_78 wl_1_16 wl_3_76 wl_3_77 (n := 2) (by decide +kernel) rfl rfl rfl hl hsize hst hW hR hf hdg kk

set_option maxHeartbeats 8000000 in
set_option maxRecDepth 100000 in
theorem m_J0_indexOf_0f7a4_v7 (l : Launch) {D : va_G} {base : Nat} {tys : List (ClassId × FieldType)} {ad ks : List Nat} {P : sgPm} {Hx : Heap} (ta tv : Nat) (tb : List Int32) (x1 : Int32) (h1 : iv 0 255 x1) (htb : ∀ j : Nat, j < 7 → iv 0 127 (tb.getD j 0)) : sgEi l (KT P) D vwCl base tys ad ks Hx ta tv 7 tb yJ0_indexOf_0f7a4 cJ0_indexOf_0f7a4 2 (some .int) ({ frames := 3, cells := 0, slots := 0, locals := 70 }) [.ref ta, .int x1] (fun r : Int32 => r.toInt = vIx tb x1.toInt 7 0) := by
  refine sg_ofE (Pq := fun Hx => va_Qi (fun r (_ : Unit) => (fun r : Int32 => r.toInt = vIx tb x1.toInt 7 0) r) (fun _ t => t.heap = Hx) (fun _ : Nat => False)) (by decide +kernel) (Nat.le_of_ble_eq_true rfl) (fun p e s m below meth c X hr hlk hb hK hC hG ls hl hp => ?_)
  have hS : va_S (fun _ : Nat => False) s.heap s.heap [] := va_S.rf
  have hl : lv_has ls 2 [(0, .ref ta), (1, .int x1)] := hl
  refine lv_aload_n X.1 X.2.1 dJ0_indexOf_0f7a4_0 rfl (lv_at hl 0 rfl) ?_
  refine lv_iload_n X.1 X.2.1 dJ0_indexOf_0f7a4_1 rfl (lv_at hl 1 rfl) ?_
  refine lv_iconst (v := 0) X.1 X.2.1 dJ0_indexOf_0f7a4_2 (by decide +kernel) ?_
  refine ca_J0_indexOf_7cf53_v7 X hK hG hC (fun _ h => h.elim) hS hb hp x1 h1 0 (iv_c 0 (a := 0) (b := 0) (by decide +kernel)) htb wl_3_75 hl.1 (rest := []) rfl (Nat.le_of_ble_eq_true rfl) ⟨Nat.le_of_ble_eq_true rfl, Nat.le_of_ble_eq_true rfl⟩ ⟨Nat.le_of_ble_eq_true rfl, Nat.le_of_ble_eq_true rfl⟩ dJ0_indexOf_0f7a4_3 (fun f1 locs hf1 hS => ?_)
  have xf1 : f1.toInt = vIx tb (x1.toInt) 7 0 := hf1
  exact sg_iretP X hr hlk hS xf1 dJ0_indexOf_0f7a4_6

theorem ca_J0_indexOf_0f7a4_v7   (X : CallFix p m c cc nL s args sg_tbl own) (hK : va_K D vwCl tys s) (hG : sgG (KT P) D vwCl (fun q : Nat => base ≤ q) tys ad ks H) (hC : sgC base s) (hA : ∀ q : Nat, A q → base ≤ q) (hS : va_S A s.heap H locs)  (hb : base ≤ s.heap.size) {ta tv : Nat} {tb : List Int32} (hp : P_S ta tv 7 tb A s) (x1 : Int32) (h1 : iv 0 255 x1) (htb : ∀ j : Nat, j < 7 → iv 0 127 (tb.getD j 0)) (hl : Cond.methodLink own index yJ0_indexOf_0f7a4 ∈ sg_tbl) (hsize : ls.size = nL) (hst : st0 = [.int x1].reverse ++ .ref ta :: rest) (hW : (rest.map fun v => v.category).sum ≤ 8) (hR : 4 ≤ R.frames ∧ 91 ≤ R.locals) (hf : cells ≤ R.cells ∧ slots ≤ R.slots) (hdg : decode cc pc = .ok (.invokevirtual index, 3)) (kk : ∀ (r : Int32) (locs1 : List Loc), (fun r : Int32 => r.toInt = vIx tb x1.toInt 7 0) r → va_S A s.heap H locs1 → W p l e R s m args below meth c H locs1 cells slots Q (F0 m (pc + 3) ls (.int r :: rest))) : W p l e R s m args below meth c H locs cells slots Q (F0 m pc ls st0) :=
  sg_callEVi X hK hG hC hA hS hb hp (m_J0_indexOf_0f7a4_v7 l ta tv tb x1 h1 htb) wl_3_74 wl_1_16 wl_3_72 wl_3_73 (n := 1) (by decide +kernel) rfl rfl rfl hl hsize hst hW hR hf hdg kk

set_option maxHeartbeats 8000000 in
set_option maxRecDepth 100000 in
theorem m_J1_indexOfChar_4cfef_v6 (l : Launch) {D : va_G} {base : Nat} {tys : List (ClassId × FieldType)} {ad ks : List Nat} {P : sgPm} {Hx : Heap} (ta tv : Nat) (tb : List Int32) (x1 : Int32) (h1 : iv 0 255 x1) (x2 : Int32) (h2 : iv 0 0 x2) (x3 : Int32) (h3 : iv 6 6 x3) (htb : ∀ j : Nat, j < 6 → iv 0 127 (tb.getD j 0)) : sgEi l (KT P) D vwCl base tys ad ks Hx ta tv 6 tb yJ1_indexOfChar_4cfef cJ1_indexOfChar_4cfef 6 (some .int) ({ frames := 0, cells := 0, slots := 0, locals := 0 }) [.ref tv, .int x1, .int x2, .int x3] (fun r : Int32 => r.toInt = vIx tb x1.toInt 6 0) := by
  refine sg_ofE (Pq := fun Hx => va_Qi (fun r (_ : Unit) => (fun r : Int32 => r.toInt = vIx tb x1.toInt 6 0) r) (fun _ t => t.heap = Hx) (fun _ : Nat => False)) (by decide +kernel) (Nat.le_of_ble_eq_true rfl) (fun p e s m below meth c X hr hlk hb hK hC hG ls hl hp => ?_)
  have hS : va_S (fun _ : Nat => False) s.heap s.heap [] := va_S.rf
  have hl : lv_has ls 6 [(0, .ref tv), (1, .int x1), (2, .int x2), (3, .int x3)] := hl
  refine lv_iload_n X.1 X.2.1 dJ1_indexOfChar_4cfef_0 rfl (lv_at hl 1 rfl) ?_
  obtain ⟨f1, ef1⟩ : ∃ y : Int32, y = (x1 : Int32).toInt8.toInt32 := ⟨_, rfl⟩
  refine lv_i2b (v := f1) X.1 X.2.1 dJ1_indexOfChar_4cfef_1 ef1.symm ?_
  refine lv_istore (lv' := [(4, .int f1), (0, .ref tv), (1, .int x1), (2, .int x2), (3, .int x3)]) X.1 X.2.1 dJ1_indexOfChar_4cfef_2 hl (by decide) rfl (fun ls hl => ?_)
  refine lv_iload_n X.1 X.2.1 dJ1_indexOfChar_4cfef_4 rfl (lv_at hl 3 rfl) ?_
  refine lv_istore (lv' := [(5, .int x2), (4, .int f1), (0, .ref tv), (1, .int x1), (2, .int x2), (3, .int x3)]) X.1 X.2.1 dJ1_indexOfChar_4cfef_5 hl (by decide) rfl (fun ls hl => ?_)
  refine lv_iload X.1 X.2.1 dJ1_indexOfChar_4cfef_7 (lv_at hl 0 rfl) ?_
  refine lv_iload_n X.1 X.2.1 dJ1_indexOfChar_4cfef_9 rfl (lv_at hl 5 rfl) ?_
  refine lv_icmp_ge (tgt := 31) X.1 X.2.1 dJ1_indexOfChar_4cfef_10 (by decide) (fun c2 => ?_) (fun c2 => ?_)
  · have i3 : ¬ x2.toInt < x3.toInt := vq_le c2 rfl rfl
    exact ((iv_no (iv_le (b' := 0) c2 h3 h2 (by decide +kernel)) (by decide +kernel))).elim
  · have i4 : x2.toInt < x3.toInt := vq_lt (iv_gt_of c2) rfl rfl
    refine lv_aload_n X.1 X.2.1 dJ1_indexOfChar_4cfef_13 rfl (lv_at hl 2 rfl) ?_
    refine lv_iload X.1 X.2.1 dJ1_indexOfChar_4cfef_14 (lv_at hl 0 rfl) ?_
    refine va_tb X.1 X.2.1 hp.2.2.2.1 hS (i := x2) (iv_vpin h2 (by decide +kernel)) rfl dJ1_indexOfChar_4cfef_16 ?_
    refine lv_topi (fun f5 ef5 => ?_)
    have xf5 : f5.toInt = (tb.getD 0 0).toInt := by rw [ef5, sg_cl h2 (by decide)]; rfl
    refine lv_iload X.1 X.2.1 dJ1_indexOfChar_4cfef_17 (lv_at hl 1 rfl) ?_
    refine lv_icmp_ne (tgt := 25) X.1 X.2.1 dJ1_indexOfChar_4cfef_19 (by decide) (fun c6 => ?_) (fun c6 => ?_)
    · have i7 : ((tb.getD 0 0).toInt = x1.toInt) = False := vq_bne c6 ef1 h1 (by rw [ef5]; exact htb _ (sg_inlt (iv_vpin h2 (by decide +kernel)))) xf5 rfl
      obtain ⟨y9, ey9⟩ : ∃ y : Int32, y = x2 + Int32.ofInt 1 := ⟨_, rfl⟩
      have xy9 : y9.toInt = (x2.toInt + 1) := sg_exadd ey9 h2 (iv_c _ (a := 1) (b := 1) (by decide +kernel)) (by decide +kernel) rfl (by decide +kernel)
      refine lv_iinc (v := y9) (lv' := [(5, .int y9), (4, .int f1), (0, .ref tv), (1, .int x1), (2, .int x2), (3, .int x3)]) X.1 X.2.1 dJ1_indexOfChar_4cfef_25 hl (k := 0) rfl ey9.symm (by decide) rfl (fun ls hl => ?_)
      refine lv_goto (tgt := 7) X.1 X.2.1 dJ1_indexOfChar_4cfef_28 (by decide) ?_
      refine lv_iload X.1 X.2.1 dJ1_indexOfChar_4cfef_7 (lv_at hl 0 rfl) ?_
      refine lv_iload_n X.1 X.2.1 dJ1_indexOfChar_4cfef_9 rfl (lv_at hl 5 rfl) ?_
      refine lv_icmp_ge (tgt := 31) X.1 X.2.1 dJ1_indexOfChar_4cfef_10 (by decide) (fun c10 => ?_) (fun c10 => ?_)
      · have i11 : ¬ (x2.toInt + 1) < x3.toInt := vq_le c10 rfl xy9
        exact ((iv_no (iv_le (b' := 1) c10 h3 (iv_add (a' := 1) (b' := 1) ey9 h2 (iv_c _ (a := 1) (b := 1) (by decide +kernel)) (by decide +kernel)) (by decide +kernel)) (by decide +kernel))).elim
      · have i12 : (x2.toInt + 1) < x3.toInt := vq_lt (iv_gt_of c10) xy9 rfl
        refine lv_aload_n X.1 X.2.1 dJ1_indexOfChar_4cfef_13 rfl (lv_at hl 2 rfl) ?_
        refine lv_iload X.1 X.2.1 dJ1_indexOfChar_4cfef_14 (lv_at hl 0 rfl) ?_
        refine va_tb X.1 X.2.1 hp.2.2.2.1 hS (i := y9) (iv_vpin (iv_add (a' := 1) (b' := 1) ey9 h2 (iv_c _ (a := 1) (b := 1) (by decide +kernel)) (by decide +kernel)) (by decide +kernel)) rfl dJ1_indexOfChar_4cfef_16 ?_
        refine lv_topi (fun f13 ef13 => ?_)
        have xf13 : f13.toInt = (tb.getD 1 0).toInt := by rw [ef13, sg_cl (iv_add (a' := 1) (b' := 1) ey9 h2 (iv_c _ (a := 1) (b := 1) (by decide +kernel)) (by decide +kernel)) (by decide)]; rfl
        refine lv_iload X.1 X.2.1 dJ1_indexOfChar_4cfef_17 (lv_at hl 1 rfl) ?_
        refine lv_icmp_ne (tgt := 25) X.1 X.2.1 dJ1_indexOfChar_4cfef_19 (by decide) (fun c14 => ?_) (fun c14 => ?_)
        · have i15 : ((tb.getD 1 0).toInt = x1.toInt) = False := vq_bne c14 ef1 h1 (by rw [ef13]; exact htb _ (sg_inlt (iv_vpin (iv_add (a' := 1) (b' := 1) ey9 h2 (iv_c _ (a := 1) (b := 1) (by decide +kernel)) (by decide +kernel)) (by decide +kernel)))) xf13 rfl
          obtain ⟨y17, ey17⟩ : ∃ y : Int32, y = y9 + Int32.ofInt 1 := ⟨_, rfl⟩
          have xy17 : y17.toInt = ((x2.toInt + 1) + 1) := sg_exadd ey17 (iv_add (a' := 1) (b' := 1) ey9 h2 (iv_c _ (a := 1) (b := 1) (by decide +kernel)) (by decide +kernel)) (iv_c _ (a := 1) (b := 1) (by decide +kernel)) (by decide +kernel) xy9 (by decide +kernel)
          refine lv_iinc (v := y17) (lv' := [(5, .int y17), (4, .int f1), (0, .ref tv), (1, .int x1), (2, .int x2), (3, .int x3)]) X.1 X.2.1 dJ1_indexOfChar_4cfef_25 hl (k := 0) rfl ey17.symm (by decide) rfl (fun ls hl => ?_)
          refine lv_goto (tgt := 7) X.1 X.2.1 dJ1_indexOfChar_4cfef_28 (by decide) ?_
          refine lv_iload X.1 X.2.1 dJ1_indexOfChar_4cfef_7 (lv_at hl 0 rfl) ?_
          refine lv_iload_n X.1 X.2.1 dJ1_indexOfChar_4cfef_9 rfl (lv_at hl 5 rfl) ?_
          refine lv_icmp_ge (tgt := 31) X.1 X.2.1 dJ1_indexOfChar_4cfef_10 (by decide) (fun c18 => ?_) (fun c18 => ?_)
          · have i19 : ¬ ((x2.toInt + 1) + 1) < x3.toInt := vq_le c18 rfl xy17
            exact ((iv_no (iv_le (b' := 2) c18 h3 (iv_add (a' := 2) (b' := 2) ey17 (iv_add (a' := 1) (b' := 1) ey9 h2 (iv_c _ (a := 1) (b := 1) (by decide +kernel)) (by decide +kernel)) (iv_c _ (a := 1) (b := 1) (by decide +kernel)) (by decide +kernel)) (by decide +kernel)) (by decide +kernel))).elim
          · have i20 : ((x2.toInt + 1) + 1) < x3.toInt := vq_lt (iv_gt_of c18) xy17 rfl
            refine lv_aload_n X.1 X.2.1 dJ1_indexOfChar_4cfef_13 rfl (lv_at hl 2 rfl) ?_
            refine lv_iload X.1 X.2.1 dJ1_indexOfChar_4cfef_14 (lv_at hl 0 rfl) ?_
            refine va_tb X.1 X.2.1 hp.2.2.2.1 hS (i := y17) (iv_vpin (iv_add (a' := 2) (b' := 2) ey17 (iv_add (a' := 1) (b' := 1) ey9 h2 (iv_c _ (a := 1) (b := 1) (by decide +kernel)) (by decide +kernel)) (iv_c _ (a := 1) (b := 1) (by decide +kernel)) (by decide +kernel)) (by decide +kernel)) rfl dJ1_indexOfChar_4cfef_16 ?_
            refine lv_topi (fun f21 ef21 => ?_)
            have xf21 : f21.toInt = (tb.getD 2 0).toInt := by rw [ef21, sg_cl (iv_add (a' := 2) (b' := 2) ey17 (iv_add (a' := 1) (b' := 1) ey9 h2 (iv_c _ (a := 1) (b := 1) (by decide +kernel)) (by decide +kernel)) (iv_c _ (a := 1) (b := 1) (by decide +kernel)) (by decide +kernel)) (by decide)]; rfl
            refine lv_iload X.1 X.2.1 dJ1_indexOfChar_4cfef_17 (lv_at hl 1 rfl) ?_
            refine lv_icmp_ne (tgt := 25) X.1 X.2.1 dJ1_indexOfChar_4cfef_19 (by decide) (fun c22 => ?_) (fun c22 => ?_)
            · have i23 : ((tb.getD 2 0).toInt = x1.toInt) = False := vq_bne c22 ef1 h1 (by rw [ef21]; exact htb _ (sg_inlt (iv_vpin (iv_add (a' := 2) (b' := 2) ey17 (iv_add (a' := 1) (b' := 1) ey9 h2 (iv_c _ (a := 1) (b := 1) (by decide +kernel)) (by decide +kernel)) (iv_c _ (a := 1) (b := 1) (by decide +kernel)) (by decide +kernel)) (by decide +kernel)))) xf21 rfl
              obtain ⟨y25, ey25⟩ : ∃ y : Int32, y = y17 + Int32.ofInt 1 := ⟨_, rfl⟩
              have xy25 : y25.toInt = (((x2.toInt + 1) + 1) + 1) := sg_exadd ey25 (iv_add (a' := 2) (b' := 2) ey17 (iv_add (a' := 1) (b' := 1) ey9 h2 (iv_c _ (a := 1) (b := 1) (by decide +kernel)) (by decide +kernel)) (iv_c _ (a := 1) (b := 1) (by decide +kernel)) (by decide +kernel)) (iv_c _ (a := 1) (b := 1) (by decide +kernel)) (by decide +kernel) xy17 (by decide +kernel)
              refine lv_iinc (v := y25) (lv' := [(5, .int y25), (4, .int f1), (0, .ref tv), (1, .int x1), (2, .int x2), (3, .int x3)]) X.1 X.2.1 dJ1_indexOfChar_4cfef_25 hl (k := 0) rfl ey25.symm (by decide) rfl (fun ls hl => ?_)
              refine lv_goto (tgt := 7) X.1 X.2.1 dJ1_indexOfChar_4cfef_28 (by decide) ?_
              refine lv_iload X.1 X.2.1 dJ1_indexOfChar_4cfef_7 (lv_at hl 0 rfl) ?_
              refine lv_iload_n X.1 X.2.1 dJ1_indexOfChar_4cfef_9 rfl (lv_at hl 5 rfl) ?_
              refine lv_icmp_ge (tgt := 31) X.1 X.2.1 dJ1_indexOfChar_4cfef_10 (by decide) (fun c26 => ?_) (fun c26 => ?_)
              · have i27 : ¬ (((x2.toInt + 1) + 1) + 1) < x3.toInt := vq_le c26 rfl xy25
                exact ((iv_no (iv_le (b' := 3) c26 h3 (iv_add (a' := 3) (b' := 3) ey25 (iv_add (a' := 2) (b' := 2) ey17 (iv_add (a' := 1) (b' := 1) ey9 h2 (iv_c _ (a := 1) (b := 1) (by decide +kernel)) (by decide +kernel)) (iv_c _ (a := 1) (b := 1) (by decide +kernel)) (by decide +kernel)) (iv_c _ (a := 1) (b := 1) (by decide +kernel)) (by decide +kernel)) (by decide +kernel)) (by decide +kernel))).elim
              · have i28 : (((x2.toInt + 1) + 1) + 1) < x3.toInt := vq_lt (iv_gt_of c26) xy25 rfl
                refine lv_aload_n X.1 X.2.1 dJ1_indexOfChar_4cfef_13 rfl (lv_at hl 2 rfl) ?_
                refine lv_iload X.1 X.2.1 dJ1_indexOfChar_4cfef_14 (lv_at hl 0 rfl) ?_
                refine va_tb X.1 X.2.1 hp.2.2.2.1 hS (i := y25) (iv_vpin (iv_add (a' := 3) (b' := 3) ey25 (iv_add (a' := 2) (b' := 2) ey17 (iv_add (a' := 1) (b' := 1) ey9 h2 (iv_c _ (a := 1) (b := 1) (by decide +kernel)) (by decide +kernel)) (iv_c _ (a := 1) (b := 1) (by decide +kernel)) (by decide +kernel)) (iv_c _ (a := 1) (b := 1) (by decide +kernel)) (by decide +kernel)) (by decide +kernel)) rfl dJ1_indexOfChar_4cfef_16 ?_
                refine lv_topi (fun f29 ef29 => ?_)
                have xf29 : f29.toInt = (tb.getD 3 0).toInt := by rw [ef29, sg_cl (iv_add (a' := 3) (b' := 3) ey25 (iv_add (a' := 2) (b' := 2) ey17 (iv_add (a' := 1) (b' := 1) ey9 h2 (iv_c _ (a := 1) (b := 1) (by decide +kernel)) (by decide +kernel)) (iv_c _ (a := 1) (b := 1) (by decide +kernel)) (by decide +kernel)) (iv_c _ (a := 1) (b := 1) (by decide +kernel)) (by decide +kernel)) (by decide)]; rfl
                refine lv_iload X.1 X.2.1 dJ1_indexOfChar_4cfef_17 (lv_at hl 1 rfl) ?_
                refine lv_icmp_ne (tgt := 25) X.1 X.2.1 dJ1_indexOfChar_4cfef_19 (by decide) (fun c30 => ?_) (fun c30 => ?_)
                · have i31 : ((tb.getD 3 0).toInt = x1.toInt) = False := vq_bne c30 ef1 h1 (by rw [ef29]; exact htb _ (sg_inlt (iv_vpin (iv_add (a' := 3) (b' := 3) ey25 (iv_add (a' := 2) (b' := 2) ey17 (iv_add (a' := 1) (b' := 1) ey9 h2 (iv_c _ (a := 1) (b := 1) (by decide +kernel)) (by decide +kernel)) (iv_c _ (a := 1) (b := 1) (by decide +kernel)) (by decide +kernel)) (iv_c _ (a := 1) (b := 1) (by decide +kernel)) (by decide +kernel)) (by decide +kernel)))) xf29 rfl
                  obtain ⟨y33, ey33⟩ : ∃ y : Int32, y = y25 + Int32.ofInt 1 := ⟨_, rfl⟩
                  have xy33 : y33.toInt = ((((x2.toInt + 1) + 1) + 1) + 1) := sg_exadd ey33 (iv_add (a' := 3) (b' := 3) ey25 (iv_add (a' := 2) (b' := 2) ey17 (iv_add (a' := 1) (b' := 1) ey9 h2 (iv_c _ (a := 1) (b := 1) (by decide +kernel)) (by decide +kernel)) (iv_c _ (a := 1) (b := 1) (by decide +kernel)) (by decide +kernel)) (iv_c _ (a := 1) (b := 1) (by decide +kernel)) (by decide +kernel)) (iv_c _ (a := 1) (b := 1) (by decide +kernel)) (by decide +kernel) xy25 (by decide +kernel)
                  refine lv_iinc (v := y33) (lv' := [(5, .int y33), (4, .int f1), (0, .ref tv), (1, .int x1), (2, .int x2), (3, .int x3)]) X.1 X.2.1 dJ1_indexOfChar_4cfef_25 hl (k := 0) rfl ey33.symm (by decide) rfl (fun ls hl => ?_)
                  refine lv_goto (tgt := 7) X.1 X.2.1 dJ1_indexOfChar_4cfef_28 (by decide) ?_
                  refine lv_iload X.1 X.2.1 dJ1_indexOfChar_4cfef_7 (lv_at hl 0 rfl) ?_
                  refine lv_iload_n X.1 X.2.1 dJ1_indexOfChar_4cfef_9 rfl (lv_at hl 5 rfl) ?_
                  refine lv_icmp_ge (tgt := 31) X.1 X.2.1 dJ1_indexOfChar_4cfef_10 (by decide) (fun c34 => ?_) (fun c34 => ?_)
                  · have i35 : ¬ ((((x2.toInt + 1) + 1) + 1) + 1) < x3.toInt := vq_le c34 rfl xy33
                    exact ((iv_no (iv_le (b' := 4) c34 h3 (iv_add (a' := 4) (b' := 4) ey33 (iv_add (a' := 3) (b' := 3) ey25 (iv_add (a' := 2) (b' := 2) ey17 (iv_add (a' := 1) (b' := 1) ey9 h2 (iv_c _ (a := 1) (b := 1) (by decide +kernel)) (by decide +kernel)) (iv_c _ (a := 1) (b := 1) (by decide +kernel)) (by decide +kernel)) (iv_c _ (a := 1) (b := 1) (by decide +kernel)) (by decide +kernel)) (iv_c _ (a := 1) (b := 1) (by decide +kernel)) (by decide +kernel)) (by decide +kernel)) (by decide +kernel))).elim
                  · have i36 : ((((x2.toInt + 1) + 1) + 1) + 1) < x3.toInt := vq_lt (iv_gt_of c34) xy33 rfl
                    refine lv_aload_n X.1 X.2.1 dJ1_indexOfChar_4cfef_13 rfl (lv_at hl 2 rfl) ?_
                    refine lv_iload X.1 X.2.1 dJ1_indexOfChar_4cfef_14 (lv_at hl 0 rfl) ?_
                    refine va_tb X.1 X.2.1 hp.2.2.2.1 hS (i := y33) (iv_vpin (iv_add (a' := 4) (b' := 4) ey33 (iv_add (a' := 3) (b' := 3) ey25 (iv_add (a' := 2) (b' := 2) ey17 (iv_add (a' := 1) (b' := 1) ey9 h2 (iv_c _ (a := 1) (b := 1) (by decide +kernel)) (by decide +kernel)) (iv_c _ (a := 1) (b := 1) (by decide +kernel)) (by decide +kernel)) (iv_c _ (a := 1) (b := 1) (by decide +kernel)) (by decide +kernel)) (iv_c _ (a := 1) (b := 1) (by decide +kernel)) (by decide +kernel)) (by decide +kernel)) rfl dJ1_indexOfChar_4cfef_16 ?_
                    refine lv_topi (fun f37 ef37 => ?_)
                    have xf37 : f37.toInt = (tb.getD 4 0).toInt := by rw [ef37, sg_cl (iv_add (a' := 4) (b' := 4) ey33 (iv_add (a' := 3) (b' := 3) ey25 (iv_add (a' := 2) (b' := 2) ey17 (iv_add (a' := 1) (b' := 1) ey9 h2 (iv_c _ (a := 1) (b := 1) (by decide +kernel)) (by decide +kernel)) (iv_c _ (a := 1) (b := 1) (by decide +kernel)) (by decide +kernel)) (iv_c _ (a := 1) (b := 1) (by decide +kernel)) (by decide +kernel)) (iv_c _ (a := 1) (b := 1) (by decide +kernel)) (by decide +kernel)) (by decide)]; rfl
                    refine lv_iload X.1 X.2.1 dJ1_indexOfChar_4cfef_17 (lv_at hl 1 rfl) ?_
                    refine lv_icmp_ne (tgt := 25) X.1 X.2.1 dJ1_indexOfChar_4cfef_19 (by decide) (fun c38 => ?_) (fun c38 => ?_)
                    · have i39 : ((tb.getD 4 0).toInt = x1.toInt) = False := vq_bne c38 ef1 h1 (by rw [ef37]; exact htb _ (sg_inlt (iv_vpin (iv_add (a' := 4) (b' := 4) ey33 (iv_add (a' := 3) (b' := 3) ey25 (iv_add (a' := 2) (b' := 2) ey17 (iv_add (a' := 1) (b' := 1) ey9 h2 (iv_c _ (a := 1) (b := 1) (by decide +kernel)) (by decide +kernel)) (iv_c _ (a := 1) (b := 1) (by decide +kernel)) (by decide +kernel)) (iv_c _ (a := 1) (b := 1) (by decide +kernel)) (by decide +kernel)) (iv_c _ (a := 1) (b := 1) (by decide +kernel)) (by decide +kernel)) (by decide +kernel)))) xf37 rfl
                      obtain ⟨y41, ey41⟩ : ∃ y : Int32, y = y33 + Int32.ofInt 1 := ⟨_, rfl⟩
                      have xy41 : y41.toInt = (((((x2.toInt + 1) + 1) + 1) + 1) + 1) := sg_exadd ey41 (iv_add (a' := 4) (b' := 4) ey33 (iv_add (a' := 3) (b' := 3) ey25 (iv_add (a' := 2) (b' := 2) ey17 (iv_add (a' := 1) (b' := 1) ey9 h2 (iv_c _ (a := 1) (b := 1) (by decide +kernel)) (by decide +kernel)) (iv_c _ (a := 1) (b := 1) (by decide +kernel)) (by decide +kernel)) (iv_c _ (a := 1) (b := 1) (by decide +kernel)) (by decide +kernel)) (iv_c _ (a := 1) (b := 1) (by decide +kernel)) (by decide +kernel)) (iv_c _ (a := 1) (b := 1) (by decide +kernel)) (by decide +kernel) xy33 (by decide +kernel)
                      refine lv_iinc (v := y41) (lv' := [(5, .int y41), (4, .int f1), (0, .ref tv), (1, .int x1), (2, .int x2), (3, .int x3)]) X.1 X.2.1 dJ1_indexOfChar_4cfef_25 hl (k := 0) rfl ey41.symm (by decide) rfl (fun ls hl => ?_)
                      refine lv_goto (tgt := 7) X.1 X.2.1 dJ1_indexOfChar_4cfef_28 (by decide) ?_
                      refine lv_iload X.1 X.2.1 dJ1_indexOfChar_4cfef_7 (lv_at hl 0 rfl) ?_
                      refine lv_iload_n X.1 X.2.1 dJ1_indexOfChar_4cfef_9 rfl (lv_at hl 5 rfl) ?_
                      refine lv_icmp_ge (tgt := 31) X.1 X.2.1 dJ1_indexOfChar_4cfef_10 (by decide) (fun c42 => ?_) (fun c42 => ?_)
                      · have i43 : ¬ (((((x2.toInt + 1) + 1) + 1) + 1) + 1) < x3.toInt := vq_le c42 rfl xy41
                        exact ((iv_no (iv_le (b' := 5) c42 h3 (iv_add (a' := 5) (b' := 5) ey41 (iv_add (a' := 4) (b' := 4) ey33 (iv_add (a' := 3) (b' := 3) ey25 (iv_add (a' := 2) (b' := 2) ey17 (iv_add (a' := 1) (b' := 1) ey9 h2 (iv_c _ (a := 1) (b := 1) (by decide +kernel)) (by decide +kernel)) (iv_c _ (a := 1) (b := 1) (by decide +kernel)) (by decide +kernel)) (iv_c _ (a := 1) (b := 1) (by decide +kernel)) (by decide +kernel)) (iv_c _ (a := 1) (b := 1) (by decide +kernel)) (by decide +kernel)) (iv_c _ (a := 1) (b := 1) (by decide +kernel)) (by decide +kernel)) (by decide +kernel)) (by decide +kernel))).elim
                      · have i44 : (((((x2.toInt + 1) + 1) + 1) + 1) + 1) < x3.toInt := vq_lt (iv_gt_of c42) xy41 rfl
                        refine lv_aload_n X.1 X.2.1 dJ1_indexOfChar_4cfef_13 rfl (lv_at hl 2 rfl) ?_
                        refine lv_iload X.1 X.2.1 dJ1_indexOfChar_4cfef_14 (lv_at hl 0 rfl) ?_
                        refine va_tb X.1 X.2.1 hp.2.2.2.1 hS (i := y41) (iv_vpin (iv_add (a' := 5) (b' := 5) ey41 (iv_add (a' := 4) (b' := 4) ey33 (iv_add (a' := 3) (b' := 3) ey25 (iv_add (a' := 2) (b' := 2) ey17 (iv_add (a' := 1) (b' := 1) ey9 h2 (iv_c _ (a := 1) (b := 1) (by decide +kernel)) (by decide +kernel)) (iv_c _ (a := 1) (b := 1) (by decide +kernel)) (by decide +kernel)) (iv_c _ (a := 1) (b := 1) (by decide +kernel)) (by decide +kernel)) (iv_c _ (a := 1) (b := 1) (by decide +kernel)) (by decide +kernel)) (iv_c _ (a := 1) (b := 1) (by decide +kernel)) (by decide +kernel)) (by decide +kernel)) rfl dJ1_indexOfChar_4cfef_16 ?_
                        refine lv_topi (fun f45 ef45 => ?_)
                        have xf45 : f45.toInt = (tb.getD 5 0).toInt := by rw [ef45, sg_cl (iv_add (a' := 5) (b' := 5) ey41 (iv_add (a' := 4) (b' := 4) ey33 (iv_add (a' := 3) (b' := 3) ey25 (iv_add (a' := 2) (b' := 2) ey17 (iv_add (a' := 1) (b' := 1) ey9 h2 (iv_c _ (a := 1) (b := 1) (by decide +kernel)) (by decide +kernel)) (iv_c _ (a := 1) (b := 1) (by decide +kernel)) (by decide +kernel)) (iv_c _ (a := 1) (b := 1) (by decide +kernel)) (by decide +kernel)) (iv_c _ (a := 1) (b := 1) (by decide +kernel)) (by decide +kernel)) (iv_c _ (a := 1) (b := 1) (by decide +kernel)) (by decide +kernel)) (by decide)]; rfl
                        refine lv_iload X.1 X.2.1 dJ1_indexOfChar_4cfef_17 (lv_at hl 1 rfl) ?_
                        refine lv_icmp_ne (tgt := 25) X.1 X.2.1 dJ1_indexOfChar_4cfef_19 (by decide) (fun c46 => ?_) (fun c46 => ?_)
                        · have i47 : ((tb.getD 5 0).toInt = x1.toInt) = False := vq_bne c46 ef1 h1 (by rw [ef45]; exact htb _ (sg_inlt (iv_vpin (iv_add (a' := 5) (b' := 5) ey41 (iv_add (a' := 4) (b' := 4) ey33 (iv_add (a' := 3) (b' := 3) ey25 (iv_add (a' := 2) (b' := 2) ey17 (iv_add (a' := 1) (b' := 1) ey9 h2 (iv_c _ (a := 1) (b := 1) (by decide +kernel)) (by decide +kernel)) (iv_c _ (a := 1) (b := 1) (by decide +kernel)) (by decide +kernel)) (iv_c _ (a := 1) (b := 1) (by decide +kernel)) (by decide +kernel)) (iv_c _ (a := 1) (b := 1) (by decide +kernel)) (by decide +kernel)) (iv_c _ (a := 1) (b := 1) (by decide +kernel)) (by decide +kernel)) (by decide +kernel)))) xf45 rfl
                          obtain ⟨y49, ey49⟩ : ∃ y : Int32, y = y41 + Int32.ofInt 1 := ⟨_, rfl⟩
                          have xy49 : y49.toInt = ((((((x2.toInt + 1) + 1) + 1) + 1) + 1) + 1) := sg_exadd ey49 (iv_add (a' := 5) (b' := 5) ey41 (iv_add (a' := 4) (b' := 4) ey33 (iv_add (a' := 3) (b' := 3) ey25 (iv_add (a' := 2) (b' := 2) ey17 (iv_add (a' := 1) (b' := 1) ey9 h2 (iv_c _ (a := 1) (b := 1) (by decide +kernel)) (by decide +kernel)) (iv_c _ (a := 1) (b := 1) (by decide +kernel)) (by decide +kernel)) (iv_c _ (a := 1) (b := 1) (by decide +kernel)) (by decide +kernel)) (iv_c _ (a := 1) (b := 1) (by decide +kernel)) (by decide +kernel)) (iv_c _ (a := 1) (b := 1) (by decide +kernel)) (by decide +kernel)) (iv_c _ (a := 1) (b := 1) (by decide +kernel)) (by decide +kernel) xy41 (by decide +kernel)
                          refine lv_iinc (v := y49) (lv' := [(5, .int y49), (4, .int f1), (0, .ref tv), (1, .int x1), (2, .int x2), (3, .int x3)]) X.1 X.2.1 dJ1_indexOfChar_4cfef_25 hl (k := 0) rfl ey49.symm (by decide) rfl (fun ls hl => ?_)
                          refine lv_goto (tgt := 7) X.1 X.2.1 dJ1_indexOfChar_4cfef_28 (by decide) ?_
                          refine lv_iload X.1 X.2.1 dJ1_indexOfChar_4cfef_7 (lv_at hl 0 rfl) ?_
                          refine lv_iload_n X.1 X.2.1 dJ1_indexOfChar_4cfef_9 rfl (lv_at hl 5 rfl) ?_
                          refine lv_icmp_ge (tgt := 31) X.1 X.2.1 dJ1_indexOfChar_4cfef_10 (by decide) (fun c50 => ?_) (fun c50 => ?_)
                          · have i51 : ¬ ((((((x2.toInt + 1) + 1) + 1) + 1) + 1) + 1) < x3.toInt := vq_le c50 rfl xy49
                            refine lv_iconst (v := (-1)) X.1 X.2.1 dJ1_indexOfChar_4cfef_31 (by decide +kernel) ?_
                            exact sg_iretP X hr hlk hS (by rw [show ((-1) : Int32).toInt = (-1 : Int) from (by decide +kernel)]; simp only [vIx, i4, i7, i12, i15, i20, i23, i28, i31, i36, i39, i44, i47, i51, if_true, if_false]) dJ1_indexOfChar_4cfef_32
                          · have i52 : ((((((x2.toInt + 1) + 1) + 1) + 1) + 1) + 1) < x3.toInt := vq_lt (iv_gt_of c50) xy49 rfl
                            exact ((iv_no (iv_lt (b' := 5) (iv_gt_of c50) (iv_add (a' := 6) (b' := 6) ey49 (iv_add (a' := 5) (b' := 5) ey41 (iv_add (a' := 4) (b' := 4) ey33 (iv_add (a' := 3) (b' := 3) ey25 (iv_add (a' := 2) (b' := 2) ey17 (iv_add (a' := 1) (b' := 1) ey9 h2 (iv_c _ (a := 1) (b := 1) (by decide +kernel)) (by decide +kernel)) (iv_c _ (a := 1) (b := 1) (by decide +kernel)) (by decide +kernel)) (iv_c _ (a := 1) (b := 1) (by decide +kernel)) (by decide +kernel)) (iv_c _ (a := 1) (b := 1) (by decide +kernel)) (by decide +kernel)) (iv_c _ (a := 1) (b := 1) (by decide +kernel)) (by decide +kernel)) (iv_c _ (a := 1) (b := 1) (by decide +kernel)) (by decide +kernel)) h3 (by decide +kernel)) (by decide +kernel))).elim
                        · have i48 : (tb.getD 5 0).toInt = x1.toInt := vq_beq c46 ef1 h1 (by rw [ef45]; exact htb _ (sg_inlt (iv_vpin (iv_add (a' := 5) (b' := 5) ey41 (iv_add (a' := 4) (b' := 4) ey33 (iv_add (a' := 3) (b' := 3) ey25 (iv_add (a' := 2) (b' := 2) ey17 (iv_add (a' := 1) (b' := 1) ey9 h2 (iv_c _ (a := 1) (b := 1) (by decide +kernel)) (by decide +kernel)) (iv_c _ (a := 1) (b := 1) (by decide +kernel)) (by decide +kernel)) (iv_c _ (a := 1) (b := 1) (by decide +kernel)) (by decide +kernel)) (iv_c _ (a := 1) (b := 1) (by decide +kernel)) (by decide +kernel)) (iv_c _ (a := 1) (b := 1) (by decide +kernel)) (by decide +kernel)) (by decide +kernel)))) xf45 rfl
                          refine lv_iload X.1 X.2.1 dJ1_indexOfChar_4cfef_22 (lv_at hl 0 rfl) ?_
                          exact sg_iretP X hr hlk hS (by rw [show (y41 : Int32).toInt = (5 : Int) from vq_iv ((iv_add (a' := 5) (b' := 5) ey41 (iv_add (a' := 4) (b' := 4) ey33 (iv_add (a' := 3) (b' := 3) ey25 (iv_add (a' := 2) (b' := 2) ey17 (iv_add (a' := 1) (b' := 1) ey9 h2 (iv_c _ (a := 1) (b := 1) (by decide +kernel)) (by decide +kernel)) (iv_c _ (a := 1) (b := 1) (by decide +kernel)) (by decide +kernel)) (iv_c _ (a := 1) (b := 1) (by decide +kernel)) (by decide +kernel)) (iv_c _ (a := 1) (b := 1) (by decide +kernel)) (by decide +kernel)) (iv_c _ (a := 1) (b := 1) (by decide +kernel)) (by decide +kernel)))]; simp only [vIx, i4, i7, i12, i15, i20, i23, i28, i31, i36, i39, i44, i48, if_true, if_false]; rfl) dJ1_indexOfChar_4cfef_24
                    · have i40 : (tb.getD 4 0).toInt = x1.toInt := vq_beq c38 ef1 h1 (by rw [ef37]; exact htb _ (sg_inlt (iv_vpin (iv_add (a' := 4) (b' := 4) ey33 (iv_add (a' := 3) (b' := 3) ey25 (iv_add (a' := 2) (b' := 2) ey17 (iv_add (a' := 1) (b' := 1) ey9 h2 (iv_c _ (a := 1) (b := 1) (by decide +kernel)) (by decide +kernel)) (iv_c _ (a := 1) (b := 1) (by decide +kernel)) (by decide +kernel)) (iv_c _ (a := 1) (b := 1) (by decide +kernel)) (by decide +kernel)) (iv_c _ (a := 1) (b := 1) (by decide +kernel)) (by decide +kernel)) (by decide +kernel)))) xf37 rfl
                      refine lv_iload X.1 X.2.1 dJ1_indexOfChar_4cfef_22 (lv_at hl 0 rfl) ?_
                      exact sg_iretP X hr hlk hS (by rw [show (y33 : Int32).toInt = (4 : Int) from vq_iv ((iv_add (a' := 4) (b' := 4) ey33 (iv_add (a' := 3) (b' := 3) ey25 (iv_add (a' := 2) (b' := 2) ey17 (iv_add (a' := 1) (b' := 1) ey9 h2 (iv_c _ (a := 1) (b := 1) (by decide +kernel)) (by decide +kernel)) (iv_c _ (a := 1) (b := 1) (by decide +kernel)) (by decide +kernel)) (iv_c _ (a := 1) (b := 1) (by decide +kernel)) (by decide +kernel)) (iv_c _ (a := 1) (b := 1) (by decide +kernel)) (by decide +kernel)))]; simp only [vIx, i4, i7, i12, i15, i20, i23, i28, i31, i36, i40, if_true, if_false]; rfl) dJ1_indexOfChar_4cfef_24
                · have i32 : (tb.getD 3 0).toInt = x1.toInt := vq_beq c30 ef1 h1 (by rw [ef29]; exact htb _ (sg_inlt (iv_vpin (iv_add (a' := 3) (b' := 3) ey25 (iv_add (a' := 2) (b' := 2) ey17 (iv_add (a' := 1) (b' := 1) ey9 h2 (iv_c _ (a := 1) (b := 1) (by decide +kernel)) (by decide +kernel)) (iv_c _ (a := 1) (b := 1) (by decide +kernel)) (by decide +kernel)) (iv_c _ (a := 1) (b := 1) (by decide +kernel)) (by decide +kernel)) (by decide +kernel)))) xf29 rfl
                  refine lv_iload X.1 X.2.1 dJ1_indexOfChar_4cfef_22 (lv_at hl 0 rfl) ?_
                  exact sg_iretP X hr hlk hS (by rw [show (y25 : Int32).toInt = (3 : Int) from vq_iv ((iv_add (a' := 3) (b' := 3) ey25 (iv_add (a' := 2) (b' := 2) ey17 (iv_add (a' := 1) (b' := 1) ey9 h2 (iv_c _ (a := 1) (b := 1) (by decide +kernel)) (by decide +kernel)) (iv_c _ (a := 1) (b := 1) (by decide +kernel)) (by decide +kernel)) (iv_c _ (a := 1) (b := 1) (by decide +kernel)) (by decide +kernel)))]; simp only [vIx, i4, i7, i12, i15, i20, i23, i28, i32, if_true, if_false]; rfl) dJ1_indexOfChar_4cfef_24
            · have i24 : (tb.getD 2 0).toInt = x1.toInt := vq_beq c22 ef1 h1 (by rw [ef21]; exact htb _ (sg_inlt (iv_vpin (iv_add (a' := 2) (b' := 2) ey17 (iv_add (a' := 1) (b' := 1) ey9 h2 (iv_c _ (a := 1) (b := 1) (by decide +kernel)) (by decide +kernel)) (iv_c _ (a := 1) (b := 1) (by decide +kernel)) (by decide +kernel)) (by decide +kernel)))) xf21 rfl
              refine lv_iload X.1 X.2.1 dJ1_indexOfChar_4cfef_22 (lv_at hl 0 rfl) ?_
              exact sg_iretP X hr hlk hS (by rw [show (y17 : Int32).toInt = (2 : Int) from vq_iv ((iv_add (a' := 2) (b' := 2) ey17 (iv_add (a' := 1) (b' := 1) ey9 h2 (iv_c _ (a := 1) (b := 1) (by decide +kernel)) (by decide +kernel)) (iv_c _ (a := 1) (b := 1) (by decide +kernel)) (by decide +kernel)))]; simp only [vIx, i4, i7, i12, i15, i20, i24, if_true, if_false]; rfl) dJ1_indexOfChar_4cfef_24
        · have i16 : (tb.getD 1 0).toInt = x1.toInt := vq_beq c14 ef1 h1 (by rw [ef13]; exact htb _ (sg_inlt (iv_vpin (iv_add (a' := 1) (b' := 1) ey9 h2 (iv_c _ (a := 1) (b := 1) (by decide +kernel)) (by decide +kernel)) (by decide +kernel)))) xf13 rfl
          refine lv_iload X.1 X.2.1 dJ1_indexOfChar_4cfef_22 (lv_at hl 0 rfl) ?_
          exact sg_iretP X hr hlk hS (by rw [show (y9 : Int32).toInt = (1 : Int) from vq_iv ((iv_add (a' := 1) (b' := 1) ey9 h2 (iv_c _ (a := 1) (b := 1) (by decide +kernel)) (by decide +kernel)))]; simp only [vIx, i4, i7, i12, i16, if_true, if_false]; rfl) dJ1_indexOfChar_4cfef_24
    · have i8 : (tb.getD 0 0).toInt = x1.toInt := vq_beq c6 ef1 h1 (by rw [ef5]; exact htb _ (sg_inlt (iv_vpin h2 (by decide +kernel)))) xf5 rfl
      refine lv_iload X.1 X.2.1 dJ1_indexOfChar_4cfef_22 (lv_at hl 0 rfl) ?_
      exact sg_iretP X hr hlk hS (by rw [show (x2 : Int32).toInt = (0 : Int) from vq_iv (h2)]; simp only [vIx, i4, i8, if_true, if_false]; rfl) dJ1_indexOfChar_4cfef_24

theorem ca_J1_indexOfChar_4cfef_v6   (X : CallFix p m c cc nL s args sg_tbl own) (hK : va_K D vwCl tys s) (hG : sgG (KT P) D vwCl (fun q : Nat => base ≤ q) tys ad ks H) (hC : sgC base s) (hA : ∀ q : Nat, A q → base ≤ q) (hS : va_S A s.heap H locs)  (hb : base ≤ s.heap.size) {ta tv : Nat} {tb : List Int32} (hp : P_S ta tv 6 tb A s) (x1 : Int32) (h1 : iv 0 255 x1) (x2 : Int32) (h2 : iv 0 0 x2) (x3 : Int32) (h3 : iv 6 6 x3) (htb : ∀ j : Nat, j < 6 → iv 0 127 (tb.getD j 0)) (hl : Cond.methodLink own index yJ1_indexOfChar_4cfef ∈ sg_tbl) (hsize : ls.size = nL) (hst : st0 = [.ref tv, .int x1, .int x2, .int x3].reverse ++ rest) (hW : (rest.map fun v => v.category).sum ≤ 8) (hR : 1 ≤ R.frames ∧ 25 ≤ R.locals) (hf : cells ≤ R.cells ∧ slots ≤ R.slots) (hdg : decode cc pc = .ok (.invokestatic index, 3)) (kk : ∀ (r : Int32) (locs1 : List Loc), (fun r : Int32 => r.toInt = vIx tb x1.toInt 6 0) r → va_S A s.heap H locs1 → W p l e R s m args below meth c H locs1 cells slots Q (F0 m (pc + 3) ls (.int r :: rest))) : W p l e R s m args below meth c H locs cells slots Q (F0 m pc ls st0) :=
  sg_callESi X hK hG hC hA hS hb hp (m_J1_indexOfChar_4cfef_v6 l ta tv tb x1 h1 x2 h2 x3 h3 htb) wl_3_105 wl_1_17 wl_3_104 (n := 4) (by decide +kernel) rfl rfl rfl hl hsize hst hW hR hf hdg kk

set_option maxHeartbeats 8000000 in
set_option maxRecDepth 100000 in
theorem m_J1_indexOf_4cfef_v6 (l : Launch) {D : va_G} {base : Nat} {tys : List (ClassId × FieldType)} {ad ks : List Nat} {P : sgPm} {Hx : Heap} (ta tv : Nat) (tb : List Int32) (x1 : Int32) (h1 : iv 0 255 x1) (x2 : Int32) (h2 : iv 0 0 x2) (x3 : Int32) (h3 : iv 6 6 x3) (htb : ∀ j : Nat, j < 6 → iv 0 127 (tb.getD j 0)) : sgEi l (KT P) D vwCl base tys ad ks Hx ta tv 6 tb yJ1_indexOf_4cfef cJ1_indexOf_4cfef 4 (some .int) ({ frames := 1, cells := 0, slots := 0, locals := 25 }) [.ref tv, .int x1, .int x2, .int x3] (fun r : Int32 => r.toInt = vIx tb x1.toInt 6 0) := by
  refine sg_ofE (Pq := fun Hx => va_Qi (fun r (_ : Unit) => (fun r : Int32 => r.toInt = vIx tb x1.toInt 6 0) r) (fun _ t => t.heap = Hx) (fun _ : Nat => False)) (by decide +kernel) (Nat.le_of_ble_eq_true rfl) (fun p e s m below meth c X hr hlk hb hK hC hG ls hl hp => ?_)
  have hS : va_S (fun _ : Nat => False) s.heap s.heap [] := va_S.rf
  have hl : lv_has ls 4 [(0, .ref tv), (1, .int x1), (2, .int x2), (3, .int x3)] := hl
  refine lv_iload_n X.1 X.2.1 dJ1_indexOf_4cfef_0 rfl (lv_at hl 1 rfl) ?_
  refine ca_J1_canEncode_9a6ad_v X hK hG hC (fun _ h => h.elim) hS hb x1 h1 wl_3_96 hl.1 (rest := []) rfl (Nat.le_of_ble_eq_true rfl) ⟨Nat.le_of_ble_eq_true rfl, Nat.le_of_ble_eq_true rfl⟩ ⟨Nat.le_of_ble_eq_true rfl, Nat.le_of_ble_eq_true rfl⟩ dJ1_indexOf_4cfef_1 (fun f1 locs hf1 hS => ?_)
  refine lv_if_ne (tgt := 9) X.1 X.2.1 dJ1_indexOf_4cfef_4 (by decide) (fun c2 => ?_) (fun c2 => ?_)
  · have i3 : ((1 : Int) = (0 : Int)) = False := vq_ne c2 (vq_iv hf1) (by decide +kernel)
    refine lv_iload_n X.1 X.2.1 dJ1_indexOf_4cfef_9 rfl (lv_at hl 2 rfl) ?_
    refine lv_iconst (v := 0) X.1 X.2.1 dJ1_indexOf_4cfef_10 (by decide +kernel) ?_
    refine va_mmax X.1 X.2.1 (X.2.2.1.trans hl.1.symm) X.2.2.2.1 (X.2.2.2.2 _ wl_3_99) (X.2.2.2.2 _ wl_3_100) (X.2.2.2.2 _ wl_1_15) (X.2.2.2.2 _ wl_3_101) (Nat.le_of_ble_eq_true rfl) (Nat.le_of_ble_eq_true rfl) (Nat.le_of_ble_eq_true rfl) (Nat.le_of_ble_eq_true rfl) dJ1_indexOf_4cfef_11 ?_
    refine lv_topi (fun f5 ef5 => ?_)
    refine lv_istore_n (lv' := [(2, .int f5), (0, .ref tv), (1, .int x1), (3, .int x3)]) X.1 X.2.1 dJ1_indexOf_4cfef_14 rfl hl (by decide) rfl (fun ls hl => ?_)
    refine lv_iload_n X.1 X.2.1 dJ1_indexOf_4cfef_15 rfl (lv_at hl 3 rfl) ?_
    refine lv_aload_n X.1 X.2.1 dJ1_indexOf_4cfef_16 rfl (lv_at hl 1 rfl) ?_
    refine va_tlen X.1 X.2.1 hp.2.2.2.1 hS (v := 6) rfl dJ1_indexOf_4cfef_17 ?_
    refine va_mmin X.1 X.2.1 (X.2.2.1.trans hl.1.symm) X.2.2.2.1 (X.2.2.2.2 _ wl_3_102) (X.2.2.2.2 _ wl_3_64) (X.2.2.2.2 _ wl_1_15) (X.2.2.2.2 _ wl_3_65) (Nat.le_of_ble_eq_true rfl) (Nat.le_of_ble_eq_true rfl) (Nat.le_of_ble_eq_true rfl) (Nat.le_of_ble_eq_true rfl) dJ1_indexOf_4cfef_18 ?_
    refine lv_topi (fun f6 ef6 => ?_)
    refine lv_istore_n (lv' := [(3, .int f6), (2, .int f5), (0, .ref tv), (1, .int x1)]) X.1 X.2.1 dJ1_indexOf_4cfef_21 rfl hl (by decide) rfl (fun ls hl => ?_)
    refine lv_iload_n X.1 X.2.1 dJ1_indexOf_4cfef_22 rfl (lv_at hl 1 rfl) ?_
    refine lv_iload_n X.1 X.2.1 dJ1_indexOf_4cfef_23 rfl (lv_at hl 0 rfl) ?_
    refine lv_icmp_lt (tgt := 29) X.1 X.2.1 dJ1_indexOf_4cfef_24 (by decide) (fun c7 => ?_) (fun c7 => ?_)
    · refine lv_aload_n X.1 X.2.1 dJ1_indexOf_4cfef_29 rfl (lv_at hl 2 rfl) ?_
      refine lv_iload_n X.1 X.2.1 dJ1_indexOf_4cfef_30 rfl (lv_at hl 3 rfl) ?_
      refine lv_iload_n X.1 X.2.1 dJ1_indexOf_4cfef_31 rfl (lv_at hl 1 rfl) ?_
      refine lv_iload_n X.1 X.2.1 dJ1_indexOf_4cfef_32 rfl (lv_at hl 0 rfl) ?_
      refine ca_J1_indexOfChar_4cfef_v6 X hK hG hC (fun _ h => h.elim) hS hb hp x1 h1 f5 (iv_max (a' := 0) (b' := 0) ef5 h2 (iv_c 0 (a := 0) (b := 0) (by decide +kernel)) (by decide +kernel)) f6 (iv_min (a' := 6) (b' := 6) ef6 h3 (iv_c 6 (a := 6) (b := 6) (by decide +kernel)) (by decide +kernel)) htb wl_3_103 hl.1 (rest := []) rfl (Nat.le_of_ble_eq_true rfl) ⟨Nat.le_of_ble_eq_true rfl, Nat.le_of_ble_eq_true rfl⟩ ⟨Nat.le_of_ble_eq_true rfl, Nat.le_of_ble_eq_true rfl⟩ dJ1_indexOf_4cfef_33 (fun f8 locs hf8 hS => ?_)
      have xf8 : f8.toInt = vIx tb (x1.toInt) 6 0 := hf8
      exact sg_iretP X hr hlk hS xf8 dJ1_indexOf_4cfef_36
    · exact ((iv_no (iv_le (b' := 0) (iv_ge_of c7) (iv_min (a' := 6) (b' := 6) ef6 h3 (iv_c 6 (a := 6) (b := 6) (by decide +kernel)) (by decide +kernel)) (iv_max (a' := 0) (b' := 0) ef5 h2 (iv_c 0 (a := 0) (b := 0) (by decide +kernel)) (by decide +kernel)) (by decide +kernel)) (by decide +kernel))).elim
  · have i4 : (1 : Int) = (0 : Int) := vq_eq c2 (vq_iv hf1) (by decide +kernel)
    exact ((iv_no (a := 1) (b := 0) (iv_eqm c2 hf1 (iv_c 0 (a := 0) (b := 0) (by decide +kernel)) (by decide +kernel)) (by decide +kernel))).elim

theorem ca_J1_indexOf_4cfef_v6   (X : CallFix p m c cc nL s args sg_tbl own) (hK : va_K D vwCl tys s) (hG : sgG (KT P) D vwCl (fun q : Nat => base ≤ q) tys ad ks H) (hC : sgC base s) (hA : ∀ q : Nat, A q → base ≤ q) (hS : va_S A s.heap H locs)  (hb : base ≤ s.heap.size) {ta tv : Nat} {tb : List Int32} (hp : P_S ta tv 6 tb A s) (x1 : Int32) (h1 : iv 0 255 x1) (x2 : Int32) (h2 : iv 0 0 x2) (x3 : Int32) (h3 : iv 6 6 x3) (htb : ∀ j : Nat, j < 6 → iv 0 127 (tb.getD j 0)) (hl : Cond.methodLink own index yJ1_indexOf_4cfef ∈ sg_tbl) (hsize : ls.size = nL) (hst : st0 = [.ref tv, .int x1, .int x2, .int x3].reverse ++ rest) (hW : (rest.map fun v => v.category).sum ≤ 8) (hR : 2 ≤ R.frames ∧ 48 ≤ R.locals) (hf : cells ≤ R.cells ∧ slots ≤ R.slots) (hdg : decode cc pc = .ok (.invokestatic index, 3)) (kk : ∀ (r : Int32) (locs1 : List Loc), (fun r : Int32 => r.toInt = vIx tb x1.toInt 6 0) r → va_S A s.heap H locs1 → W p l e R s m args below meth c H locs1 cells slots Q (F0 m (pc + 3) ls (.int r :: rest))) : W p l e R s m args below meth c H locs cells slots Q (F0 m pc ls st0) :=
  sg_callESi X hK hG hC hA hS hb hp (m_J1_indexOf_4cfef_v6 l ta tv tb x1 h1 x2 h2 x3 h3 htb) wl_3_95 wl_1_17 wl_3_94 (n := 4) (by decide +kernel) rfl rfl rfl hl hsize hst hW hR hf hdg kk

set_option maxHeartbeats 8000000 in
set_option maxRecDepth 100000 in
theorem m_J0_indexOf_7cf53_v6 (l : Launch) {D : va_G} {base : Nat} {tys : List (ClassId × FieldType)} {ad ks : List Nat} {P : sgPm} {Hx : Heap} (ta tv : Nat) (tb : List Int32) (x1 : Int32) (h1 : iv 0 255 x1) (x2 : Int32) (h2 : iv 0 0 x2) (htb : ∀ j : Nat, j < 6 → iv 0 127 (tb.getD j 0)) : sgEi l (KT P) D vwCl base tys ad ks Hx ta tv 6 tb yJ0_indexOf_7cf53 cJ0_indexOf_7cf53 3 (some .int) ({ frames := 2, cells := 0, slots := 0, locals := 48 }) [.ref ta, .int x1, .int x2] (fun r : Int32 => r.toInt = vIx tb x1.toInt 6 0) := by
  refine sg_ofE (Pq := fun Hx => va_Qi (fun r (_ : Unit) => (fun r : Int32 => r.toInt = vIx tb x1.toInt 6 0) r) (fun _ t => t.heap = Hx) (fun _ : Nat => False)) (by decide +kernel) (Nat.le_of_ble_eq_true rfl) (fun p e s m below meth c X hr hlk hb hK hC hG ls hl hp => ?_)
  have hS : va_S (fun _ : Nat => False) s.heap s.heap [] := va_S.rf
  have hl : lv_has ls 3 [(0, .ref ta), (1, .int x1), (2, .int x2)] := hl
  refine lv_aload_n X.1 X.2.1 dJ0_indexOf_7cf53_0 rfl (lv_at hl 0 rfl) ?_
  refine ca_J0_isLatin1_aae02_6 X hK hG hC (fun _ h => h.elim) hS hb hp wl_3_79 hl.1 (rest := []) rfl (Nat.le_of_ble_eq_true rfl) ⟨Nat.le_of_ble_eq_true rfl, Nat.le_of_ble_eq_true rfl⟩ ⟨Nat.le_of_ble_eq_true rfl, Nat.le_of_ble_eq_true rfl⟩ dJ0_indexOf_7cf53_1 (fun f1 locs hf1 hS => ?_)
  refine lv_if_eq (tgt := 23) X.1 X.2.1 dJ0_indexOf_7cf53_4 (by decide) (fun c2 => ?_) (fun c2 => ?_)
  · have i3 : (1 : Int) = (0 : Int) := vq_eq c2 (vq_iv hf1) (by decide +kernel)
    exact ((iv_no (a := 1) (b := 0) (iv_eqm c2 hf1 (iv_c 0 (a := 0) (b := 0) (by decide +kernel)) (by decide +kernel)) (by decide +kernel))).elim
  · have i4 : ((1 : Int) = (0 : Int)) = False := vq_ne c2 (vq_iv hf1) (by decide +kernel)
    refine lv_aload_n X.1 X.2.1 dJ0_indexOf_7cf53_7 rfl (lv_at hl 0 rfl) ?_
    refine vk_getf (v := .ref tv) X.1 X.2.1 hp.2.2.1 hS X.2.2.2.1 (X.2.2.2.2 _ wl_9_181) (fun _ h9 => h9) dJ0_indexOf_7cf53_8 ?_
    refine lv_iload_n X.1 X.2.1 dJ0_indexOf_7cf53_11 rfl (lv_at hl 1 rfl) ?_
    refine lv_iload_n X.1 X.2.1 dJ0_indexOf_7cf53_12 rfl (lv_at hl 2 rfl) ?_
    refine lv_aload_n X.1 X.2.1 dJ0_indexOf_7cf53_13 rfl (lv_at hl 0 rfl) ?_
    refine ca_J0_length_8abf5_6 X hK hG hC (fun _ h => h.elim) hS hb hp wl_3_85 hl.1 (rest := [.int x2, .int x1, .ref tv]) rfl (Nat.le_of_ble_eq_true rfl) ⟨Nat.le_of_ble_eq_true rfl, Nat.le_of_ble_eq_true rfl⟩ ⟨Nat.le_of_ble_eq_true rfl, Nat.le_of_ble_eq_true rfl⟩ dJ0_indexOf_7cf53_14 (fun f5 locs hf5 hS => ?_)
    refine ca_J1_indexOf_4cfef_v6 X hK hG hC (fun _ h => h.elim) hS hb hp x1 h1 x2 h2 f5 hf5 htb wl_3_93 hl.1 (rest := []) rfl (Nat.le_of_ble_eq_true rfl) ⟨Nat.le_of_ble_eq_true rfl, Nat.le_of_ble_eq_true rfl⟩ ⟨Nat.le_of_ble_eq_true rfl, Nat.le_of_ble_eq_true rfl⟩ dJ0_indexOf_7cf53_17 (fun f6 locs hf6 hS => ?_)
    have xf6 : f6.toInt = vIx tb (x1.toInt) 6 0 := hf6
    refine lv_goto (tgt := 36) X.1 X.2.1 dJ0_indexOf_7cf53_20 (by decide) ?_
    exact sg_iretP X hr hlk hS xf6 dJ0_indexOf_7cf53_36

theorem ca_J0_indexOf_7cf53_v6   (X : CallFix p m c cc nL s args sg_tbl own) (hK : va_K D vwCl tys s) (hG : sgG (KT P) D vwCl (fun q : Nat => base ≤ q) tys ad ks H) (hC : sgC base s) (hA : ∀ q : Nat, A q → base ≤ q) (hS : va_S A s.heap H locs)  (hb : base ≤ s.heap.size) {ta tv : Nat} {tb : List Int32} (hp : P_S ta tv 6 tb A s) (x1 : Int32) (h1 : iv 0 255 x1) (x2 : Int32) (h2 : iv 0 0 x2) (htb : ∀ j : Nat, j < 6 → iv 0 127 (tb.getD j 0)) (hl : Cond.methodLink own index yJ0_indexOf_7cf53 ∈ sg_tbl) (hsize : ls.size = nL) (hst : st0 = [.int x1, .int x2].reverse ++ .ref ta :: rest) (hW : (rest.map fun v => v.category).sum ≤ 8) (hR : 3 ≤ R.frames ∧ 70 ≤ R.locals) (hf : cells ≤ R.cells ∧ slots ≤ R.slots) (hdg : decode cc pc = .ok (.invokevirtual index, 3)) (kk : ∀ (r : Int32) (locs1 : List Loc), (fun r : Int32 => r.toInt = vIx tb x1.toInt 6 0) r → va_S A s.heap H locs1 → W p l e R s m args below meth c H locs1 cells slots Q (F0 m (pc + 3) ls (.int r :: rest))) : W p l e R s m args below meth c H locs cells slots Q (F0 m pc ls st0) :=
  sg_callEVi X hK hG hC hA hS hb hp (m_J0_indexOf_7cf53_v6 l ta tv tb x1 h1 x2 h2 htb) wl_3_78 wl_1_16 wl_3_76 wl_3_77 (n := 2) (by decide +kernel) rfl rfl rfl hl hsize hst hW hR hf hdg kk

set_option maxHeartbeats 8000000 in
set_option maxRecDepth 100000 in
theorem m_J0_indexOf_0f7a4_v6 (l : Launch) {D : va_G} {base : Nat} {tys : List (ClassId × FieldType)} {ad ks : List Nat} {P : sgPm} {Hx : Heap} (ta tv : Nat) (tb : List Int32) (x1 : Int32) (h1 : iv 0 255 x1) (htb : ∀ j : Nat, j < 6 → iv 0 127 (tb.getD j 0)) : sgEi l (KT P) D vwCl base tys ad ks Hx ta tv 6 tb yJ0_indexOf_0f7a4 cJ0_indexOf_0f7a4 2 (some .int) ({ frames := 3, cells := 0, slots := 0, locals := 70 }) [.ref ta, .int x1] (fun r : Int32 => r.toInt = vIx tb x1.toInt 6 0) := by
  refine sg_ofE (Pq := fun Hx => va_Qi (fun r (_ : Unit) => (fun r : Int32 => r.toInt = vIx tb x1.toInt 6 0) r) (fun _ t => t.heap = Hx) (fun _ : Nat => False)) (by decide +kernel) (Nat.le_of_ble_eq_true rfl) (fun p e s m below meth c X hr hlk hb hK hC hG ls hl hp => ?_)
  have hS : va_S (fun _ : Nat => False) s.heap s.heap [] := va_S.rf
  have hl : lv_has ls 2 [(0, .ref ta), (1, .int x1)] := hl
  refine lv_aload_n X.1 X.2.1 dJ0_indexOf_0f7a4_0 rfl (lv_at hl 0 rfl) ?_
  refine lv_iload_n X.1 X.2.1 dJ0_indexOf_0f7a4_1 rfl (lv_at hl 1 rfl) ?_
  refine lv_iconst (v := 0) X.1 X.2.1 dJ0_indexOf_0f7a4_2 (by decide +kernel) ?_
  refine ca_J0_indexOf_7cf53_v6 X hK hG hC (fun _ h => h.elim) hS hb hp x1 h1 0 (iv_c 0 (a := 0) (b := 0) (by decide +kernel)) htb wl_3_75 hl.1 (rest := []) rfl (Nat.le_of_ble_eq_true rfl) ⟨Nat.le_of_ble_eq_true rfl, Nat.le_of_ble_eq_true rfl⟩ ⟨Nat.le_of_ble_eq_true rfl, Nat.le_of_ble_eq_true rfl⟩ dJ0_indexOf_0f7a4_3 (fun f1 locs hf1 hS => ?_)
  have xf1 : f1.toInt = vIx tb (x1.toInt) 6 0 := hf1
  exact sg_iretP X hr hlk hS xf1 dJ0_indexOf_0f7a4_6

theorem ca_J0_indexOf_0f7a4_v6   (X : CallFix p m c cc nL s args sg_tbl own) (hK : va_K D vwCl tys s) (hG : sgG (KT P) D vwCl (fun q : Nat => base ≤ q) tys ad ks H) (hC : sgC base s) (hA : ∀ q : Nat, A q → base ≤ q) (hS : va_S A s.heap H locs)  (hb : base ≤ s.heap.size) {ta tv : Nat} {tb : List Int32} (hp : P_S ta tv 6 tb A s) (x1 : Int32) (h1 : iv 0 255 x1) (htb : ∀ j : Nat, j < 6 → iv 0 127 (tb.getD j 0)) (hl : Cond.methodLink own index yJ0_indexOf_0f7a4 ∈ sg_tbl) (hsize : ls.size = nL) (hst : st0 = [.int x1].reverse ++ .ref ta :: rest) (hW : (rest.map fun v => v.category).sum ≤ 8) (hR : 4 ≤ R.frames ∧ 91 ≤ R.locals) (hf : cells ≤ R.cells ∧ slots ≤ R.slots) (hdg : decode cc pc = .ok (.invokevirtual index, 3)) (kk : ∀ (r : Int32) (locs1 : List Loc), (fun r : Int32 => r.toInt = vIx tb x1.toInt 6 0) r → va_S A s.heap H locs1 → W p l e R s m args below meth c H locs1 cells slots Q (F0 m (pc + 3) ls (.int r :: rest))) : W p l e R s m args below meth c H locs cells slots Q (F0 m pc ls st0) :=
  sg_callEVi X hK hG hC hA hS hb hp (m_J0_indexOf_0f7a4_v6 l ta tv tb x1 h1 htb) wl_3_74 wl_1_16 wl_3_72 wl_3_73 (n := 1) (by decide +kernel) rfl rfl rfl hl hsize hst hW hR hf hdg kk
end
