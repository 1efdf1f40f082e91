
section
variable {p : Program} {l : Launch} {e : Env} {R : Room} {s : State} {m : MethodId} {args : Array Value} {below : List Frame} {meth : Method} {c : Code} {H : Heap} {locs : List Loc} {cells slots : Nat} {Q : State → Prop} {cc : ByteArray} {nL pc : Nat} {ls : Array Slot} {rest : List Value} {own : String} {D : va_G} {A : Nat → Prop} {tys : List (ClassId × FieldType)} {ad ks : List Nat} {P : sgPm} {H0 : Heap} {index : Nat} {base : Nat} {st0 : List Value} {a : Nat}

set_option maxHeartbeats 8000000 in
set_option maxRecDepth 100000 in
theorem m_X12_partOf_f (l : Launch) {D : va_G} {base : Nat} {tys : List (ClassId × FieldType)} {ad ks : List Nat} {P : sgPm} {Hx : Heap} (hp4 : P.2.2.2.2.1 = true) (a0 : Nat) (h0 : isK ad ks 12 a0) (x1 : Int32) (w t n : Int32) (rq nq : Nat) (hwi : iv 1 6 w) (hni : iv 1 30 n) (hrk : isK ad ks 49 rq) (hnk : isK ad ks 54 nq) (hfr : fld D Hx 12 a0 18 (.ref rq)) (hfn : fld D Hx 12 a0 32 (.ref nq)) (hfc : fld D Hx 12 a0 23 (.int n)) (hew : ele Hx rq 0 w) (het : ele Hx nq 0 t) : sgPi l (KT P) D vwCl base tys ad ks Hx yX12_partOf cX12_partOf 6 (some .int) ({ frames := 1, cells := 0, slots := 0, locals := 21 }) [.ref a0, .int x1] (fun r : Int32 => r = pf_of w t n x1) := by
  refine sg_ofPh (Pq := fun Hx => va_Qi (fun r (_ : Unit) => (fun r : Int32 => r = pf_of w t n x1) r) (fun _ t => t.heap = Hx) (fun _ : Nat => False)) (by decide +kernel) (Nat.le_of_ble_eq_true rfl) (fun p e s m below meth c hHx X hr hlk hb hK hC hG ls hl => ?_)
  subst hHx
  have hS : va_S (fun _ : Nat => False) s.heap s.heap [] := va_S.rf
  have hl : lv_has ls 6 [(0, .ref a0), (1, .int x1)] := hl
  refine lv_iconst (v := 1) X.1 X.2.1 dX12_partOf_0 (by decide +kernel) ?_
  refine lv_iload_n X.1 X.2.1 dX12_partOf_1 rfl (lv_at hl 1 rfl) ?_
  refine lv_ishl X.1 X.2.1 dX12_partOf_2 ?_
  refine lv_topi (fun f1 ef1 => ?_)
  refine lv_istore_n (lv' := [(2, .int f1), (0, .ref a0), (1, .int x1)]) X.1 X.2.1 dX12_partOf_3 rfl hl (by decide) rfl (fun ls hl => ?_)
  refine lv_iconst (v := 0) X.1 X.2.1 dX12_partOf_4 (by decide +kernel) ?_
  refine lv_istore_n (lv' := [(3, .int 0), (2, .int f1), (0, .ref a0), (1, .int x1)]) X.1 X.2.1 dX12_partOf_5 rfl hl (by decide) rfl (fun ls hl => ?_)
  have B2_6 : ∀ (N : Nat) (locs : List Loc) (ls : Array Slot) (z2_2 : Int32) (z2_3 : Int32), va_S (fun _ : Nat => False) s.heap s.heap locs → lv_has ls 6 [(0, .ref a0), (2, .int z2_2), (3, .int z2_3)] → iv 0 30 z2_3 → pf_all w t n (n.toInt.toNat - z2_3.toInt.toNat) z2_2 = pf_of w t n x1 → (31 - z2_3.toInt).toNat ≤ N → W p l e (headSpec (Cond.code yX12_partOf cX12_partOf 6 (some .int) :: sg_tbl) ({ frames := 1, cells := 0, slots := 0, locals := 21 })).room s m #[.ref a0, .int x1] below meth c s.heap locs 0 0 (MQ below (va_Qi (fun r (_ : Unit) => (fun r : Int32 => r = pf_of w t n x1) r) (fun _ t => t.heap = s.heap) (fun _ : Nat => False)) #[.ref a0, .int x1] s 0 0 (fun _ : Nat => False)) (F0 m 6 ls []) := by
    intro N; induction N with
    | zero =>
      intro locs ls z2_2 z2_3 hS hl hz2_3 xf2 hN
      exact absurd hN (by have := iv_up hz2_3; omega)
    | succ N ih2 =>
      intro locs ls z2_2 z2_3 hS hl hz2_3 xf2 hN2
      refine lv_iload_n X.1 X.2.1 dX12_partOf_6 rfl (lv_at hl 2 rfl) ?_
      refine lv_aload_n X.1 X.2.1 dX12_partOf_7 rfl (lv_at hl 0 rfl) ?_
      refine gg_X12_23 X hK hG h0 wl_6_201 hfc dX12_partOf_8 ?_
      refine lv_icmp_ge (tgt := 180) X.1 X.2.1 dX12_partOf_11 (by decide) (fun c3 => ?_) (fun c3 => ?_)
      · refine lv_iload_n X.1 X.2.1 dX12_partOf_180 rfl (lv_at hl 1 rfl) ?_
        exact sg_iretP X hr hlk hS (pf_rt xf2 (Int32.le_iff_toInt_le.mp c3)) dX12_partOf_181
      · refine lv_iconst (v := 0) X.1 X.2.1 dX12_partOf_14 (by decide +kernel) ?_
        refine lv_istore (lv' := [(4, .int 0), (0, .ref a0), (2, .int z2_2), (3, .int z2_3)]) X.1 X.2.1 dX12_partOf_15 hl (by decide) rfl (fun ls hl => ?_)
        have B4_17 : ∀ (N : Nat) (locs : List Loc) (ls : Array Slot) (z4_2 : Int32) (z4_4 : Int32), va_S (fun _ : Nat => False) s.heap s.heap locs → lv_has ls 6 [(0, .ref a0), (2, .int z4_2), (3, .int z2_3), (4, .int z4_4)] → iv 0 30 z4_4 → pf_all w t n (n.toInt.toNat - z2_3.toInt.toNat - 1) (pf_row w t n (n.toInt.toNat - z4_4.toInt.toNat) z4_4 z4_2) = pf_of w t n x1 → (31 - z4_4.toInt).toNat ≤ N → W p l e (headSpec (Cond.code yX12_partOf cX12_partOf 6 (some .int) :: sg_tbl) ({ frames := 1, cells := 0, slots := 0, locals := 21 })).room s m #[.ref a0, .int x1] below meth c s.heap locs 0 0 (MQ below (va_Qi (fun r (_ : Unit) => (fun r : Int32 => r = pf_of w t n x1) r) (fun _ t => t.heap = s.heap) (fun _ : Nat => False)) #[.ref a0, .int x1] s 0 0 (fun _ : Nat => False)) (F0 m 17 ls []) := by
          intro N; induction N with
          | zero =>
            intro locs ls z4_2 z4_4 hS hl hz4_4 xf4 hN
            exact absurd hN (by have := iv_up hz4_4; omega)
          | succ N ih4 =>
            intro locs ls z4_2 z4_4 hS hl hz4_4 xf4 hN4
            refine lv_iload X.1 X.2.1 dX12_partOf_17 (lv_at hl 3 rfl) ?_
            refine lv_aload_n X.1 X.2.1 dX12_partOf_19 rfl (lv_at hl 0 rfl) ?_
            refine gg_X12_23 X hK hG h0 wl_6_201 hfc dX12_partOf_20 ?_
            refine lv_icmp_ge (tgt := 174) X.1 X.2.1 dX12_partOf_23 (by decide) (fun c5 => ?_) (fun c5 => ?_)
            · obtain ⟨y6, ey6⟩ : ∃ y : Int32, y = z2_3 + Int32.ofInt 1 := ⟨_, rfl⟩
              refine lv_iinc (v := y6) (lv' := [(3, .int y6), (0, .ref a0), (2, .int z4_2), (4, .int z4_4)]) X.1 X.2.1 dX12_partOf_174 hl (k := 2) rfl ey6.symm (by decide) rfl (fun ls hl => ?_)
              refine lv_goto (tgt := 6) X.1 X.2.1 dX12_partOf_177 (by decide) ?_
              have bq7 : 0 ≤ z2_3.toInt ∧ z2_3.toInt ≤ 29 := (iv_lt (b' := 29) (iv_gt_of c3) hz2_3 hni (by decide +kernel))
              have xy6 : y6.toInt = z2_3.toInt + 1 := sg_inc (k := 1) ey6 (iv_lt (b' := 29) (iv_gt_of c3) hz2_3 hni (by decide +kernel)) (by decide +kernel)
              have hke := Int32.le_iff_toInt_le.mp c5
              exact ih2 _ _ z4_2 y6 hS (lv_sub hl [1, 2, 0] rfl) (iv_of (iv_add (a' := 1) (b' := 30) ey6 (iv_lt (b' := 29) (iv_gt_of c3) hz2_3 hni (by decide +kernel)) (iv_c _ (a := 1) (b := 1) (by decide +kernel)) (by decide +kernel)) (a' := 0) (b' := 30) (by decide +kernel)) (pf_ex xf4 hke (by have := ((iv_lt (b' := 29) (iv_gt_of c3) hz2_3 hni (by decide +kernel))).1; omega) xy6) (iv_stepU ey6 (iv_lt (b' := 29) (iv_gt_of c3) hz2_3 hni (by decide +kernel)) (by decide +kernel) hN2)
            · refine lv_iload_n X.1 X.2.1 dX12_partOf_26 rfl (lv_at hl 1 rfl) ?_
              refine lv_iload X.1 X.2.1 dX12_partOf_27 (lv_at hl 3 rfl) ?_
              refine ca_X12_has_h X hK hG hC (fun _ h => h.elim) hS hb z4_2 z4_4 wl_7_174 hl.1 (rest := []) rfl (Nat.le_of_ble_eq_true rfl) ⟨Nat.le_of_ble_eq_true rfl, Nat.le_of_ble_eq_true rfl⟩ ⟨Nat.le_of_ble_eq_true rfl, Nat.le_of_ble_eq_true rfl⟩ dX12_partOf_29 (fun f8 locs hf8 hS => ?_)
              refine lv_if_ne (tgt := 38) X.1 X.2.1 dX12_partOf_32 (by decide) (fun c9 => ?_) (fun c9 => ?_)
              · have hsq10 : sgHas z4_2 z4_4 := sg_hast hf8.1 hf8.2 c9
                refine lv_iload X.1 X.2.1 dX12_partOf_38 (lv_at hl 3 rfl) ?_
                refine lv_aload_n X.1 X.2.1 dX12_partOf_40 rfl (lv_at hl 0 rfl) ?_
                refine gg_X12_18 X hK hG h0 wl_6_196 hfr dX12_partOf_41 ?_
                refine lv_iconst (v := 0) X.1 X.2.1 dX12_partOf_44 (by decide +kernel) ?_
                refine sg_ialdK X hK hG hrk (k := 49) rfl (iv_vpin (iv_c 0 (a := 0) (b := 0) (by decide +kernel)) (by decide +kernel)) (n0 := 0) (sg_cl (iv_c 0 (a := 0) (b := 0) (by decide +kernel)) (by decide +kernel)) hew dX12_partOf_45 ?_
                refine lv_irem X.1 X.2.1 dX12_partOf_46 (iv_ne0 hwi (by decide +kernel)) ?_
                refine lv_topi (fun f13 ef13 => ?_)
                refine lv_istore (lv' := [(5, .int f13), (0, .ref a0), (2, .int z4_2), (3, .int z2_3), (4, .int z4_4)]) X.1 X.2.1 dX12_partOf_47 hl (by decide) rfl (fun ls hl => ?_)
                refine lv_iload X.1 X.2.1 dX12_partOf_49 (lv_at hl 0 rfl) ?_
                refine lv_if_le (tgt := 70) X.1 X.2.1 dX12_partOf_51 (by decide) (fun c14 => ?_) (fun c14 => ?_)
                · refine lv_iload X.1 X.2.1 dX12_partOf_70 (lv_at hl 0 rfl) ?_
                  refine lv_aload_n X.1 X.2.1 dX12_partOf_72 rfl (lv_at hl 1 rfl) ?_
                  refine gg_X12_18 X hK hG h0 wl_6_196 hfr dX12_partOf_73 ?_
                  refine lv_iconst (v := 0) X.1 X.2.1 dX12_partOf_76 (by decide +kernel) ?_
                  refine sg_ialdK X hK hG hrk (k := 49) rfl (iv_vpin (iv_c 0 (a := 0) (b := 0) (by decide +kernel)) (by decide +kernel)) (n0 := 0) (sg_cl (iv_c 0 (a := 0) (b := 0) (by decide +kernel)) (by decide +kernel)) hew dX12_partOf_77 ?_
                  refine lv_iconst (v := 1) X.1 X.2.1 dX12_partOf_78 (by decide +kernel) ?_
                  refine lv_isub X.1 X.2.1 dX12_partOf_79 ?_
                  refine lv_topi (fun f16 ef16 => ?_)
                  refine lv_icmp_ge (tgt := 99) X.1 X.2.1 dX12_partOf_80 (by decide) (fun c17 => ?_) (fun c17 => ?_)
                  · refine lv_iload X.1 X.2.1 dX12_partOf_99 (lv_at hl 4 rfl) ?_
                    refine lv_aload_n X.1 X.2.1 dX12_partOf_101 rfl (lv_at hl 1 rfl) ?_
                    refine gg_X12_18 X hK hG h0 wl_6_196 hfr dX12_partOf_102 ?_
                    refine lv_iconst (v := 0) X.1 X.2.1 dX12_partOf_105 (by decide +kernel) ?_
                    refine sg_ialdK X hK hG hrk (k := 49) rfl (iv_vpin (iv_c 0 (a := 0) (b := 0) (by decide +kernel)) (by decide +kernel)) (n0 := 0) (sg_cl (iv_c 0 (a := 0) (b := 0) (by decide +kernel)) (by decide +kernel)) hew dX12_partOf_106 ?_
                    refine lv_icmp_lt (tgt := 131) X.1 X.2.1 dX12_partOf_107 (by decide) (fun c19 => ?_) (fun c19 => ?_)
                    · refine lv_iload X.1 X.2.1 dX12_partOf_131 (lv_at hl 4 rfl) ?_
                      refine lv_aload_n X.1 X.2.1 dX12_partOf_133 rfl (lv_at hl 1 rfl) ?_
                      refine gg_X12_18 X hK hG h0 wl_6_196 hfr dX12_partOf_134 ?_
                      refine lv_iconst (v := 0) X.1 X.2.1 dX12_partOf_137 (by decide +kernel) ?_
                      refine sg_ialdK X hK hG hrk (k := 49) rfl (iv_vpin (iv_c 0 (a := 0) (b := 0) (by decide +kernel)) (by decide +kernel)) (n0 := 0) (sg_cl (iv_c 0 (a := 0) (b := 0) (by decide +kernel)) (by decide +kernel)) hew dX12_partOf_138 ?_
                      refine lv_iadd X.1 X.2.1 dX12_partOf_139 ?_
                      refine lv_topi (fun f21 ef21 => ?_)
                      refine lv_aload_n X.1 X.2.1 dX12_partOf_140 rfl (lv_at hl 1 rfl) ?_
                      refine gg_X12_23 X hK hG h0 wl_6_201 hfc dX12_partOf_141 ?_
                      refine lv_icmp_ge (tgt := 168) X.1 X.2.1 dX12_partOf_144 (by decide) (fun c22 => ?_) (fun c22 => ?_)
                      · obtain ⟨y23, ey23⟩ : ∃ y : Int32, y = z4_4 + Int32.ofInt 1 := ⟨_, rfl⟩
                        refine lv_iinc (v := y23) (lv' := [(4, .int y23), (5, .int f13), (0, .ref a0), (2, .int z4_2), (3, .int z2_3)]) X.1 X.2.1 dX12_partOf_168 hl (k := 4) rfl ey23.symm (by decide) rfl (fun ls hl => ?_)
                        refine lv_goto (tgt := 17) X.1 X.2.1 dX12_partOf_171 (by decide) ?_
                        have bq24 : 0 ≤ z4_4.toInt ∧ z4_4.toInt ≤ 5 := (iv_lt (b' := 5) c19 (iv_lt (b' := 29) (iv_gt_of c5) hz4_4 hni (by decide +kernel)) hwi (by decide +kernel))
                        have xy23 : y23.toInt = z4_4.toInt + 1 := sg_inc (k := 1) ey23 (iv_lt (b' := 5) c19 (iv_lt (b' := 29) (iv_gt_of c5) hz4_4 hni (by decide +kernel)) hwi (by decide +kernel)) (by decide +kernel)
                        exact ih4 _ _ z4_2 y23 hS (lv_sub hl [2, 3, 4, 0] rfl) (iv_of (iv_add (a' := 1) (b' := 6) ey23 (iv_lt (b' := 5) c19 (iv_lt (b' := 29) (iv_gt_of c5) hz4_4 hni (by decide +kernel)) hwi (by decide +kernel)) (iv_c _ (a := 1) (b := 1) (by decide +kernel)) (by decide +kernel)) (a' := 0) (b' := 30) (by decide +kernel)) (pf_in xf4 (Int32.lt_iff_toInt_lt.mp (iv_gt_of c5)) (by have := ((iv_lt (b' := 5) c19 (iv_lt (b' := 29) (iv_gt_of c5) hz4_4 hni (by decide +kernel)) hwi (by decide +kernel))).1; omega) ey23 xy23 (pf_mk (b := z4_2) (b1 := z4_2) (b2 := z4_2) (b3 := z4_2) (b4 := z4_2) (by assumption) ef13 ef16 ef21 (Or.inl ⟨c14, rfl⟩) (Or.inl ⟨c17, rfl⟩) (Or.inl ⟨c19, rfl⟩) (Or.inl ⟨c22, rfl⟩))) (iv_stepU ey23 (iv_lt (b' := 5) c19 (iv_lt (b' := 29) (iv_gt_of c5) hz4_4 hni (by decide +kernel)) hwi (by decide +kernel)) (by decide +kernel) hN4)
                      · refine lv_iload_n X.1 X.2.1 dX12_partOf_147 rfl (lv_at hl 2 rfl) ?_
                        refine lv_iconst (v := 1) X.1 X.2.1 dX12_partOf_148 (by decide +kernel) ?_
                        refine lv_iload X.1 X.2.1 dX12_partOf_149 (lv_at hl 4 rfl) ?_
                        refine lv_aload_n X.1 X.2.1 dX12_partOf_151 rfl (lv_at hl 1 rfl) ?_
                        refine gg_X12_18 X hK hG h0 wl_6_196 hfr dX12_partOf_152 ?_
                        refine lv_iconst (v := 0) X.1 X.2.1 dX12_partOf_155 (by decide +kernel) ?_
                        refine sg_ialdK X hK hG hrk (k := 49) rfl (iv_vpin (iv_c 0 (a := 0) (b := 0) (by decide +kernel)) (by decide +kernel)) (n0 := 0) (sg_cl (iv_c 0 (a := 0) (b := 0) (by decide +kernel)) (by decide +kernel)) hew dX12_partOf_156 ?_
                        refine lv_iadd X.1 X.2.1 dX12_partOf_157 ?_
                        refine lv_topi (fun f26 ef26 => ?_)
                        refine lv_ishl X.1 X.2.1 dX12_partOf_158 ?_
                        refine lv_topi (fun f27 ef27 => ?_)
                        refine lv_aload_n X.1 X.2.1 dX12_partOf_159 rfl (lv_at hl 1 rfl) ?_
                        refine gg_X12_32 X hK hG h0 wl_6_210 hfn dX12_partOf_160 ?_
                        refine lv_iconst (v := 0) X.1 X.2.1 dX12_partOf_163 (by decide +kernel) ?_
                        refine sg_ialdK X hK hG hnk (k := 54) rfl (iv_vpin (iv_c 0 (a := 0) (b := 0) (by decide +kernel)) (by decide +kernel)) (n0 := 0) (sg_cl (iv_c 0 (a := 0) (b := 0) (by decide +kernel)) (by decide +kernel)) het dX12_partOf_164 ?_
                        refine lv_iand X.1 X.2.1 dX12_partOf_165 ?_
                        refine lv_topi (fun f29 ef29 => ?_)
                        refine lv_ior X.1 X.2.1 dX12_partOf_166 ?_
                        refine lv_topi (fun f30 ef30 => ?_)
                        refine lv_istore_n (lv' := [(2, .int f30), (5, .int f13), (0, .ref a0), (3, .int z2_3), (4, .int z4_4)]) X.1 X.2.1 dX12_partOf_167 rfl hl (by decide) rfl (fun ls hl => ?_)
                        obtain ⟨y31, ey31⟩ : ∃ y : Int32, y = z4_4 + Int32.ofInt 1 := ⟨_, rfl⟩
                        refine lv_iinc (v := y31) (lv' := [(4, .int y31), (2, .int f30), (5, .int f13), (0, .ref a0), (3, .int z2_3)]) X.1 X.2.1 dX12_partOf_168 hl (k := 4) rfl ey31.symm (by decide) rfl (fun ls hl => ?_)
                        refine lv_goto (tgt := 17) X.1 X.2.1 dX12_partOf_171 (by decide) ?_
                        have bq32 : 0 ≤ z4_4.toInt ∧ z4_4.toInt ≤ 5 := (iv_lt (b' := 5) c19 (iv_lt (b' := 29) (iv_gt_of c5) hz4_4 hni (by decide +kernel)) hwi (by decide +kernel))
                        have xy31 : y31.toInt = z4_4.toInt + 1 := sg_inc (k := 1) ey31 (iv_lt (b' := 5) c19 (iv_lt (b' := 29) (iv_gt_of c5) hz4_4 hni (by decide +kernel)) hwi (by decide +kernel)) (by decide +kernel)
                        exact ih4 _ _ f30 y31 hS (lv_sub hl [3, 1, 4, 0] rfl) (iv_of (iv_add (a' := 1) (b' := 6) ey31 (iv_lt (b' := 5) c19 (iv_lt (b' := 29) (iv_gt_of c5) hz4_4 hni (by decide +kernel)) hwi (by decide +kernel)) (iv_c _ (a := 1) (b := 1) (by decide +kernel)) (by decide +kernel)) (a' := 0) (b' := 30) (by decide +kernel)) (pf_in xf4 (Int32.lt_iff_toInt_lt.mp (iv_gt_of c5)) (by have := ((iv_lt (b' := 5) c19 (iv_lt (b' := 29) (iv_gt_of c5) hz4_4 hni (by decide +kernel)) hwi (by decide +kernel))).1; omega) ey31 xy31 (pf_mk (b := z4_2) (b1 := z4_2) (b2 := z4_2) (b3 := z4_2) (b4 := f30) (by assumption) ef13 ef16 ef21 (Or.inl ⟨c14, rfl⟩) (Or.inl ⟨c17, rfl⟩) (Or.inl ⟨c19, rfl⟩) (Or.inr ⟨(fun hh => absurd (iv_gt_of c22) (iv_nle hh)), by rw [ef30, ef29, ef27, ef26]⟩))) (iv_stepU ey31 (iv_lt (b' := 5) c19 (iv_lt (b' := 29) (iv_gt_of c5) hz4_4 hni (by decide +kernel)) hwi (by decide +kernel)) (by decide +kernel) hN4)
                    · refine lv_iload_n X.1 X.2.1 dX12_partOf_110 rfl (lv_at hl 2 rfl) ?_
                      refine lv_iconst (v := 1) X.1 X.2.1 dX12_partOf_111 (by decide +kernel) ?_
                      refine lv_iload X.1 X.2.1 dX12_partOf_112 (lv_at hl 4 rfl) ?_
                      refine lv_aload_n X.1 X.2.1 dX12_partOf_114 rfl (lv_at hl 1 rfl) ?_
                      refine gg_X12_18 X hK hG h0 wl_6_196 hfr dX12_partOf_115 ?_
                      refine lv_iconst (v := 0) X.1 X.2.1 dX12_partOf_118 (by decide +kernel) ?_
                      refine sg_ialdK X hK hG hrk (k := 49) rfl (iv_vpin (iv_c 0 (a := 0) (b := 0) (by decide +kernel)) (by decide +kernel)) (n0 := 0) (sg_cl (iv_c 0 (a := 0) (b := 0) (by decide +kernel)) (by decide +kernel)) hew dX12_partOf_119 ?_
                      refine lv_isub X.1 X.2.1 dX12_partOf_120 ?_
                      refine lv_topi (fun f34 ef34 => ?_)
                      refine lv_ishl X.1 X.2.1 dX12_partOf_121 ?_
                      refine lv_topi (fun f35 ef35 => ?_)
                      refine lv_aload_n X.1 X.2.1 dX12_partOf_122 rfl (lv_at hl 1 rfl) ?_
                      refine gg_X12_32 X hK hG h0 wl_6_210 hfn dX12_partOf_123 ?_
                      refine lv_iconst (v := 0) X.1 X.2.1 dX12_partOf_126 (by decide +kernel) ?_
                      refine sg_ialdK X hK hG hnk (k := 54) rfl (iv_vpin (iv_c 0 (a := 0) (b := 0) (by decide +kernel)) (by decide +kernel)) (n0 := 0) (sg_cl (iv_c 0 (a := 0) (b := 0) (by decide +kernel)) (by decide +kernel)) het dX12_partOf_127 ?_
                      refine lv_iand X.1 X.2.1 dX12_partOf_128 ?_
                      refine lv_topi (fun f37 ef37 => ?_)
                      refine lv_ior X.1 X.2.1 dX12_partOf_129 ?_
                      refine lv_topi (fun f38 ef38 => ?_)
                      refine lv_istore_n (lv' := [(2, .int f38), (5, .int f13), (0, .ref a0), (3, .int z2_3), (4, .int z4_4)]) X.1 X.2.1 dX12_partOf_130 rfl hl (by decide) rfl (fun ls hl => ?_)
                      refine lv_iload X.1 X.2.1 dX12_partOf_131 (lv_at hl 4 rfl) ?_
                      refine lv_aload_n X.1 X.2.1 dX12_partOf_133 rfl (lv_at hl 2 rfl) ?_
                      refine gg_X12_18 X hK hG h0 wl_6_196 hfr dX12_partOf_134 ?_
                      refine lv_iconst (v := 0) X.1 X.2.1 dX12_partOf_137 (by decide +kernel) ?_
                      refine sg_ialdK X hK hG hrk (k := 49) rfl (iv_vpin (iv_c 0 (a := 0) (b := 0) (by decide +kernel)) (by decide +kernel)) (n0 := 0) (sg_cl (iv_c 0 (a := 0) (b := 0) (by decide +kernel)) (by decide +kernel)) hew dX12_partOf_138 ?_
                      refine lv_iadd X.1 X.2.1 dX12_partOf_139 ?_
                      refine lv_topi (fun f40 ef40 => ?_)
                      refine lv_aload_n X.1 X.2.1 dX12_partOf_140 rfl (lv_at hl 2 rfl) ?_
                      refine gg_X12_23 X hK hG h0 wl_6_201 hfc dX12_partOf_141 ?_
                      refine lv_icmp_ge (tgt := 168) X.1 X.2.1 dX12_partOf_144 (by decide) (fun c41 => ?_) (fun c41 => ?_)
                      · obtain ⟨y42, ey42⟩ : ∃ y : Int32, y = z4_4 + Int32.ofInt 1 := ⟨_, rfl⟩
                        refine lv_iinc (v := y42) (lv' := [(4, .int y42), (2, .int f38), (5, .int f13), (0, .ref a0), (3, .int z2_3)]) X.1 X.2.1 dX12_partOf_168 hl (k := 4) rfl ey42.symm (by decide) rfl (fun ls hl => ?_)
                        refine lv_goto (tgt := 17) X.1 X.2.1 dX12_partOf_171 (by decide) ?_
                        have bq43 : 1 ≤ z4_4.toInt ∧ z4_4.toInt ≤ 29 := (iv_ler (c' := 1) (iv_ge_of c19) hwi (iv_lt (b' := 29) (iv_gt_of c5) hz4_4 hni (by decide +kernel)) (by decide +kernel))
                        have xy42 : y42.toInt = z4_4.toInt + 1 := sg_inc (k := 1) ey42 (iv_ler (c' := 1) (iv_ge_of c19) hwi (iv_lt (b' := 29) (iv_gt_of c5) hz4_4 hni (by decide +kernel)) (by decide +kernel)) (by decide +kernel)
                        exact ih4 _ _ f38 y42 hS (lv_sub hl [3, 1, 4, 0] rfl) (iv_of (iv_add (a' := 2) (b' := 30) ey42 (iv_ler (c' := 1) (iv_ge_of c19) hwi (iv_lt (b' := 29) (iv_gt_of c5) hz4_4 hni (by decide +kernel)) (by decide +kernel)) (iv_c _ (a := 1) (b := 1) (by decide +kernel)) (by decide +kernel)) (a' := 0) (b' := 30) (by decide +kernel)) (pf_in xf4 (Int32.lt_iff_toInt_lt.mp (iv_gt_of c5)) (by have := ((iv_ler (c' := 1) (iv_ge_of c19) hwi (iv_lt (b' := 29) (iv_gt_of c5) hz4_4 hni (by decide +kernel)) (by decide +kernel))).1; omega) ey42 xy42 (pf_mk (b := z4_2) (b1 := z4_2) (b2 := z4_2) (b3 := f38) (b4 := f38) (by assumption) ef13 ef16 ef40 (Or.inl ⟨c14, rfl⟩) (Or.inl ⟨c17, rfl⟩) (Or.inr ⟨(fun hh => absurd (iv_ge_of c19) (iv_nlt hh)), by rw [ef38, ef37, ef35, ef34]⟩) (Or.inl ⟨c41, rfl⟩))) (iv_stepU ey42 (iv_ler (c' := 1) (iv_ge_of c19) hwi (iv_lt (b' := 29) (iv_gt_of c5) hz4_4 hni (by decide +kernel)) (by decide +kernel)) (by decide +kernel) hN4)
                      · refine lv_iload_n X.1 X.2.1 dX12_partOf_147 rfl (lv_at hl 0 rfl) ?_
                        refine lv_iconst (v := 1) X.1 X.2.1 dX12_partOf_148 (by decide +kernel) ?_
                        refine lv_iload X.1 X.2.1 dX12_partOf_149 (lv_at hl 4 rfl) ?_
                        refine lv_aload_n X.1 X.2.1 dX12_partOf_151 rfl (lv_at hl 2 rfl) ?_
                        refine gg_X12_18 X hK hG h0 wl_6_196 hfr dX12_partOf_152 ?_
                        refine lv_iconst (v := 0) X.1 X.2.1 dX12_partOf_155 (by decide +kernel) ?_
                        refine sg_ialdK X hK hG hrk (k := 49) rfl (iv_vpin (iv_c 0 (a := 0) (b := 0) (by decide +kernel)) (by decide +kernel)) (n0 := 0) (sg_cl (iv_c 0 (a := 0) (b := 0) (by decide +kernel)) (by decide +kernel)) hew dX12_partOf_156 ?_
                        refine lv_iadd X.1 X.2.1 dX12_partOf_157 ?_
                        refine lv_topi (fun f45 ef45 => ?_)
                        refine lv_ishl X.1 X.2.1 dX12_partOf_158 ?_
                        refine lv_topi (fun f46 ef46 => ?_)
                        refine lv_aload_n X.1 X.2.1 dX12_partOf_159 rfl (lv_at hl 2 rfl) ?_
                        refine gg_X12_32 X hK hG h0 wl_6_210 hfn dX12_partOf_160 ?_
                        refine lv_iconst (v := 0) X.1 X.2.1 dX12_partOf_163 (by decide +kernel) ?_
                        refine sg_ialdK X hK hG hnk (k := 54) rfl (iv_vpin (iv_c 0 (a := 0) (b := 0) (by decide +kernel)) (by decide +kernel)) (n0 := 0) (sg_cl (iv_c 0 (a := 0) (b := 0) (by decide +kernel)) (by decide +kernel)) het dX12_partOf_164 ?_
                        refine lv_iand X.1 X.2.1 dX12_partOf_165 ?_
                        refine lv_topi (fun f48 ef48 => ?_)
                        refine lv_ior X.1 X.2.1 dX12_partOf_166 ?_
                        refine lv_topi (fun f49 ef49 => ?_)
                        refine lv_istore_n (lv' := [(2, .int f49), (5, .int f13), (0, .ref a0), (3, .int z2_3), (4, .int z4_4)]) X.1 X.2.1 dX12_partOf_167 rfl hl (by decide) rfl (fun ls hl => ?_)
                        obtain ⟨y50, ey50⟩ : ∃ y : Int32, y = z4_4 + Int32.ofInt 1 := ⟨_, rfl⟩
                        refine lv_iinc (v := y50) (lv' := [(4, .int y50), (2, .int f49), (5, .int f13), (0, .ref a0), (3, .int z2_3)]) X.1 X.2.1 dX12_partOf_168 hl (k := 4) rfl ey50.symm (by decide) rfl (fun ls hl => ?_)
                        refine lv_goto (tgt := 17) X.1 X.2.1 dX12_partOf_171 (by decide) ?_
                        have bq51 : 1 ≤ z4_4.toInt ∧ z4_4.toInt ≤ 29 := (iv_ler (c' := 1) (iv_ge_of c19) hwi (iv_lt (b' := 29) (iv_gt_of c5) hz4_4 hni (by decide +kernel)) (by decide +kernel))
                        have xy50 : y50.toInt = z4_4.toInt + 1 := sg_inc (k := 1) ey50 (iv_ler (c' := 1) (iv_ge_of c19) hwi (iv_lt (b' := 29) (iv_gt_of c5) hz4_4 hni (by decide +kernel)) (by decide +kernel)) (by decide +kernel)
                        exact ih4 _ _ f49 y50 hS (lv_sub hl [3, 1, 4, 0] rfl) (iv_of (iv_add (a' := 2) (b' := 30) ey50 (iv_ler (c' := 1) (iv_ge_of c19) hwi (iv_lt (b' := 29) (iv_gt_of c5) hz4_4 hni (by decide +kernel)) (by decide +kernel)) (iv_c _ (a := 1) (b := 1) (by decide +kernel)) (by decide +kernel)) (a' := 0) (b' := 30) (by decide +kernel)) (pf_in xf4 (Int32.lt_iff_toInt_lt.mp (iv_gt_of c5)) (by have := ((iv_ler (c' := 1) (iv_ge_of c19) hwi (iv_lt (b' := 29) (iv_gt_of c5) hz4_4 hni (by decide +kernel)) (by decide +kernel))).1; omega) ey50 xy50 (pf_mk (b := z4_2) (b1 := z4_2) (b2 := z4_2) (b3 := f38) (b4 := f49) (by assumption) ef13 ef16 ef40 (Or.inl ⟨c14, rfl⟩) (Or.inl ⟨c17, rfl⟩) (Or.inr ⟨(fun hh => absurd (iv_ge_of c19) (iv_nlt hh)), by rw [ef38, ef37, ef35, ef34]⟩) (Or.inr ⟨(fun hh => absurd (iv_gt_of c41) (iv_nle hh)), by rw [ef49, ef48, ef46, ef45]⟩))) (iv_stepU ey50 (iv_ler (c' := 1) (iv_ge_of c19) hwi (iv_lt (b' := 29) (iv_gt_of c5) hz4_4 hni (by decide +kernel)) (by decide +kernel)) (by decide +kernel) hN4)
                  · refine lv_iload_n X.1 X.2.1 dX12_partOf_83 rfl (lv_at hl 2 rfl) ?_
                    refine lv_iconst (v := 1) X.1 X.2.1 dX12_partOf_84 (by decide +kernel) ?_
                    refine lv_iload X.1 X.2.1 dX12_partOf_85 (lv_at hl 4 rfl) ?_
                    refine lv_iconst (v := 1) X.1 X.2.1 dX12_partOf_87 (by decide +kernel) ?_
                    refine lv_iadd X.1 X.2.1 dX12_partOf_88 ?_
                    refine lv_topi (fun f52 ef52 => ?_)
                    refine lv_ishl X.1 X.2.1 dX12_partOf_89 ?_
                    refine lv_topi (fun f53 ef53 => ?_)
                    refine lv_aload_n X.1 X.2.1 dX12_partOf_90 rfl (lv_at hl 1 rfl) ?_
                    refine gg_X12_32 X hK hG h0 wl_6_210 hfn dX12_partOf_91 ?_
                    refine lv_iconst (v := 0) X.1 X.2.1 dX12_partOf_94 (by decide +kernel) ?_
                    refine sg_ialdK X hK hG hnk (k := 54) rfl (iv_vpin (iv_c 0 (a := 0) (b := 0) (by decide +kernel)) (by decide +kernel)) (n0 := 0) (sg_cl (iv_c 0 (a := 0) (b := 0) (by decide +kernel)) (by decide +kernel)) het dX12_partOf_95 ?_
                    refine lv_iand X.1 X.2.1 dX12_partOf_96 ?_
                    refine lv_topi (fun f55 ef55 => ?_)
                    refine lv_ior X.1 X.2.1 dX12_partOf_97 ?_
                    refine lv_topi (fun f56 ef56 => ?_)
                    refine lv_istore_n (lv' := [(2, .int f56), (5, .int f13), (0, .ref a0), (3, .int z2_3), (4, .int z4_4)]) X.1 X.2.1 dX12_partOf_98 rfl hl (by decide) rfl (fun ls hl => ?_)
                    refine lv_iload X.1 X.2.1 dX12_partOf_99 (lv_at hl 4 rfl) ?_
                    refine lv_aload_n X.1 X.2.1 dX12_partOf_101 rfl (lv_at hl 2 rfl) ?_
                    refine gg_X12_18 X hK hG h0 wl_6_196 hfr dX12_partOf_102 ?_
                    refine lv_iconst (v := 0) X.1 X.2.1 dX12_partOf_105 (by decide +kernel) ?_
                    refine sg_ialdK X hK hG hrk (k := 49) rfl (iv_vpin (iv_c 0 (a := 0) (b := 0) (by decide +kernel)) (by decide +kernel)) (n0 := 0) (sg_cl (iv_c 0 (a := 0) (b := 0) (by decide +kernel)) (by decide +kernel)) hew dX12_partOf_106 ?_
                    refine lv_icmp_lt (tgt := 131) X.1 X.2.1 dX12_partOf_107 (by decide) (fun c58 => ?_) (fun c58 => ?_)
                    · refine lv_iload X.1 X.2.1 dX12_partOf_131 (lv_at hl 4 rfl) ?_
                      refine lv_aload_n X.1 X.2.1 dX12_partOf_133 rfl (lv_at hl 2 rfl) ?_
                      refine gg_X12_18 X hK hG h0 wl_6_196 hfr dX12_partOf_134 ?_
                      refine lv_iconst (v := 0) X.1 X.2.1 dX12_partOf_137 (by decide +kernel) ?_
                      refine sg_ialdK X hK hG hrk (k := 49) rfl (iv_vpin (iv_c 0 (a := 0) (b := 0) (by decide +kernel)) (by decide +kernel)) (n0 := 0) (sg_cl (iv_c 0 (a := 0) (b := 0) (by decide +kernel)) (by decide +kernel)) hew dX12_partOf_138 ?_
                      refine lv_iadd X.1 X.2.1 dX12_partOf_139 ?_
                      refine lv_topi (fun f60 ef60 => ?_)
                      refine lv_aload_n X.1 X.2.1 dX12_partOf_140 rfl (lv_at hl 2 rfl) ?_
                      refine gg_X12_23 X hK hG h0 wl_6_201 hfc dX12_partOf_141 ?_
                      refine lv_icmp_ge (tgt := 168) X.1 X.2.1 dX12_partOf_144 (by decide) (fun c61 => ?_) (fun c61 => ?_)
                      · obtain ⟨y62, ey62⟩ : ∃ y : Int32, y = z4_4 + Int32.ofInt 1 := ⟨_, rfl⟩
                        refine lv_iinc (v := y62) (lv' := [(4, .int y62), (2, .int f56), (5, .int f13), (0, .ref a0), (3, .int z2_3)]) X.1 X.2.1 dX12_partOf_168 hl (k := 4) rfl ey62.symm (by decide) rfl (fun ls hl => ?_)
                        refine lv_goto (tgt := 17) X.1 X.2.1 dX12_partOf_171 (by decide) ?_
                        have bq63 : 0 ≤ z4_4.toInt ∧ z4_4.toInt ≤ 5 := (iv_lt (b' := 5) c58 (iv_lt (b' := 29) (iv_gt_of c5) hz4_4 hni (by decide +kernel)) hwi (by decide +kernel))
                        have xy62 : y62.toInt = z4_4.toInt + 1 := sg_inc (k := 1) ey62 (iv_lt (b' := 5) c58 (iv_lt (b' := 29) (iv_gt_of c5) hz4_4 hni (by decide +kernel)) hwi (by decide +kernel)) (by decide +kernel)
                        exact ih4 _ _ f56 y62 hS (lv_sub hl [3, 1, 4, 0] rfl) (iv_of (iv_add (a' := 1) (b' := 6) ey62 (iv_lt (b' := 5) c58 (iv_lt (b' := 29) (iv_gt_of c5) hz4_4 hni (by decide +kernel)) hwi (by decide +kernel)) (iv_c _ (a := 1) (b := 1) (by decide +kernel)) (by decide +kernel)) (a' := 0) (b' := 30) (by decide +kernel)) (pf_in xf4 (Int32.lt_iff_toInt_lt.mp (iv_gt_of c5)) (by have := ((iv_lt (b' := 5) c58 (iv_lt (b' := 29) (iv_gt_of c5) hz4_4 hni (by decide +kernel)) hwi (by decide +kernel))).1; omega) ey62 xy62 (pf_mk (b := z4_2) (b1 := z4_2) (b2 := f56) (b3 := f56) (b4 := f56) (by assumption) ef13 ef16 ef60 (Or.inl ⟨c14, rfl⟩) (Or.inr ⟨(fun hh => absurd (iv_gt_of c17) (iv_nle hh)), by rw [ef56, ef55, ef53, ef52]⟩) (Or.inl ⟨c58, rfl⟩) (Or.inl ⟨c61, rfl⟩))) (iv_stepU ey62 (iv_lt (b' := 5) c58 (iv_lt (b' := 29) (iv_gt_of c5) hz4_4 hni (by decide +kernel)) hwi (by decide +kernel)) (by decide +kernel) hN4)
                      · refine lv_iload_n X.1 X.2.1 dX12_partOf_147 rfl (lv_at hl 0 rfl) ?_
                        refine lv_iconst (v := 1) X.1 X.2.1 dX12_partOf_148 (by decide +kernel) ?_
                        refine lv_iload X.1 X.2.1 dX12_partOf_149 (lv_at hl 4 rfl) ?_
                        refine lv_aload_n X.1 X.2.1 dX12_partOf_151 rfl (lv_at hl 2 rfl) ?_
                        refine gg_X12_18 X hK hG h0 wl_6_196 hfr dX12_partOf_152 ?_
                        refine lv_iconst (v := 0) X.1 X.2.1 dX12_partOf_155 (by decide +kernel) ?_
                        refine sg_ialdK X hK hG hrk (k := 49) rfl (iv_vpin (iv_c 0 (a := 0) (b := 0) (by decide +kernel)) (by decide +kernel)) (n0 := 0) (sg_cl (iv_c 0 (a := 0) (b := 0) (by decide +kernel)) (by decide +kernel)) hew dX12_partOf_156 ?_
                        refine lv_iadd X.1 X.2.1 dX12_partOf_157 ?_
                        refine lv_topi (fun f65 ef65 => ?_)
                        refine lv_ishl X.1 X.2.1 dX12_partOf_158 ?_
                        refine lv_topi (fun f66 ef66 => ?_)
                        refine lv_aload_n X.1 X.2.1 dX12_partOf_159 rfl (lv_at hl 2 rfl) ?_
                        refine gg_X12_32 X hK hG h0 wl_6_210 hfn dX12_partOf_160 ?_
                        refine lv_iconst (v := 0) X.1 X.2.1 dX12_partOf_163 (by decide +kernel) ?_
                        refine sg_ialdK X hK hG hnk (k := 54) rfl (iv_vpin (iv_c 0 (a := 0) (b := 0) (by decide +kernel)) (by decide +kernel)) (n0 := 0) (sg_cl (iv_c 0 (a := 0) (b := 0) (by decide +kernel)) (by decide +kernel)) het dX12_partOf_164 ?_
                        refine lv_iand X.1 X.2.1 dX12_partOf_165 ?_
                        refine lv_topi (fun f68 ef68 => ?_)
                        refine lv_ior X.1 X.2.1 dX12_partOf_166 ?_
                        refine lv_topi (fun f69 ef69 => ?_)
                        refine lv_istore_n (lv' := [(2, .int f69), (5, .int f13), (0, .ref a0), (3, .int z2_3), (4, .int z4_4)]) X.1 X.2.1 dX12_partOf_167 rfl hl (by decide) rfl (fun ls hl => ?_)
                        obtain ⟨y70, ey70⟩ : ∃ y : Int32, y = z4_4 + Int32.ofInt 1 := ⟨_, rfl⟩
                        refine lv_iinc (v := y70) (lv' := [(4, .int y70), (2, .int f69), (5, .int f13), (0, .ref a0), (3, .int z2_3)]) X.1 X.2.1 dX12_partOf_168 hl (k := 4) rfl ey70.symm (by decide) rfl (fun ls hl => ?_)
                        refine lv_goto (tgt := 17) X.1 X.2.1 dX12_partOf_171 (by decide) ?_
                        have bq71 : 0 ≤ z4_4.toInt ∧ z4_4.toInt ≤ 5 := (iv_lt (b' := 5) c58 (iv_lt (b' := 29) (iv_gt_of c5) hz4_4 hni (by decide +kernel)) hwi (by decide +kernel))
                        have xy70 : y70.toInt = z4_4.toInt + 1 := sg_inc (k := 1) ey70 (iv_lt (b' := 5) c58 (iv_lt (b' := 29) (iv_gt_of c5) hz4_4 hni (by decide +kernel)) hwi (by decide +kernel)) (by decide +kernel)
                        exact ih4 _ _ f69 y70 hS (lv_sub hl [3, 1, 4, 0] rfl) (iv_of (iv_add (a' := 1) (b' := 6) ey70 (iv_lt (b' := 5) c58 (iv_lt (b' := 29) (iv_gt_of c5) hz4_4 hni (by decide +kernel)) hwi (by decide +kernel)) (iv_c _ (a := 1) (b := 1) (by decide +kernel)) (by decide +kernel)) (a' := 0) (b' := 30) (by decide +kernel)) (pf_in xf4 (Int32.lt_iff_toInt_lt.mp (iv_gt_of c5)) (by have := ((iv_lt (b' := 5) c58 (iv_lt (b' := 29) (iv_gt_of c5) hz4_4 hni (by decide +kernel)) hwi (by decide +kernel))).1; omega) ey70 xy70 (pf_mk (b := z4_2) (b1 := z4_2) (b2 := f56) (b3 := f56) (b4 := f69) (by assumption) ef13 ef16 ef60 (Or.inl ⟨c14, rfl⟩) (Or.inr ⟨(fun hh => absurd (iv_gt_of c17) (iv_nle hh)), by rw [ef56, ef55, ef53, ef52]⟩) (Or.inl ⟨c58, rfl⟩) (Or.inr ⟨(fun hh => absurd (iv_gt_of c61) (iv_nle hh)), by rw [ef69, ef68, ef66, ef65]⟩))) (iv_stepU ey70 (iv_lt (b' := 5) c58 (iv_lt (b' := 29) (iv_gt_of c5) hz4_4 hni (by decide +kernel)) hwi (by decide +kernel)) (by decide +kernel) hN4)
                    · refine lv_iload_n X.1 X.2.1 dX12_partOf_110 rfl (lv_at hl 0 rfl) ?_
                      refine lv_iconst (v := 1) X.1 X.2.1 dX12_partOf_111 (by decide +kernel) ?_
                      refine lv_iload X.1 X.2.1 dX12_partOf_112 (lv_at hl 4 rfl) ?_
                      refine lv_aload_n X.1 X.2.1 dX12_partOf_114 rfl (lv_at hl 2 rfl) ?_
                      refine gg_X12_18 X hK hG h0 wl_6_196 hfr dX12_partOf_115 ?_
                      refine lv_iconst (v := 0) X.1 X.2.1 dX12_partOf_118 (by decide +kernel) ?_
                      refine sg_ialdK X hK hG hrk (k := 49) rfl (iv_vpin (iv_c 0 (a := 0) (b := 0) (by decide +kernel)) (by decide +kernel)) (n0 := 0) (sg_cl (iv_c 0 (a := 0) (b := 0) (by decide +kernel)) (by decide +kernel)) hew dX12_partOf_119 ?_
                      refine lv_isub X.1 X.2.1 dX12_partOf_120 ?_
                      refine lv_topi (fun f73 ef73 => ?_)
                      refine lv_ishl X.1 X.2.1 dX12_partOf_121 ?_
                      refine lv_topi (fun f74 ef74 => ?_)
                      refine lv_aload_n X.1 X.2.1 dX12_partOf_122 rfl (lv_at hl 2 rfl) ?_
                      refine gg_X12_32 X hK hG h0 wl_6_210 hfn dX12_partOf_123 ?_
                      refine lv_iconst (v := 0) X.1 X.2.1 dX12_partOf_126 (by decide +kernel) ?_
                      refine sg_ialdK X hK hG hnk (k := 54) rfl (iv_vpin (iv_c 0 (a := 0) (b := 0) (by decide +kernel)) (by decide +kernel)) (n0 := 0) (sg_cl (iv_c 0 (a := 0) (b := 0) (by decide +kernel)) (by decide +kernel)) het dX12_partOf_127 ?_
                      refine lv_iand X.1 X.2.1 dX12_partOf_128 ?_
                      refine lv_topi (fun f76 ef76 => ?_)
                      refine lv_ior X.1 X.2.1 dX12_partOf_129 ?_
                      refine lv_topi (fun f77 ef77 => ?_)
                      refine lv_istore_n (lv' := [(2, .int f77), (5, .int f13), (0, .ref a0), (3, .int z2_3), (4, .int z4_4)]) X.1 X.2.1 dX12_partOf_130 rfl hl (by decide) rfl (fun ls hl => ?_)
                      refine lv_iload X.1 X.2.1 dX12_partOf_131 (lv_at hl 4 rfl) ?_
                      refine lv_aload_n X.1 X.2.1 dX12_partOf_133 rfl (lv_at hl 2 rfl) ?_
                      refine gg_X12_18 X hK hG h0 wl_6_196 hfr dX12_partOf_134 ?_
                      refine lv_iconst (v := 0) X.1 X.2.1 dX12_partOf_137 (by decide +kernel) ?_
                      refine sg_ialdK X hK hG hrk (k := 49) rfl (iv_vpin (iv_c 0 (a := 0) (b := 0) (by decide +kernel)) (by decide +kernel)) (n0 := 0) (sg_cl (iv_c 0 (a := 0) (b := 0) (by decide +kernel)) (by decide +kernel)) hew dX12_partOf_138 ?_
                      refine lv_iadd X.1 X.2.1 dX12_partOf_139 ?_
                      refine lv_topi (fun f79 ef79 => ?_)
                      refine lv_aload_n X.1 X.2.1 dX12_partOf_140 rfl (lv_at hl 2 rfl) ?_
                      refine gg_X12_23 X hK hG h0 wl_6_201 hfc dX12_partOf_141 ?_
                      refine lv_icmp_ge (tgt := 168) X.1 X.2.1 dX12_partOf_144 (by decide) (fun c80 => ?_) (fun c80 => ?_)
                      · obtain ⟨y81, ey81⟩ : ∃ y : Int32, y = z4_4 + Int32.ofInt 1 := ⟨_, rfl⟩
                        refine lv_iinc (v := y81) (lv' := [(4, .int y81), (2, .int f77), (5, .int f13), (0, .ref a0), (3, .int z2_3)]) X.1 X.2.1 dX12_partOf_168 hl (k := 4) rfl ey81.symm (by decide) rfl (fun ls hl => ?_)
                        refine lv_goto (tgt := 17) X.1 X.2.1 dX12_partOf_171 (by decide) ?_
                        have bq82 : 1 ≤ z4_4.toInt ∧ z4_4.toInt ≤ 29 := (iv_ler (c' := 1) (iv_ge_of c58) hwi (iv_lt (b' := 29) (iv_gt_of c5) hz4_4 hni (by decide +kernel)) (by decide +kernel))
                        have xy81 : y81.toInt = z4_4.toInt + 1 := sg_inc (k := 1) ey81 (iv_ler (c' := 1) (iv_ge_of c58) hwi (iv_lt (b' := 29) (iv_gt_of c5) hz4_4 hni (by decide +kernel)) (by decide +kernel)) (by decide +kernel)
                        exact ih4 _ _ f77 y81 hS (lv_sub hl [3, 1, 4, 0] rfl) (iv_of (iv_add (a' := 2) (b' := 30) ey81 (iv_ler (c' := 1) (iv_ge_of c58) hwi (iv_lt (b' := 29) (iv_gt_of c5) hz4_4 hni (by decide +kernel)) (by decide +kernel)) (iv_c _ (a := 1) (b := 1) (by decide +kernel)) (by decide +kernel)) (a' := 0) (b' := 30) (by decide +kernel)) (pf_in xf4 (Int32.lt_iff_toInt_lt.mp (iv_gt_of c5)) (by have := ((iv_ler (c' := 1) (iv_ge_of c58) hwi (iv_lt (b' := 29) (iv_gt_of c5) hz4_4 hni (by decide +kernel)) (by decide +kernel))).1; omega) ey81 xy81 (pf_mk (b := z4_2) (b1 := z4_2) (b2 := f56) (b3 := f77) (b4 := f77) (by assumption) ef13 ef16 ef79 (Or.inl ⟨c14, rfl⟩) (Or.inr ⟨(fun hh => absurd (iv_gt_of c17) (iv_nle hh)), by rw [ef56, ef55, ef53, ef52]⟩) (Or.inr ⟨(fun hh => absurd (iv_ge_of c58) (iv_nlt hh)), by rw [ef77, ef76, ef74, ef73]⟩) (Or.inl ⟨c80, rfl⟩))) (iv_stepU ey81 (iv_ler (c' := 1) (iv_ge_of c58) hwi (iv_lt (b' := 29) (iv_gt_of c5) hz4_4 hni (by decide +kernel)) (by decide +kernel)) (by decide +kernel) hN4)
                      · refine lv_iload_n X.1 X.2.1 dX12_partOf_147 rfl (lv_at hl 0 rfl) ?_
                        refine lv_iconst (v := 1) X.1 X.2.1 dX12_partOf_148 (by decide +kernel) ?_
                        refine lv_iload X.1 X.2.1 dX12_partOf_149 (lv_at hl 4 rfl) ?_
                        refine lv_aload_n X.1 X.2.1 dX12_partOf_151 rfl (lv_at hl 2 rfl) ?_
                        refine gg_X12_18 X hK hG h0 wl_6_196 hfr dX12_partOf_152 ?_
                        refine lv_iconst (v := 0) X.1 X.2.1 dX12_partOf_155 (by decide +kernel) ?_
                        refine sg_ialdK X hK hG hrk (k := 49) rfl (iv_vpin (iv_c 0 (a := 0) (b := 0) (by decide +kernel)) (by decide +kernel)) (n0 := 0) (sg_cl (iv_c 0 (a := 0) (b := 0) (by decide +kernel)) (by decide +kernel)) hew dX12_partOf_156 ?_
                        refine lv_iadd X.1 X.2.1 dX12_partOf_157 ?_
                        refine lv_topi (fun f84 ef84 => ?_)
                        refine lv_ishl X.1 X.2.1 dX12_partOf_158 ?_
                        refine lv_topi (fun f85 ef85 => ?_)
                        refine lv_aload_n X.1 X.2.1 dX12_partOf_159 rfl (lv_at hl 2 rfl) ?_
                        refine gg_X12_32 X hK hG h0 wl_6_210 hfn dX12_partOf_160 ?_
                        refine lv_iconst (v := 0) X.1 X.2.1 dX12_partOf_163 (by decide +kernel) ?_
                        refine sg_ialdK X hK hG hnk (k := 54) rfl (iv_vpin (iv_c 0 (a := 0) (b := 0) (by decide +kernel)) (by decide +kernel)) (n0 := 0) (sg_cl (iv_c 0 (a := 0) (b := 0) (by decide +kernel)) (by decide +kernel)) het dX12_partOf_164 ?_
                        refine lv_iand X.1 X.2.1 dX12_partOf_165 ?_
                        refine lv_topi (fun f87 ef87 => ?_)
                        refine lv_ior X.1 X.2.1 dX12_partOf_166 ?_
                        refine lv_topi (fun f88 ef88 => ?_)
                        refine lv_istore_n (lv' := [(2, .int f88), (5, .int f13), (0, .ref a0), (3, .int z2_3), (4, .int z4_4)]) X.1 X.2.1 dX12_partOf_167 rfl hl (by decide) rfl (fun ls hl => ?_)
                        obtain ⟨y89, ey89⟩ : ∃ y : Int32, y = z4_4 + Int32.ofInt 1 := ⟨_, rfl⟩
                        refine lv_iinc (v := y89) (lv' := [(4, .int y89), (2, .int f88), (5, .int f13), (0, .ref a0), (3, .int z2_3)]) X.1 X.2.1 dX12_partOf_168 hl (k := 4) rfl ey89.symm (by decide) rfl (fun ls hl => ?_)
                        refine lv_goto (tgt := 17) X.1 X.2.1 dX12_partOf_171 (by decide) ?_
                        have bq90 : 1 ≤ z4_4.toInt ∧ z4_4.toInt ≤ 29 := (iv_ler (c' := 1) (iv_ge_of c58) hwi (iv_lt (b' := 29) (iv_gt_of c5) hz4_4 hni (by decide +kernel)) (by decide +kernel))
                        have xy89 : y89.toInt = z4_4.toInt + 1 := sg_inc (k := 1) ey89 (iv_ler (c' := 1) (iv_ge_of c58) hwi (iv_lt (b' := 29) (iv_gt_of c5) hz4_4 hni (by decide +kernel)) (by decide +kernel)) (by decide +kernel)
                        exact ih4 _ _ f88 y89 hS (lv_sub hl [3, 1, 4, 0] rfl) (iv_of (iv_add (a' := 2) (b' := 30) ey89 (iv_ler (c' := 1) (iv_ge_of c58) hwi (iv_lt (b' := 29) (iv_gt_of c5) hz4_4 hni (by decide +kernel)) (by decide +kernel)) (iv_c _ (a := 1) (b := 1) (by decide +kernel)) (by decide +kernel)) (a' := 0) (b' := 30) (by decide +kernel)) (pf_in xf4 (Int32.lt_iff_toInt_lt.mp (iv_gt_of c5)) (by have := ((iv_ler (c' := 1) (iv_ge_of c58) hwi (iv_lt (b' := 29) (iv_gt_of c5) hz4_4 hni (by decide +kernel)) (by decide +kernel))).1; omega) ey89 xy89 (pf_mk (b := z4_2) (b1 := z4_2) (b2 := f56) (b3 := f77) (b4 := f88) (by assumption) ef13 ef16 ef79 (Or.inl ⟨c14, rfl⟩) (Or.inr ⟨(fun hh => absurd (iv_gt_of c17) (iv_nle hh)), by rw [ef56, ef55, ef53, ef52]⟩) (Or.inr ⟨(fun hh => absurd (iv_ge_of c58) (iv_nlt hh)), by rw [ef77, ef76, ef74, ef73]⟩) (Or.inr ⟨(fun hh => absurd (iv_gt_of c80) (iv_nle hh)), by rw [ef88, ef87, ef85, ef84]⟩))) (iv_stepU ey89 (iv_ler (c' := 1) (iv_ge_of c58) hwi (iv_lt (b' := 29) (iv_gt_of c5) hz4_4 hni (by decide +kernel)) (by decide +kernel)) (by decide +kernel) hN4)
                · refine lv_iload_n X.1 X.2.1 dX12_partOf_54 rfl (lv_at hl 2 rfl) ?_
                  refine lv_iconst (v := 1) X.1 X.2.1 dX12_partOf_55 (by decide +kernel) ?_
                  refine lv_iload X.1 X.2.1 dX12_partOf_56 (lv_at hl 4 rfl) ?_
                  refine lv_iconst (v := 1) X.1 X.2.1 dX12_partOf_58 (by decide +kernel) ?_
                  refine lv_isub X.1 X.2.1 dX12_partOf_59 ?_
                  refine lv_topi (fun f91 ef91 => ?_)
                  refine lv_ishl X.1 X.2.1 dX12_partOf_60 ?_
                  refine lv_topi (fun f92 ef92 => ?_)
                  refine lv_aload_n X.1 X.2.1 dX12_partOf_61 rfl (lv_at hl 1 rfl) ?_
                  refine gg_X12_32 X hK hG h0 wl_6_210 hfn dX12_partOf_62 ?_
                  refine lv_iconst (v := 0) X.1 X.2.1 dX12_partOf_65 (by decide +kernel) ?_
                  refine sg_ialdK X hK hG hnk (k := 54) rfl (iv_vpin (iv_c 0 (a := 0) (b := 0) (by decide +kernel)) (by decide +kernel)) (n0 := 0) (sg_cl (iv_c 0 (a := 0) (b := 0) (by decide +kernel)) (by decide +kernel)) het dX12_partOf_66 ?_
                  refine lv_iand X.1 X.2.1 dX12_partOf_67 ?_
                  refine lv_topi (fun f94 ef94 => ?_)
                  refine lv_ior X.1 X.2.1 dX12_partOf_68 ?_
                  refine lv_topi (fun f95 ef95 => ?_)
                  refine lv_istore_n (lv' := [(2, .int f95), (5, .int f13), (0, .ref a0), (3, .int z2_3), (4, .int z4_4)]) X.1 X.2.1 dX12_partOf_69 rfl hl (by decide) rfl (fun ls hl => ?_)
                  refine lv_iload X.1 X.2.1 dX12_partOf_70 (lv_at hl 1 rfl) ?_
                  refine lv_aload_n X.1 X.2.1 dX12_partOf_72 rfl (lv_at hl 2 rfl) ?_
                  refine gg_X12_18 X hK hG h0 wl_6_196 hfr dX12_partOf_73 ?_
                  refine lv_iconst (v := 0) X.1 X.2.1 dX12_partOf_76 (by decide +kernel) ?_
                  refine sg_ialdK X hK hG hrk (k := 49) rfl (iv_vpin (iv_c 0 (a := 0) (b := 0) (by decide +kernel)) (by decide +kernel)) (n0 := 0) (sg_cl (iv_c 0 (a := 0) (b := 0) (by decide +kernel)) (by decide +kernel)) hew dX12_partOf_77 ?_
                  refine lv_iconst (v := 1) X.1 X.2.1 dX12_partOf_78 (by decide +kernel) ?_
                  refine lv_isub X.1 X.2.1 dX12_partOf_79 ?_
                  refine lv_topi (fun f97 ef97 => ?_)
                  refine lv_icmp_ge (tgt := 99) X.1 X.2.1 dX12_partOf_80 (by decide) (fun c98 => ?_) (fun c98 => ?_)
                  · refine lv_iload X.1 X.2.1 dX12_partOf_99 (lv_at hl 4 rfl) ?_
                    refine lv_aload_n X.1 X.2.1 dX12_partOf_101 rfl (lv_at hl 2 rfl) ?_
                    refine gg_X12_18 X hK hG h0 wl_6_196 hfr dX12_partOf_102 ?_
                    refine lv_iconst (v := 0) X.1 X.2.1 dX12_partOf_105 (by decide +kernel) ?_
                    refine sg_ialdK X hK hG hrk (k := 49) rfl (iv_vpin (iv_c 0 (a := 0) (b := 0) (by decide +kernel)) (by decide +kernel)) (n0 := 0) (sg_cl (iv_c 0 (a := 0) (b := 0) (by decide +kernel)) (by decide +kernel)) hew dX12_partOf_106 ?_
                    refine lv_icmp_lt (tgt := 131) X.1 X.2.1 dX12_partOf_107 (by decide) (fun c100 => ?_) (fun c100 => ?_)
                    · refine lv_iload X.1 X.2.1 dX12_partOf_131 (lv_at hl 4 rfl) ?_
                      refine lv_aload_n X.1 X.2.1 dX12_partOf_133 rfl (lv_at hl 2 rfl) ?_
                      refine gg_X12_18 X hK hG h0 wl_6_196 hfr dX12_partOf_134 ?_
                      refine lv_iconst (v := 0) X.1 X.2.1 dX12_partOf_137 (by decide +kernel) ?_
                      refine sg_ialdK X hK hG hrk (k := 49) rfl (iv_vpin (iv_c 0 (a := 0) (b := 0) (by decide +kernel)) (by decide +kernel)) (n0 := 0) (sg_cl (iv_c 0 (a := 0) (b := 0) (by decide +kernel)) (by decide +kernel)) hew dX12_partOf_138 ?_
                      refine lv_iadd X.1 X.2.1 dX12_partOf_139 ?_
                      refine lv_topi (fun f102 ef102 => ?_)
                      refine lv_aload_n X.1 X.2.1 dX12_partOf_140 rfl (lv_at hl 2 rfl) ?_
                      refine gg_X12_23 X hK hG h0 wl_6_201 hfc dX12_partOf_141 ?_
                      refine lv_icmp_ge (tgt := 168) X.1 X.2.1 dX12_partOf_144 (by decide) (fun c103 => ?_) (fun c103 => ?_)
                      · obtain ⟨y104, ey104⟩ : ∃ y : Int32, y = z4_4 + Int32.ofInt 1 := ⟨_, rfl⟩
                        refine lv_iinc (v := y104) (lv' := [(4, .int y104), (2, .int f95), (5, .int f13), (0, .ref a0), (3, .int z2_3)]) X.1 X.2.1 dX12_partOf_168 hl (k := 4) rfl ey104.symm (by decide) rfl (fun ls hl => ?_)
                        refine lv_goto (tgt := 17) X.1 X.2.1 dX12_partOf_171 (by decide) ?_
                        have bq105 : 0 ≤ z4_4.toInt ∧ z4_4.toInt ≤ 5 := (iv_lt (b' := 5) c100 (iv_lt (b' := 29) (iv_gt_of c5) hz4_4 hni (by decide +kernel)) hwi (by decide +kernel))
                        have xy104 : y104.toInt = z4_4.toInt + 1 := sg_inc (k := 1) ey104 (iv_lt (b' := 5) c100 (iv_lt (b' := 29) (iv_gt_of c5) hz4_4 hni (by decide +kernel)) hwi (by decide +kernel)) (by decide +kernel)
                        exact ih4 _ _ f95 y104 hS (lv_sub hl [3, 1, 4, 0] rfl) (iv_of (iv_add (a' := 1) (b' := 6) ey104 (iv_lt (b' := 5) c100 (iv_lt (b' := 29) (iv_gt_of c5) hz4_4 hni (by decide +kernel)) hwi (by decide +kernel)) (iv_c _ (a := 1) (b := 1) (by decide +kernel)) (by decide +kernel)) (a' := 0) (b' := 30) (by decide +kernel)) (pf_in xf4 (Int32.lt_iff_toInt_lt.mp (iv_gt_of c5)) (by have := ((iv_lt (b' := 5) c100 (iv_lt (b' := 29) (iv_gt_of c5) hz4_4 hni (by decide +kernel)) hwi (by decide +kernel))).1; omega) ey104 xy104 (pf_mk (b := z4_2) (b1 := f95) (b2 := f95) (b3 := f95) (b4 := f95) (by assumption) ef13 ef97 ef102 (Or.inr ⟨(fun hh => absurd (iv_gt_of c14) (iv_nle hh)), by rw [ef95, ef94, ef92, ef91]⟩) (Or.inl ⟨c98, rfl⟩) (Or.inl ⟨c100, rfl⟩) (Or.inl ⟨c103, rfl⟩))) (iv_stepU ey104 (iv_lt (b' := 5) c100 (iv_lt (b' := 29) (iv_gt_of c5) hz4_4 hni (by decide +kernel)) hwi (by decide +kernel)) (by decide +kernel) hN4)
                      · refine lv_iload_n X.1 X.2.1 dX12_partOf_147 rfl (lv_at hl 0 rfl) ?_
                        refine lv_iconst (v := 1) X.1 X.2.1 dX12_partOf_148 (by decide +kernel) ?_
                        refine lv_iload X.1 X.2.1 dX12_partOf_149 (lv_at hl 4 rfl) ?_
                        refine lv_aload_n X.1 X.2.1 dX12_partOf_151 rfl (lv_at hl 2 rfl) ?_
                        refine gg_X12_18 X hK hG h0 wl_6_196 hfr dX12_partOf_152 ?_
                        refine lv_iconst (v := 0) X.1 X.2.1 dX12_partOf_155 (by decide +kernel) ?_
                        refine sg_ialdK X hK hG hrk (k := 49) rfl (iv_vpin (iv_c 0 (a := 0) (b := 0) (by decide +kernel)) (by decide +kernel)) (n0 := 0) (sg_cl (iv_c 0 (a := 0) (b := 0) (by decide +kernel)) (by decide +kernel)) hew dX12_partOf_156 ?_
                        refine lv_iadd X.1 X.2.1 dX12_partOf_157 ?_
                        refine lv_topi (fun f107 ef107 => ?_)
                        refine lv_ishl X.1 X.2.1 dX12_partOf_158 ?_
                        refine lv_topi (fun f108 ef108 => ?_)
                        refine lv_aload_n X.1 X.2.1 dX12_partOf_159 rfl (lv_at hl 2 rfl) ?_
                        refine gg_X12_32 X hK hG h0 wl_6_210 hfn dX12_partOf_160 ?_
                        refine lv_iconst (v := 0) X.1 X.2.1 dX12_partOf_163 (by decide +kernel) ?_
                        refine sg_ialdK X hK hG hnk (k := 54) rfl (iv_vpin (iv_c 0 (a := 0) (b := 0) (by decide +kernel)) (by decide +kernel)) (n0 := 0) (sg_cl (iv_c 0 (a := 0) (b := 0) (by decide +kernel)) (by decide +kernel)) het dX12_partOf_164 ?_
                        refine lv_iand X.1 X.2.1 dX12_partOf_165 ?_
                        refine lv_topi (fun f110 ef110 => ?_)
                        refine lv_ior X.1 X.2.1 dX12_partOf_166 ?_
                        refine lv_topi (fun f111 ef111 => ?_)
                        refine lv_istore_n (lv' := [(2, .int f111), (5, .int f13), (0, .ref a0), (3, .int z2_3), (4, .int z4_4)]) X.1 X.2.1 dX12_partOf_167 rfl hl (by decide) rfl (fun ls hl => ?_)
                        obtain ⟨y112, ey112⟩ : ∃ y : Int32, y = z4_4 + Int32.ofInt 1 := ⟨_, rfl⟩
                        refine lv_iinc (v := y112) (lv' := [(4, .int y112), (2, .int f111), (5, .int f13), (0, .ref a0), (3, .int z2_3)]) X.1 X.2.1 dX12_partOf_168 hl (k := 4) rfl ey112.symm (by decide) rfl (fun ls hl => ?_)
                        refine lv_goto (tgt := 17) X.1 X.2.1 dX12_partOf_171 (by decide) ?_
                        have bq113 : 0 ≤ z4_4.toInt ∧ z4_4.toInt ≤ 5 := (iv_lt (b' := 5) c100 (iv_lt (b' := 29) (iv_gt_of c5) hz4_4 hni (by decide +kernel)) hwi (by decide +kernel))
                        have xy112 : y112.toInt = z4_4.toInt + 1 := sg_inc (k := 1) ey112 (iv_lt (b' := 5) c100 (iv_lt (b' := 29) (iv_gt_of c5) hz4_4 hni (by decide +kernel)) hwi (by decide +kernel)) (by decide +kernel)
                        exact ih4 _ _ f111 y112 hS (lv_sub hl [3, 1, 4, 0] rfl) (iv_of (iv_add (a' := 1) (b' := 6) ey112 (iv_lt (b' := 5) c100 (iv_lt (b' := 29) (iv_gt_of c5) hz4_4 hni (by decide +kernel)) hwi (by decide +kernel)) (iv_c _ (a := 1) (b := 1) (by decide +kernel)) (by decide +kernel)) (a' := 0) (b' := 30) (by decide +kernel)) (pf_in xf4 (Int32.lt_iff_toInt_lt.mp (iv_gt_of c5)) (by have := ((iv_lt (b' := 5) c100 (iv_lt (b' := 29) (iv_gt_of c5) hz4_4 hni (by decide +kernel)) hwi (by decide +kernel))).1; omega) ey112 xy112 (pf_mk (b := z4_2) (b1 := f95) (b2 := f95) (b3 := f95) (b4 := f111) (by assumption) ef13 ef97 ef102 (Or.inr ⟨(fun hh => absurd (iv_gt_of c14) (iv_nle hh)), by rw [ef95, ef94, ef92, ef91]⟩) (Or.inl ⟨c98, rfl⟩) (Or.inl ⟨c100, rfl⟩) (Or.inr ⟨(fun hh => absurd (iv_gt_of c103) (iv_nle hh)), by rw [ef111, ef110, ef108, ef107]⟩))) (iv_stepU ey112 (iv_lt (b' := 5) c100 (iv_lt (b' := 29) (iv_gt_of c5) hz4_4 hni (by decide +kernel)) hwi (by decide +kernel)) (by decide +kernel) hN4)
                    · refine lv_iload_n X.1 X.2.1 dX12_partOf_110 rfl (lv_at hl 0 rfl) ?_
                      refine lv_iconst (v := 1) X.1 X.2.1 dX12_partOf_111 (by decide +kernel) ?_
                      refine lv_iload X.1 X.2.1 dX12_partOf_112 (lv_at hl 4 rfl) ?_
                      refine lv_aload_n X.1 X.2.1 dX12_partOf_114 rfl (lv_at hl 2 rfl) ?_
                      refine gg_X12_18 X hK hG h0 wl_6_196 hfr dX12_partOf_115 ?_
                      refine lv_iconst (v := 0) X.1 X.2.1 dX12_partOf_118 (by decide +kernel) ?_
                      refine sg_ialdK X hK hG hrk (k := 49) rfl (iv_vpin (iv_c 0 (a := 0) (b := 0) (by decide +kernel)) (by decide +kernel)) (n0 := 0) (sg_cl (iv_c 0 (a := 0) (b := 0) (by decide +kernel)) (by decide +kernel)) hew dX12_partOf_119 ?_
                      refine lv_isub X.1 X.2.1 dX12_partOf_120 ?_
                      refine lv_topi (fun f115 ef115 => ?_)
                      refine lv_ishl X.1 X.2.1 dX12_partOf_121 ?_
                      refine lv_topi (fun f116 ef116 => ?_)
                      refine lv_aload_n X.1 X.2.1 dX12_partOf_122 rfl (lv_at hl 2 rfl) ?_
                      refine gg_X12_32 X hK hG h0 wl_6_210 hfn dX12_partOf_123 ?_
                      refine lv_iconst (v := 0) X.1 X.2.1 dX12_partOf_126 (by decide +kernel) ?_
                      refine sg_ialdK X hK hG hnk (k := 54) rfl (iv_vpin (iv_c 0 (a := 0) (b := 0) (by decide +kernel)) (by decide +kernel)) (n0 := 0) (sg_cl (iv_c 0 (a := 0) (b := 0) (by decide +kernel)) (by decide +kernel)) het dX12_partOf_127 ?_
                      refine lv_iand X.1 X.2.1 dX12_partOf_128 ?_
                      refine lv_topi (fun f118 ef118 => ?_)
                      refine lv_ior X.1 X.2.1 dX12_partOf_129 ?_
                      refine lv_topi (fun f119 ef119 => ?_)
                      refine lv_istore_n (lv' := [(2, .int f119), (5, .int f13), (0, .ref a0), (3, .int z2_3), (4, .int z4_4)]) X.1 X.2.1 dX12_partOf_130 rfl hl (by decide) rfl (fun ls hl => ?_)
                      refine lv_iload X.1 X.2.1 dX12_partOf_131 (lv_at hl 4 rfl) ?_
                      refine lv_aload_n X.1 X.2.1 dX12_partOf_133 rfl (lv_at hl 2 rfl) ?_
                      refine gg_X12_18 X hK hG h0 wl_6_196 hfr dX12_partOf_134 ?_
                      refine lv_iconst (v := 0) X.1 X.2.1 dX12_partOf_137 (by decide +kernel) ?_
                      refine sg_ialdK X hK hG hrk (k := 49) rfl (iv_vpin (iv_c 0 (a := 0) (b := 0) (by decide +kernel)) (by decide +kernel)) (n0 := 0) (sg_cl (iv_c 0 (a := 0) (b := 0) (by decide +kernel)) (by decide +kernel)) hew dX12_partOf_138 ?_
                      refine lv_iadd X.1 X.2.1 dX12_partOf_139 ?_
                      refine lv_topi (fun f121 ef121 => ?_)
                      refine lv_aload_n X.1 X.2.1 dX12_partOf_140 rfl (lv_at hl 2 rfl) ?_
                      refine gg_X12_23 X hK hG h0 wl_6_201 hfc dX12_partOf_141 ?_
                      refine lv_icmp_ge (tgt := 168) X.1 X.2.1 dX12_partOf_144 (by decide) (fun c122 => ?_) (fun c122 => ?_)
                      · obtain ⟨y123, ey123⟩ : ∃ y : Int32, y = z4_4 + Int32.ofInt 1 := ⟨_, rfl⟩
                        refine lv_iinc (v := y123) (lv' := [(4, .int y123), (2, .int f119), (5, .int f13), (0, .ref a0), (3, .int z2_3)]) X.1 X.2.1 dX12_partOf_168 hl (k := 4) rfl ey123.symm (by decide) rfl (fun ls hl => ?_)
                        refine lv_goto (tgt := 17) X.1 X.2.1 dX12_partOf_171 (by decide) ?_
                        have bq124 : 1 ≤ z4_4.toInt ∧ z4_4.toInt ≤ 29 := (iv_ler (c' := 1) (iv_ge_of c100) hwi (iv_lt (b' := 29) (iv_gt_of c5) hz4_4 hni (by decide +kernel)) (by decide +kernel))
                        have xy123 : y123.toInt = z4_4.toInt + 1 := sg_inc (k := 1) ey123 (iv_ler (c' := 1) (iv_ge_of c100) hwi (iv_lt (b' := 29) (iv_gt_of c5) hz4_4 hni (by decide +kernel)) (by decide +kernel)) (by decide +kernel)
                        exact ih4 _ _ f119 y123 hS (lv_sub hl [3, 1, 4, 0] rfl) (iv_of (iv_add (a' := 2) (b' := 30) ey123 (iv_ler (c' := 1) (iv_ge_of c100) hwi (iv_lt (b' := 29) (iv_gt_of c5) hz4_4 hni (by decide +kernel)) (by decide +kernel)) (iv_c _ (a := 1) (b := 1) (by decide +kernel)) (by decide +kernel)) (a' := 0) (b' := 30) (by decide +kernel)) (pf_in xf4 (Int32.lt_iff_toInt_lt.mp (iv_gt_of c5)) (by have := ((iv_ler (c' := 1) (iv_ge_of c100) hwi (iv_lt (b' := 29) (iv_gt_of c5) hz4_4 hni (by decide +kernel)) (by decide +kernel))).1; omega) ey123 xy123 (pf_mk (b := z4_2) (b1 := f95) (b2 := f95) (b3 := f119) (b4 := f119) (by assumption) ef13 ef97 ef121 (Or.inr ⟨(fun hh => absurd (iv_gt_of c14) (iv_nle hh)), by rw [ef95, ef94, ef92, ef91]⟩) (Or.inl ⟨c98, rfl⟩) (Or.inr ⟨(fun hh => absurd (iv_ge_of c100) (iv_nlt hh)), by rw [ef119, ef118, ef116, ef115]⟩) (Or.inl ⟨c122, rfl⟩))) (iv_stepU ey123 (iv_ler (c' := 1) (iv_ge_of c100) hwi (iv_lt (b' := 29) (iv_gt_of c5) hz4_4 hni (by decide +kernel)) (by decide +kernel)) (by decide +kernel) hN4)
                      · refine lv_iload_n X.1 X.2.1 dX12_partOf_147 rfl (lv_at hl 0 rfl) ?_
                        refine lv_iconst (v := 1) X.1 X.2.1 dX12_partOf_148 (by decide +kernel) ?_
                        refine lv_iload X.1 X.2.1 dX12_partOf_149 (lv_at hl 4 rfl) ?_
                        refine lv_aload_n X.1 X.2.1 dX12_partOf_151 rfl (lv_at hl 2 rfl) ?_
                        refine gg_X12_18 X hK hG h0 wl_6_196 hfr dX12_partOf_152 ?_
                        refine lv_iconst (v := 0) X.1 X.2.1 dX12_partOf_155 (by decide +kernel) ?_
                        refine sg_ialdK X hK hG hrk (k := 49) rfl (iv_vpin (iv_c 0 (a := 0) (b := 0) (by decide +kernel)) (by decide +kernel)) (n0 := 0) (sg_cl (iv_c 0 (a := 0) (b := 0) (by decide +kernel)) (by decide +kernel)) hew dX12_partOf_156 ?_
                        refine lv_iadd X.1 X.2.1 dX12_partOf_157 ?_
                        refine lv_topi (fun f126 ef126 => ?_)
                        refine lv_ishl X.1 X.2.1 dX12_partOf_158 ?_
                        refine lv_topi (fun f127 ef127 => ?_)
                        refine lv_aload_n X.1 X.2.1 dX12_partOf_159 rfl (lv_at hl 2 rfl) ?_
                        refine gg_X12_32 X hK hG h0 wl_6_210 hfn dX12_partOf_160 ?_
                        refine lv_iconst (v := 0) X.1 X.2.1 dX12_partOf_163 (by decide +kernel) ?_
                        refine sg_ialdK X hK hG hnk (k := 54) rfl (iv_vpin (iv_c 0 (a := 0) (b := 0) (by decide +kernel)) (by decide +kernel)) (n0 := 0) (sg_cl (iv_c 0 (a := 0) (b := 0) (by decide +kernel)) (by decide +kernel)) het dX12_partOf_164 ?_
                        refine lv_iand X.1 X.2.1 dX12_partOf_165 ?_
                        refine lv_topi (fun f129 ef129 => ?_)
                        refine lv_ior X.1 X.2.1 dX12_partOf_166 ?_
                        refine lv_topi (fun f130 ef130 => ?_)
                        refine lv_istore_n (lv' := [(2, .int f130), (5, .int f13), (0, .ref a0), (3, .int z2_3), (4, .int z4_4)]) X.1 X.2.1 dX12_partOf_167 rfl hl (by decide) rfl (fun ls hl => ?_)
                        obtain ⟨y131, ey131⟩ : ∃ y : Int32, y = z4_4 + Int32.ofInt 1 := ⟨_, rfl⟩
                        refine lv_iinc (v := y131) (lv' := [(4, .int y131), (2, .int f130), (5, .int f13), (0, .ref a0), (3, .int z2_3)]) X.1 X.2.1 dX12_partOf_168 hl (k := 4) rfl ey131.symm (by decide) rfl (fun ls hl => ?_)
                        refine lv_goto (tgt := 17) X.1 X.2.1 dX12_partOf_171 (by decide) ?_
                        have bq132 : 1 ≤ z4_4.toInt ∧ z4_4.toInt ≤ 29 := (iv_ler (c' := 1) (iv_ge_of c100) hwi (iv_lt (b' := 29) (iv_gt_of c5) hz4_4 hni (by decide +kernel)) (by decide +kernel))
                        have xy131 : y131.toInt = z4_4.toInt + 1 := sg_inc (k := 1) ey131 (iv_ler (c' := 1) (iv_ge_of c100) hwi (iv_lt (b' := 29) (iv_gt_of c5) hz4_4 hni (by decide +kernel)) (by decide +kernel)) (by decide +kernel)
                        exact ih4 _ _ f130 y131 hS (lv_sub hl [3, 1, 4, 0] rfl) (iv_of (iv_add (a' := 2) (b' := 30) ey131 (iv_ler (c' := 1) (iv_ge_of c100) hwi (iv_lt (b' := 29) (iv_gt_of c5) hz4_4 hni (by decide +kernel)) (by decide +kernel)) (iv_c _ (a := 1) (b := 1) (by decide +kernel)) (by decide +kernel)) (a' := 0) (b' := 30) (by decide +kernel)) (pf_in xf4 (Int32.lt_iff_toInt_lt.mp (iv_gt_of c5)) (by have := ((iv_ler (c' := 1) (iv_ge_of c100) hwi (iv_lt (b' := 29) (iv_gt_of c5) hz4_4 hni (by decide +kernel)) (by decide +kernel))).1; omega) ey131 xy131 (pf_mk (b := z4_2) (b1 := f95) (b2 := f95) (b3 := f119) (b4 := f130) (by assumption) ef13 ef97 ef121 (Or.inr ⟨(fun hh => absurd (iv_gt_of c14) (iv_nle hh)), by rw [ef95, ef94, ef92, ef91]⟩) (Or.inl ⟨c98, rfl⟩) (Or.inr ⟨(fun hh => absurd (iv_ge_of c100) (iv_nlt hh)), by rw [ef119, ef118, ef116, ef115]⟩) (Or.inr ⟨(fun hh => absurd (iv_gt_of c122) (iv_nle hh)), by rw [ef130, ef129, ef127, ef126]⟩))) (iv_stepU ey131 (iv_ler (c' := 1) (iv_ge_of c100) hwi (iv_lt (b' := 29) (iv_gt_of c5) hz4_4 hni (by decide +kernel)) (by decide +kernel)) (by decide +kernel) hN4)
                  · refine lv_iload_n X.1 X.2.1 dX12_partOf_83 rfl (lv_at hl 0 rfl) ?_
                    refine lv_iconst (v := 1) X.1 X.2.1 dX12_partOf_84 (by decide +kernel) ?_
                    refine lv_iload X.1 X.2.1 dX12_partOf_85 (lv_at hl 4 rfl) ?_
                    refine lv_iconst (v := 1) X.1 X.2.1 dX12_partOf_87 (by decide +kernel) ?_
                    refine lv_iadd X.1 X.2.1 dX12_partOf_88 ?_
                    refine lv_topi (fun f133 ef133 => ?_)
                    refine lv_ishl X.1 X.2.1 dX12_partOf_89 ?_
                    refine lv_topi (fun f134 ef134 => ?_)
                    refine lv_aload_n X.1 X.2.1 dX12_partOf_90 rfl (lv_at hl 2 rfl) ?_
                    refine gg_X12_32 X hK hG h0 wl_6_210 hfn dX12_partOf_91 ?_
                    refine lv_iconst (v := 0) X.1 X.2.1 dX12_partOf_94 (by decide +kernel) ?_
                    refine sg_ialdK X hK hG hnk (k := 54) rfl (iv_vpin (iv_c 0 (a := 0) (b := 0) (by decide +kernel)) (by decide +kernel)) (n0 := 0) (sg_cl (iv_c 0 (a := 0) (b := 0) (by decide +kernel)) (by decide +kernel)) het dX12_partOf_95 ?_
                    refine lv_iand X.1 X.2.1 dX12_partOf_96 ?_
                    refine lv_topi (fun f136 ef136 => ?_)
                    refine lv_ior X.1 X.2.1 dX12_partOf_97 ?_
                    refine lv_topi (fun f137 ef137 => ?_)
                    refine lv_istore_n (lv' := [(2, .int f137), (5, .int f13), (0, .ref a0), (3, .int z2_3), (4, .int z4_4)]) X.1 X.2.1 dX12_partOf_98 rfl hl (by decide) rfl (fun ls hl => ?_)
                    refine lv_iload X.1 X.2.1 dX12_partOf_99 (lv_at hl 4 rfl) ?_
                    refine lv_aload_n X.1 X.2.1 dX12_partOf_101 rfl (lv_at hl 2 rfl) ?_
                    refine gg_X12_18 X hK hG h0 wl_6_196 hfr dX12_partOf_102 ?_
                    refine lv_iconst (v := 0) X.1 X.2.1 dX12_partOf_105 (by decide +kernel) ?_
                    refine sg_ialdK X hK hG hrk (k := 49) rfl (iv_vpin (iv_c 0 (a := 0) (b := 0) (by decide +kernel)) (by decide +kernel)) (n0 := 0) (sg_cl (iv_c 0 (a := 0) (b := 0) (by decide +kernel)) (by decide +kernel)) hew dX12_partOf_106 ?_
                    refine lv_icmp_lt (tgt := 131) X.1 X.2.1 dX12_partOf_107 (by decide) (fun c139 => ?_) (fun c139 => ?_)
                    · refine lv_iload X.1 X.2.1 dX12_partOf_131 (lv_at hl 4 rfl) ?_
                      refine lv_aload_n X.1 X.2.1 dX12_partOf_133 rfl (lv_at hl 2 rfl) ?_
                      refine gg_X12_18 X hK hG h0 wl_6_196 hfr dX12_partOf_134 ?_
                      refine lv_iconst (v := 0) X.1 X.2.1 dX12_partOf_137 (by decide +kernel) ?_
                      refine sg_ialdK X hK hG hrk (k := 49) rfl (iv_vpin (iv_c 0 (a := 0) (b := 0) (by decide +kernel)) (by decide +kernel)) (n0 := 0) (sg_cl (iv_c 0 (a := 0) (b := 0) (by decide +kernel)) (by decide +kernel)) hew dX12_partOf_138 ?_
                      refine lv_iadd X.1 X.2.1 dX12_partOf_139 ?_
                      refine lv_topi (fun f141 ef141 => ?_)
                      refine lv_aload_n X.1 X.2.1 dX12_partOf_140 rfl (lv_at hl 2 rfl) ?_
                      refine gg_X12_23 X hK hG h0 wl_6_201 hfc dX12_partOf_141 ?_
                      refine lv_icmp_ge (tgt := 168) X.1 X.2.1 dX12_partOf_144 (by decide) (fun c142 => ?_) (fun c142 => ?_)
                      · obtain ⟨y143, ey143⟩ : ∃ y : Int32, y = z4_4 + Int32.ofInt 1 := ⟨_, rfl⟩
                        refine lv_iinc (v := y143) (lv' := [(4, .int y143), (2, .int f137), (5, .int f13), (0, .ref a0), (3, .int z2_3)]) X.1 X.2.1 dX12_partOf_168 hl (k := 4) rfl ey143.symm (by decide) rfl (fun ls hl => ?_)
                        refine lv_goto (tgt := 17) X.1 X.2.1 dX12_partOf_171 (by decide) ?_
                        have bq144 : 0 ≤ z4_4.toInt ∧ z4_4.toInt ≤ 5 := (iv_lt (b' := 5) c139 (iv_lt (b' := 29) (iv_gt_of c5) hz4_4 hni (by decide +kernel)) hwi (by decide +kernel))
                        have xy143 : y143.toInt = z4_4.toInt + 1 := sg_inc (k := 1) ey143 (iv_lt (b' := 5) c139 (iv_lt (b' := 29) (iv_gt_of c5) hz4_4 hni (by decide +kernel)) hwi (by decide +kernel)) (by decide +kernel)
                        exact ih4 _ _ f137 y143 hS (lv_sub hl [3, 1, 4, 0] rfl) (iv_of (iv_add (a' := 1) (b' := 6) ey143 (iv_lt (b' := 5) c139 (iv_lt (b' := 29) (iv_gt_of c5) hz4_4 hni (by decide +kernel)) hwi (by decide +kernel)) (iv_c _ (a := 1) (b := 1) (by decide +kernel)) (by decide +kernel)) (a' := 0) (b' := 30) (by decide +kernel)) (pf_in xf4 (Int32.lt_iff_toInt_lt.mp (iv_gt_of c5)) (by have := ((iv_lt (b' := 5) c139 (iv_lt (b' := 29) (iv_gt_of c5) hz4_4 hni (by decide +kernel)) hwi (by decide +kernel))).1; omega) ey143 xy143 (pf_mk (b := z4_2) (b1 := f95) (b2 := f137) (b3 := f137) (b4 := f137) (by assumption) ef13 ef97 ef141 (Or.inr ⟨(fun hh => absurd (iv_gt_of c14) (iv_nle hh)), by rw [ef95, ef94, ef92, ef91]⟩) (Or.inr ⟨(fun hh => absurd (iv_gt_of c98) (iv_nle hh)), by rw [ef137, ef136, ef134, ef133]⟩) (Or.inl ⟨c139, rfl⟩) (Or.inl ⟨c142, rfl⟩))) (iv_stepU ey143 (iv_lt (b' := 5) c139 (iv_lt (b' := 29) (iv_gt_of c5) hz4_4 hni (by decide +kernel)) hwi (by decide +kernel)) (by decide +kernel) hN4)
                      · refine lv_iload_n X.1 X.2.1 dX12_partOf_147 rfl (lv_at hl 0 rfl) ?_
                        refine lv_iconst (v := 1) X.1 X.2.1 dX12_partOf_148 (by decide +kernel) ?_
                        refine lv_iload X.1 X.2.1 dX12_partOf_149 (lv_at hl 4 rfl) ?_
                        refine lv_aload_n X.1 X.2.1 dX12_partOf_151 rfl (lv_at hl 2 rfl) ?_
                        refine gg_X12_18 X hK hG h0 wl_6_196 hfr dX12_partOf_152 ?_
                        refine lv_iconst (v := 0) X.1 X.2.1 dX12_partOf_155 (by decide +kernel) ?_
                        refine sg_ialdK X hK hG hrk (k := 49) rfl (iv_vpin (iv_c 0 (a := 0) (b := 0) (by decide +kernel)) (by decide +kernel)) (n0 := 0) (sg_cl (iv_c 0 (a := 0) (b := 0) (by decide +kernel)) (by decide +kernel)) hew dX12_partOf_156 ?_
                        refine lv_iadd X.1 X.2.1 dX12_partOf_157 ?_
                        refine lv_topi (fun f146 ef146 => ?_)
                        refine lv_ishl X.1 X.2.1 dX12_partOf_158 ?_
                        refine lv_topi (fun f147 ef147 => ?_)
                        refine lv_aload_n X.1 X.2.1 dX12_partOf_159 rfl (lv_at hl 2 rfl) ?_
                        refine gg_X12_32 X hK hG h0 wl_6_210 hfn dX12_partOf_160 ?_
                        refine lv_iconst (v := 0) X.1 X.2.1 dX12_partOf_163 (by decide +kernel) ?_
                        refine sg_ialdK X hK hG hnk (k := 54) rfl (iv_vpin (iv_c 0 (a := 0) (b := 0) (by decide +kernel)) (by decide +kernel)) (n0 := 0) (sg_cl (iv_c 0 (a := 0) (b := 0) (by decide +kernel)) (by decide +kernel)) het dX12_partOf_164 ?_
                        refine lv_iand X.1 X.2.1 dX12_partOf_165 ?_
                        refine lv_topi (fun f149 ef149 => ?_)
                        refine lv_ior X.1 X.2.1 dX12_partOf_166 ?_
                        refine lv_topi (fun f150 ef150 => ?_)
                        refine lv_istore_n (lv' := [(2, .int f150), (5, .int f13), (0, .ref a0), (3, .int z2_3), (4, .int z4_4)]) X.1 X.2.1 dX12_partOf_167 rfl hl (by decide) rfl (fun ls hl => ?_)
                        obtain ⟨y151, ey151⟩ : ∃ y : Int32, y = z4_4 + Int32.ofInt 1 := ⟨_, rfl⟩
                        refine lv_iinc (v := y151) (lv' := [(4, .int y151), (2, .int f150), (5, .int f13), (0, .ref a0), (3, .int z2_3)]) X.1 X.2.1 dX12_partOf_168 hl (k := 4) rfl ey151.symm (by decide) rfl (fun ls hl => ?_)
                        refine lv_goto (tgt := 17) X.1 X.2.1 dX12_partOf_171 (by decide) ?_
                        have bq152 : 0 ≤ z4_4.toInt ∧ z4_4.toInt ≤ 5 := (iv_lt (b' := 5) c139 (iv_lt (b' := 29) (iv_gt_of c5) hz4_4 hni (by decide +kernel)) hwi (by decide +kernel))
                        have xy151 : y151.toInt = z4_4.toInt + 1 := sg_inc (k := 1) ey151 (iv_lt (b' := 5) c139 (iv_lt (b' := 29) (iv_gt_of c5) hz4_4 hni (by decide +kernel)) hwi (by decide +kernel)) (by decide +kernel)
                        exact ih4 _ _ f150 y151 hS (lv_sub hl [3, 1, 4, 0] rfl) (iv_of (iv_add (a' := 1) (b' := 6) ey151 (iv_lt (b' := 5) c139 (iv_lt (b' := 29) (iv_gt_of c5) hz4_4 hni (by decide +kernel)) hwi (by decide +kernel)) (iv_c _ (a := 1) (b := 1) (by decide +kernel)) (by decide +kernel)) (a' := 0) (b' := 30) (by decide +kernel)) (pf_in xf4 (Int32.lt_iff_toInt_lt.mp (iv_gt_of c5)) (by have := ((iv_lt (b' := 5) c139 (iv_lt (b' := 29) (iv_gt_of c5) hz4_4 hni (by decide +kernel)) hwi (by decide +kernel))).1; omega) ey151 xy151 (pf_mk (b := z4_2) (b1 := f95) (b2 := f137) (b3 := f137) (b4 := f150) (by assumption) ef13 ef97 ef141 (Or.inr ⟨(fun hh => absurd (iv_gt_of c14) (iv_nle hh)), by rw [ef95, ef94, ef92, ef91]⟩) (Or.inr ⟨(fun hh => absurd (iv_gt_of c98) (iv_nle hh)), by rw [ef137, ef136, ef134, ef133]⟩) (Or.inl ⟨c139, rfl⟩) (Or.inr ⟨(fun hh => absurd (iv_gt_of c142) (iv_nle hh)), by rw [ef150, ef149, ef147, ef146]⟩))) (iv_stepU ey151 (iv_lt (b' := 5) c139 (iv_lt (b' := 29) (iv_gt_of c5) hz4_4 hni (by decide +kernel)) hwi (by decide +kernel)) (by decide +kernel) hN4)
                    · refine lv_iload_n X.1 X.2.1 dX12_partOf_110 rfl (lv_at hl 0 rfl) ?_
                      refine lv_iconst (v := 1) X.1 X.2.1 dX12_partOf_111 (by decide +kernel) ?_
                      refine lv_iload X.1 X.2.1 dX12_partOf_112 (lv_at hl 4 rfl) ?_
                      refine lv_aload_n X.1 X.2.1 dX12_partOf_114 rfl (lv_at hl 2 rfl) ?_
                      refine gg_X12_18 X hK hG h0 wl_6_196 hfr dX12_partOf_115 ?_
                      refine lv_iconst (v := 0) X.1 X.2.1 dX12_partOf_118 (by decide +kernel) ?_
                      refine sg_ialdK X hK hG hrk (k := 49) rfl (iv_vpin (iv_c 0 (a := 0) (b := 0) (by decide +kernel)) (by decide +kernel)) (n0 := 0) (sg_cl (iv_c 0 (a := 0) (b := 0) (by decide +kernel)) (by decide +kernel)) hew dX12_partOf_119 ?_
                      refine lv_isub X.1 X.2.1 dX12_partOf_120 ?_
                      refine lv_topi (fun f154 ef154 => ?_)
                      refine lv_ishl X.1 X.2.1 dX12_partOf_121 ?_
                      refine lv_topi (fun f155 ef155 => ?_)
                      refine lv_aload_n X.1 X.2.1 dX12_partOf_122 rfl (lv_at hl 2 rfl) ?_
                      refine gg_X12_32 X hK hG h0 wl_6_210 hfn dX12_partOf_123 ?_
                      refine lv_iconst (v := 0) X.1 X.2.1 dX12_partOf_126 (by decide +kernel) ?_
                      refine sg_ialdK X hK hG hnk (k := 54) rfl (iv_vpin (iv_c 0 (a := 0) (b := 0) (by decide +kernel)) (by decide +kernel)) (n0 := 0) (sg_cl (iv_c 0 (a := 0) (b := 0) (by decide +kernel)) (by decide +kernel)) het dX12_partOf_127 ?_
                      refine lv_iand X.1 X.2.1 dX12_partOf_128 ?_
                      refine lv_topi (fun f157 ef157 => ?_)
                      refine lv_ior X.1 X.2.1 dX12_partOf_129 ?_
                      refine lv_topi (fun f158 ef158 => ?_)
                      refine lv_istore_n (lv' := [(2, .int f158), (5, .int f13), (0, .ref a0), (3, .int z2_3), (4, .int z4_4)]) X.1 X.2.1 dX12_partOf_130 rfl hl (by decide) rfl (fun ls hl => ?_)
                      refine lv_iload X.1 X.2.1 dX12_partOf_131 (lv_at hl 4 rfl) ?_
                      refine lv_aload_n X.1 X.2.1 dX12_partOf_133 rfl (lv_at hl 2 rfl) ?_
                      refine gg_X12_18 X hK hG h0 wl_6_196 hfr dX12_partOf_134 ?_
                      refine lv_iconst (v := 0) X.1 X.2.1 dX12_partOf_137 (by decide +kernel) ?_
                      refine sg_ialdK X hK hG hrk (k := 49) rfl (iv_vpin (iv_c 0 (a := 0) (b := 0) (by decide +kernel)) (by decide +kernel)) (n0 := 0) (sg_cl (iv_c 0 (a := 0) (b := 0) (by decide +kernel)) (by decide +kernel)) hew dX12_partOf_138 ?_
                      refine lv_iadd X.1 X.2.1 dX12_partOf_139 ?_
                      refine lv_topi (fun f160 ef160 => ?_)
                      refine lv_aload_n X.1 X.2.1 dX12_partOf_140 rfl (lv_at hl 2 rfl) ?_
                      refine gg_X12_23 X hK hG h0 wl_6_201 hfc dX12_partOf_141 ?_
                      refine lv_icmp_ge (tgt := 168) X.1 X.2.1 dX12_partOf_144 (by decide) (fun c161 => ?_) (fun c161 => ?_)
                      · obtain ⟨y162, ey162⟩ : ∃ y : Int32, y = z4_4 + Int32.ofInt 1 := ⟨_, rfl⟩
                        refine lv_iinc (v := y162) (lv' := [(4, .int y162), (2, .int f158), (5, .int f13), (0, .ref a0), (3, .int z2_3)]) X.1 X.2.1 dX12_partOf_168 hl (k := 4) rfl ey162.symm (by decide) rfl (fun ls hl => ?_)
                        refine lv_goto (tgt := 17) X.1 X.2.1 dX12_partOf_171 (by decide) ?_
                        have bq163 : 1 ≤ z4_4.toInt ∧ z4_4.toInt ≤ 29 := (iv_ler (c' := 1) (iv_ge_of c139) hwi (iv_lt (b' := 29) (iv_gt_of c5) hz4_4 hni (by decide +kernel)) (by decide +kernel))
                        have xy162 : y162.toInt = z4_4.toInt + 1 := sg_inc (k := 1) ey162 (iv_ler (c' := 1) (iv_ge_of c139) hwi (iv_lt (b' := 29) (iv_gt_of c5) hz4_4 hni (by decide +kernel)) (by decide +kernel)) (by decide +kernel)
                        exact ih4 _ _ f158 y162 hS (lv_sub hl [3, 1, 4, 0] rfl) (iv_of (iv_add (a' := 2) (b' := 30) ey162 (iv_ler (c' := 1) (iv_ge_of c139) hwi (iv_lt (b' := 29) (iv_gt_of c5) hz4_4 hni (by decide +kernel)) (by decide +kernel)) (iv_c _ (a := 1) (b := 1) (by decide +kernel)) (by decide +kernel)) (a' := 0) (b' := 30) (by decide +kernel)) (pf_in xf4 (Int32.lt_iff_toInt_lt.mp (iv_gt_of c5)) (by have := ((iv_ler (c' := 1) (iv_ge_of c139) hwi (iv_lt (b' := 29) (iv_gt_of c5) hz4_4 hni (by decide +kernel)) (by decide +kernel))).1; omega) ey162 xy162 (pf_mk (b := z4_2) (b1 := f95) (b2 := f137) (b3 := f158) (b4 := f158) (by assumption) ef13 ef97 ef160 (Or.inr ⟨(fun hh => absurd (iv_gt_of c14) (iv_nle hh)), by rw [ef95, ef94, ef92, ef91]⟩) (Or.inr ⟨(fun hh => absurd (iv_gt_of c98) (iv_nle hh)), by rw [ef137, ef136, ef134, ef133]⟩) (Or.inr ⟨(fun hh => absurd (iv_ge_of c139) (iv_nlt hh)), by rw [ef158, ef157, ef155, ef154]⟩) (Or.inl ⟨c161, rfl⟩))) (iv_stepU ey162 (iv_ler (c' := 1) (iv_ge_of c139) hwi (iv_lt (b' := 29) (iv_gt_of c5) hz4_4 hni (by decide +kernel)) (by decide +kernel)) (by decide +kernel) hN4)
                      · refine lv_iload_n X.1 X.2.1 dX12_partOf_147 rfl (lv_at hl 0 rfl) ?_
                        refine lv_iconst (v := 1) X.1 X.2.1 dX12_partOf_148 (by decide +kernel) ?_
                        refine lv_iload X.1 X.2.1 dX12_partOf_149 (lv_at hl 4 rfl) ?_
                        refine lv_aload_n X.1 X.2.1 dX12_partOf_151 rfl (lv_at hl 2 rfl) ?_
                        refine gg_X12_18 X hK hG h0 wl_6_196 hfr dX12_partOf_152 ?_
                        refine lv_iconst (v := 0) X.1 X.2.1 dX12_partOf_155 (by decide +kernel) ?_
                        refine sg_ialdK X hK hG hrk (k := 49) rfl (iv_vpin (iv_c 0 (a := 0) (b := 0) (by decide +kernel)) (by decide +kernel)) (n0 := 0) (sg_cl (iv_c 0 (a := 0) (b := 0) (by decide +kernel)) (by decide +kernel)) hew dX12_partOf_156 ?_
                        refine lv_iadd X.1 X.2.1 dX12_partOf_157 ?_
                        refine lv_topi (fun f165 ef165 => ?_)
                        refine lv_ishl X.1 X.2.1 dX12_partOf_158 ?_
                        refine lv_topi (fun f166 ef166 => ?_)
                        refine lv_aload_n X.1 X.2.1 dX12_partOf_159 rfl (lv_at hl 2 rfl) ?_
                        refine gg_X12_32 X hK hG h0 wl_6_210 hfn dX12_partOf_160 ?_
                        refine lv_iconst (v := 0) X.1 X.2.1 dX12_partOf_163 (by decide +kernel) ?_
                        refine sg_ialdK X hK hG hnk (k := 54) rfl (iv_vpin (iv_c 0 (a := 0) (b := 0) (by decide +kernel)) (by decide +kernel)) (n0 := 0) (sg_cl (iv_c 0 (a := 0) (b := 0) (by decide +kernel)) (by decide +kernel)) het dX12_partOf_164 ?_
                        refine lv_iand X.1 X.2.1 dX12_partOf_165 ?_
                        refine lv_topi (fun f168 ef168 => ?_)
                        refine lv_ior X.1 X.2.1 dX12_partOf_166 ?_
                        refine lv_topi (fun f169 ef169 => ?_)
                        refine lv_istore_n (lv' := [(2, .int f169), (5, .int f13), (0, .ref a0), (3, .int z2_3), (4, .int z4_4)]) X.1 X.2.1 dX12_partOf_167 rfl hl (by decide) rfl (fun ls hl => ?_)
                        obtain ⟨y170, ey170⟩ : ∃ y : Int32, y = z4_4 + Int32.ofInt 1 := ⟨_, rfl⟩
                        refine lv_iinc (v := y170) (lv' := [(4, .int y170), (2, .int f169), (5, .int f13), (0, .ref a0), (3, .int z2_3)]) X.1 X.2.1 dX12_partOf_168 hl (k := 4) rfl ey170.symm (by decide) rfl (fun ls hl => ?_)
                        refine lv_goto (tgt := 17) X.1 X.2.1 dX12_partOf_171 (by decide) ?_
                        have bq171 : 1 ≤ z4_4.toInt ∧ z4_4.toInt ≤ 29 := (iv_ler (c' := 1) (iv_ge_of c139) hwi (iv_lt (b' := 29) (iv_gt_of c5) hz4_4 hni (by decide +kernel)) (by decide +kernel))
                        have xy170 : y170.toInt = z4_4.toInt + 1 := sg_inc (k := 1) ey170 (iv_ler (c' := 1) (iv_ge_of c139) hwi (iv_lt (b' := 29) (iv_gt_of c5) hz4_4 hni (by decide +kernel)) (by decide +kernel)) (by decide +kernel)
                        exact ih4 _ _ f169 y170 hS (lv_sub hl [3, 1, 4, 0] rfl) (iv_of (iv_add (a' := 2) (b' := 30) ey170 (iv_ler (c' := 1) (iv_ge_of c139) hwi (iv_lt (b' := 29) (iv_gt_of c5) hz4_4 hni (by decide +kernel)) (by decide +kernel)) (iv_c _ (a := 1) (b := 1) (by decide +kernel)) (by decide +kernel)) (a' := 0) (b' := 30) (by decide +kernel)) (pf_in xf4 (Int32.lt_iff_toInt_lt.mp (iv_gt_of c5)) (by have := ((iv_ler (c' := 1) (iv_ge_of c139) hwi (iv_lt (b' := 29) (iv_gt_of c5) hz4_4 hni (by decide +kernel)) (by decide +kernel))).1; omega) ey170 xy170 (pf_mk (b := z4_2) (b1 := f95) (b2 := f137) (b3 := f158) (b4 := f169) (by assumption) ef13 ef97 ef160 (Or.inr ⟨(fun hh => absurd (iv_gt_of c14) (iv_nle hh)), by rw [ef95, ef94, ef92, ef91]⟩) (Or.inr ⟨(fun hh => absurd (iv_gt_of c98) (iv_nle hh)), by rw [ef137, ef136, ef134, ef133]⟩) (Or.inr ⟨(fun hh => absurd (iv_ge_of c139) (iv_nlt hh)), by rw [ef158, ef157, ef155, ef154]⟩) (Or.inr ⟨(fun hh => absurd (iv_gt_of c161) (iv_nle hh)), by rw [ef169, ef168, ef166, ef165]⟩))) (iv_stepU ey170 (iv_ler (c' := 1) (iv_ge_of c139) hwi (iv_lt (b' := 29) (iv_gt_of c5) hz4_4 hni (by decide +kernel)) (by decide +kernel)) (by decide +kernel) hN4)
              · have hsq11 : ¬ sgHas z4_2 z4_4 := sg_hasf hf8.1 hf8.2 c9
                refine lv_goto (tgt := 168) X.1 X.2.1 dX12_partOf_35 (by decide) ?_
                obtain ⟨y172, ey172⟩ : ∃ y : Int32, y = z4_4 + Int32.ofInt 1 := ⟨_, rfl⟩
                refine lv_iinc (v := y172) (lv' := [(4, .int y172), (0, .ref a0), (2, .int z4_2), (3, .int z2_3)]) X.1 X.2.1 dX12_partOf_168 hl (k := 3) rfl ey172.symm (by decide) rfl (fun ls hl => ?_)
                refine lv_goto (tgt := 17) X.1 X.2.1 dX12_partOf_171 (by decide) ?_
                have bq173 : 0 ≤ z4_4.toInt ∧ z4_4.toInt ≤ 29 := (iv_lt (b' := 29) (iv_gt_of c5) hz4_4 hni (by decide +kernel))
                have xy172 : y172.toInt = z4_4.toInt + 1 := sg_inc (k := 1) ey172 (iv_lt (b' := 29) (iv_gt_of c5) hz4_4 hni (by decide +kernel)) (by decide +kernel)
                exact ih4 _ _ z4_2 y172 hS (lv_sub hl [1, 2, 3, 0] rfl) (iv_of (iv_add (a' := 1) (b' := 30) ey172 (iv_lt (b' := 29) (iv_gt_of c5) hz4_4 hni (by decide +kernel)) (iv_c _ (a := 1) (b := 1) (by decide +kernel)) (by decide +kernel)) (a' := 0) (b' := 30) (by decide +kernel)) (pf_in xf4 (Int32.lt_iff_toInt_lt.mp (iv_gt_of c5)) (by have := ((iv_lt (b' := 29) (iv_gt_of c5) hz4_4 hni (by decide +kernel))).1; omega) ey172 xy172 (pf_no (by assumption))) (iv_stepU ey172 (iv_lt (b' := 29) (iv_gt_of c5) hz4_4 hni (by decide +kernel)) (by decide +kernel) hN4)
        exact B4_17 _ _ _ z2_2 0 hS (lv_sub hl [1, 2, 3, 0] rfl) (iv_of (iv_c 0 (a := 0) (b := 0) (by decide +kernel)) (a' := 0) (b' := 30) (by decide +kernel)) (pf_en xf2 (Int32.lt_iff_toInt_lt.mp (iv_gt_of c3)) (by have := ((iv_lt (b' := 29) (iv_gt_of c3) hz2_3 hni (by decide +kernel))).1; omega)) (Nat.le_refl _)
  exact B2_6 _ _ _ f1 0 hS (lv_sub hl [2, 1, 0] rfl) (iv_of (iv_c 0 (a := 0) (b := 0) (by decide +kernel)) (a' := 0) (b' := 30) (by decide +kernel)) (pf_s0 ef1) (Nat.le_refl _)

theorem ca_X12_partOf_f   (X : CallFix p m c cc nL s args sg_tbl own) (hK : va_K D vwCl tys s) (hG : sgG (KT P) D vwCl (fun q : Nat => base ≤ q) tys ad ks H) (hC : sgC base s) (hA : ∀ q : Nat, A q → base ≤ q) (hS : va_S A s.heap H locs) (hb : base ≤ s.heap.size) (hp4 : P.2.2.2.2.1 = true) (a0 : Nat) (h0 : isK ad ks 12 a0) (x1 : Int32) (w t n : Int32) (rq nq : Nat) (hwi : iv 1 6 w) (hni : iv 1 30 n) (hrk : isK ad ks 49 rq) (hnk : isK ad ks 54 nq) (hfr : fld D H 12 a0 18 (.ref rq)) (hfn : fld D H 12 a0 32 (.ref nq)) (hfc : fld D H 12 a0 23 (.int n)) (hew : ele H rq 0 w) (het : ele H nq 0 t) (hl : Cond.methodLink own index yX12_partOf ∈ sg_tbl) (hsize : ls.size = nL) (hst : st0 = [.int x1].reverse ++ .ref a0 :: rest) (hW : (rest.map fun v => v.category).sum ≤ 8) (hR : 2 ≤ R.frames ∧ 46 ≤ R.locals) (hf : cells ≤ R.cells ∧ slots ≤ R.slots) (hdg : decode cc pc = .ok (.invokevirtual index, 3)) (kk : ∀ (r : Int32) (locs1 : List Loc), (fun r : Int32 => r = pf_of w t n x1) r → va_S A s.heap H locs1 → W p l e R s m args below meth c H locs1 cells slots Q (F0 m (pc + 3) ls (.int r :: rest))) : W p l e R s m args below meth c H locs cells slots Q (F0 m pc ls st0) :=
  sg_callPVi X hK hG hC hA hS hb (m_X12_partOf_f l hp4 a0 h0 x1 w t n rq nq hwi hni hrk hnk hfr hfn hfc hew het) h0 (k := 12) (ci := 12) rfl (C := RX12) (T := TX12) (N := 53) rfl wl_9_50 wl_1_13 wl_9_49 wl_0_102 (n := 1) (by decide +kernel) rfl rfl rfl hl hsize hst hW hR hf hdg kk
end
