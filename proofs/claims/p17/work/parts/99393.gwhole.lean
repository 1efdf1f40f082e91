
section
variable {p : Program} {l : Launch} {e : Env} {R : Room} {s : State} {m : MethodId} {args : Array Value} {below : List Frame} {meth : Method} {c : Code} {H : Heap} {locs : List Loc} {cells slots : Nat} {Q : State → Prop} {cc : ByteArray} {nL pc : Nat} {ls : Array Slot} {rest : List Value} {own : String} {D : va_G} {A : Nat → Prop} {tys : List (ClassId × FieldType)} {ad ks : List Nat} {P : sgPm} {H0 : Heap} {index : Nat} {base : Nat} {st0 : List Value} {a : Nat}

set_option maxHeartbeats 8000000 in
set_option maxRecDepth 100000 in
theorem m_X4_column_g (l : Launch) {D : va_G} {base : Nat} {tys : List (ClassId × FieldType)} {ad ks : List Nat} {P : sgPm}{a w1 w2 w : Int} {z : sgZg}  {Hx : Heap} (a0 : Nat) (h0 : isK ad ks 2 a0) (x1 : Int32) (h1 : iv 0 29 x1) (hw : 1 ≤ w ∧ w ≤ 6) (hz7 : z 0 7 = (w, w)) : sgPi l (KG a a w1 w2 z P) D vwCl base tys ad ks Hx yX4_column cX4_column 2 (some .int) ({ frames := 0, cells := 0, slots := 0, locals := 0 }) [.ref a0, .int x1] (fun r : Int32 => r.toInt = x1.toInt % w) := by
  refine sg_ofP (Pq := fun Hx => va_Qi (fun r (_ : Unit) => (fun r : Int32 => r.toInt = x1.toInt % w) r) (fun _ t => t.heap = Hx) (fun _ : Nat => False)) (by decide +kernel) (Nat.le_of_ble_eq_true rfl) (fun p e s m below meth c X hr hlk hb hK hC hG ls hl => ?_)
  have hS : va_S (fun _ : Nat => False) s.heap s.heap [] := va_S.rf
  have hl : lv_has ls 2 [(0, .ref a0), (1, .int x1)] := hl
  refine lv_aload_n X.1 X.2.1 dX4_column_0 rfl (lv_at hl 0 rfl) ?_
  refine gf_X4_7g X hK hG h0 wl_1_225 dX4_column_1 (fun f10 hf10 => ?_)
  have xf10 : f10.toInt = w := vq_pin (t := w) hz7 hf10
  have yf10 : iv 1 6 f10 := vq_of xf10 hw
  refine lv_iconst (v := 1) X.1 X.2.1 dX4_column_4 (by decide +kernel) ?_
  refine lv_icmp_ge (tgt := 12) X.1 X.2.1 dX4_column_5 (by decide) (fun c11 => ?_) (fun c11 => ?_)
  · have i12 : ¬ w < (1 : Int) := vq_le c11 (by decide +kernel) xf10
    refine lv_iload_n X.1 X.2.1 dX4_column_12 rfl (lv_at hl 1 rfl) ?_
    refine lv_aload_n X.1 X.2.1 dX4_column_13 rfl (lv_at hl 0 rfl) ?_
    refine gf_X4_7g X hK hG h0 wl_1_225 dX4_column_14 (fun f14 hf14 => ?_)
    have xf14 : f14.toInt = w := vq_pin (t := w) hz7 hf14
    have yf14 : iv 1 6 f14 := vq_of xf14 hw
    refine lv_irem X.1 X.2.1 dX4_column_17 (iv_ne0 yf14 (by decide +kernel)) ?_
    refine lv_topi (fun f15 ef15 => ?_)
    have xf15 : f15.toInt = (x1.toInt % w) := vq_rem ef15 h1 yf14 (by decide +kernel) rfl xf14
    exact sg_iretP X hr hlk hS xf15 dX4_column_18
  · have i13 : w < (1 : Int) := vq_lt (iv_gt_of c11) xf10 (by decide +kernel)
    exact ((iv_no (iv_lt (b' := 0) (iv_gt_of c11) yf10 (iv_c 1 (a := 1) (b := 1) (by decide +kernel)) (by decide +kernel)) (by decide +kernel))).elim

theorem ca_X4_column_g  {a w1 w2 w : Int} {z : sgZg}  (X : CallFix p m c cc nL s args sg_tbl own) (hK : va_K D vwCl tys s) (hG : sgG (KG a a w1 w2 z P) D vwCl (fun q : Nat => base ≤ q) tys ad ks H) (hC : sgC base s) (hA : ∀ q : Nat, A q → base ≤ q) (hS : va_S A s.heap H locs) (hb : base ≤ s.heap.size) (a0 : Nat) (h0 : isK ad ks 2 a0) (x1 : Int32) (h1 : iv 0 29 x1) (hw : 1 ≤ w ∧ w ≤ 6) (hz7 : z 0 7 = (w, w)) (hl : Cond.methodLink own index yX4_column ∈ sg_tbl) (hsize : ls.size = nL) (hst : st0 = [.int x1].reverse ++ .ref a0 :: rest) (hW : (rest.map fun v => v.category).sum ≤ 8) (hR : 1 ≤ R.frames ∧ 21 ≤ R.locals) (hf : cells ≤ R.cells ∧ slots ≤ R.slots) (hdg : decode cc pc = .ok (.invokevirtual index, 3)) (kk : ∀ (r : Int32) (locs1 : List Loc), (fun r : Int32 => r.toInt = x1.toInt % w) r → va_S A s.heap H locs1 → W p l e R s m args below meth c H locs1 cells slots Q (F0 m (pc + 3) ls (.int r :: rest))) : W p l e R s m args below meth c H locs cells slots Q (F0 m pc ls st0) :=
  sg_callPVi X hK hG hC hA hS hb (m_X4_column_g l a0 h0 x1 h1 hw hz7) h0 (k := 2) (ci := 4) rfl (C := RX4) (T := TX4) (N := 15) rfl wl_3_184 wl_1_7 wl_3_182 wl_3_183 (n := 1) (by decide +kernel) rfl rfl rfl hl hsize hst hW hR hf hdg kk

set_option maxHeartbeats 8000000 in
set_option maxRecDepth 100000 in
theorem m_X4_besideAnyWay_g (l : Launch) {D : va_G} {base : Nat} {tys : List (ClassId × FieldType)} {ad ks : List Nat} {P : sgPm}{a w1 w2 : Int} {z : sgZg}  {Hx : Heap} (a0 : Nat) (h0 : isK ad ks 2 a0) (x1 : Int32) : sgPi l (KG a a w1 w2 z P) D vwCl base tys ad ks Hx yX4_besideAnyWay cX4_besideAnyWay 4 (some .int) ({ frames := 0, cells := 0, slots := 0, locals := 0 }) [.ref a0, .int x1] (fun r : Int32 => True) := by
  refine sg_ofP (Pq := fun Hx => va_Qi (fun r (_ : Unit) => (fun r : Int32 => True) r) (fun _ t => t.heap = Hx) (fun _ : Nat => False)) (by decide +kernel) (Nat.le_of_ble_eq_true rfl) (fun p e s m below meth c X hr hlk hb hK hC hG ls hl => ?_)
  have hS : va_S (fun _ : Nat => False) s.heap s.heap [] := va_S.rf
  have hl : lv_has ls 4 [(0, .ref a0), (1, .int x1)] := hl
  refine lv_iconst (v := 0) X.1 X.2.1 dX4_besideAnyWay_0 (by decide +kernel) ?_
  refine lv_istore_n (lv' := [(2, .int 0), (0, .ref a0), (1, .int x1)]) X.1 X.2.1 dX4_besideAnyWay_1 rfl hl (by decide) rfl (fun ls hl => ?_)
  refine lv_iconst (v := 0) X.1 X.2.1 dX4_besideAnyWay_2 (by decide +kernel) ?_
  refine lv_istore_n (lv' := [(3, .int 0), (2, .int 0), (0, .ref a0), (1, .int x1)]) X.1 X.2.1 dX4_besideAnyWay_3 rfl hl (by decide) rfl (fun ls hl => ?_)
  have B10_4 : ∀ (N : Nat) (locs : List Loc) (ls : Array Slot) (z10_2 : Int32) (z10_3 : Int32), va_S (fun _ : Nat => False) s.heap s.heap locs → lv_has ls 4 [(0, .ref a0), (1, .int x1), (2, .int z10_2), (3, .int z10_3)] → iv 0 4 z10_3 → (5 - z10_3.toInt).toNat ≤ N → W p l e (headSpec (Cond.code yX4_besideAnyWay cX4_besideAnyWay 4 (some .int) :: sg_tbl) ({ frames := 0, cells := 0, slots := 0, locals := 0 })).room s m #[.ref a0, .int x1] below meth c s.heap locs 0 0 (MQ below (va_Qi (fun r (_ : Unit) => (fun r : Int32 => True) r) (fun _ t => t.heap = s.heap) (fun _ : Nat => False)) #[.ref a0, .int x1] s 0 0 (fun _ : Nat => False)) (F0 m 4 ls []) := by
    intro N; induction N with
    | zero =>
      intro locs ls z10_2 z10_3 hS hl hz10_3 hN
      exact absurd hN (by have := iv_up hz10_3; omega)
    | succ N ih10 =>
      intro locs ls z10_2 z10_3 hS hl hz10_3 hN10
      refine lv_iload_n X.1 X.2.1 dX4_besideAnyWay_4 rfl (lv_at hl 3 rfl) ?_
      refine lv_iconst (v := 4) X.1 X.2.1 dX4_besideAnyWay_5 (by decide +kernel) ?_
      refine lv_icmp_ge (tgt := 49) X.1 X.2.1 dX4_besideAnyWay_6 (by decide) (fun c11 => ?_) (fun c11 => ?_)
      · have i12 : ¬ z10_3.toInt < (4 : Int) := vq_le c11 (by decide +kernel) rfl
        refine lv_iload_n X.1 X.2.1 dX4_besideAnyWay_49 rfl (lv_at hl 2 rfl) ?_
        refine lv_aload_n X.1 X.2.1 dX4_besideAnyWay_50 rfl (lv_at hl 0 rfl) ?_
        refine gf_X4_6g X hK hG h0 wl_1_222 dX4_besideAnyWay_51 (fun f14 hf14 => ?_)
        refine lv_iand X.1 X.2.1 dX4_besideAnyWay_54 ?_
        refine lv_topi (fun f15 ef15 => ?_)
        exact sg_iretP X hr hlk hS trivial dX4_besideAnyWay_55
      · have i13 : z10_3.toInt < (4 : Int) := vq_lt (iv_gt_of c11) rfl (by decide +kernel)
        refine lv_iload_n X.1 X.2.1 dX4_besideAnyWay_9 rfl (lv_at hl 2 rfl) ?_
        refine lv_iload_n X.1 X.2.1 dX4_besideAnyWay_10 rfl (lv_at hl 1 rfl) ?_
        refine lv_aload_n X.1 X.2.1 dX4_besideAnyWay_11 rfl (lv_at hl 0 rfl) ?_
        refine gf_X4_3g X hK hG h0 wl_1_215 dX4_besideAnyWay_12 (fun q16 hq16 => ?_)
        refine lv_iload_n X.1 X.2.1 dX4_besideAnyWay_15 rfl (lv_at hl 3 rfl) ?_
        refine al_52g X hK hG hq16 (iv_vpin (iv_lt (b' := 3) (iv_gt_of c11) hz10_3 (iv_c 4 (a := 4) (b := 4) (by decide +kernel)) (by decide +kernel)) (by decide +kernel)) dX4_besideAnyWay_16 (fun f17 hf17 => ?_)
        refine lv_iand X.1 X.2.1 dX4_besideAnyWay_17 ?_
        refine lv_topi (fun f18 ef18 => ?_)
        refine lv_aload_n X.1 X.2.1 dX4_besideAnyWay_18 rfl (lv_at hl 0 rfl) ?_
        refine gf_X4_2g X hK hG h0 wl_1_214 dX4_besideAnyWay_19 (fun q19 hq19 => ?_)
        refine lv_iload_n X.1 X.2.1 dX4_besideAnyWay_22 rfl (lv_at hl 3 rfl) ?_
        refine al_51g X hK hG hq19 (iv_vpin (iv_lt (b' := 3) (iv_gt_of c11) hz10_3 (iv_c 4 (a := 4) (b := 4) (by decide +kernel)) (by decide +kernel)) (by decide +kernel)) dX4_besideAnyWay_23 (fun f20 hf20 => ?_)
        refine lv_ishl X.1 X.2.1 dX4_besideAnyWay_24 ?_
        refine lv_topi (fun f21 ef21 => ?_)
        refine lv_iload_n X.1 X.2.1 dX4_besideAnyWay_25 rfl (lv_at hl 1 rfl) ?_
        refine lv_aload_n X.1 X.2.1 dX4_besideAnyWay_26 rfl (lv_at hl 0 rfl) ?_
        refine gf_X4_2g X hK hG h0 wl_1_214 dX4_besideAnyWay_27 (fun q22 hq22 => ?_)
        refine lv_iload_n X.1 X.2.1 dX4_besideAnyWay_30 rfl (lv_at hl 3 rfl) ?_
        refine al_51g X hK hG hq22 (iv_vpin (iv_lt (b' := 3) (iv_gt_of c11) hz10_3 (iv_c 4 (a := 4) (b := 4) (by decide +kernel)) (by decide +kernel)) (by decide +kernel)) dX4_besideAnyWay_31 (fun f23 hf23 => ?_)
        obtain ⟨f24, ef24⟩ : ∃ y : Int32, y = (x1.toUInt32 >>> ((f23 : Int32).toUInt32 &&& Int32.toUInt32 31)).toInt32 := ⟨_, rfl⟩
        refine lv_iushr (v := f24) X.1 X.2.1 dX4_besideAnyWay_32 ef24.symm ?_
        refine lv_aload_n X.1 X.2.1 dX4_besideAnyWay_33 rfl (lv_at hl 0 rfl) ?_
        refine gf_X4_3g X hK hG h0 wl_1_215 dX4_besideAnyWay_34 (fun q25 hq25 => ?_)
        refine lv_iload_n X.1 X.2.1 dX4_besideAnyWay_37 rfl (lv_at hl 3 rfl) ?_
        refine al_52g X hK hG hq25 (iv_vpin (iv_lt (b' := 3) (iv_gt_of c11) hz10_3 (iv_c 4 (a := 4) (b := 4) (by decide +kernel)) (by decide +kernel)) (by decide +kernel)) dX4_besideAnyWay_38 (fun f26 hf26 => ?_)
        refine lv_iand X.1 X.2.1 dX4_besideAnyWay_39 ?_
        refine lv_topi (fun f27 ef27 => ?_)
        refine lv_ior X.1 X.2.1 dX4_besideAnyWay_40 ?_
        refine lv_topi (fun f28 ef28 => ?_)
        refine lv_ior X.1 X.2.1 dX4_besideAnyWay_41 ?_
        refine lv_topi (fun f29 ef29 => ?_)
        refine lv_istore_n (lv' := [(2, .int f29), (0, .ref a0), (1, .int x1), (3, .int z10_3)]) X.1 X.2.1 dX4_besideAnyWay_42 rfl hl (by decide) rfl (fun ls hl => ?_)
        obtain ⟨y30, ey30⟩ : ∃ y : Int32, y = z10_3 + Int32.ofInt 1 := ⟨_, rfl⟩
        have xy30 : y30.toInt = (z10_3.toInt + 1) := sg_exadd ey30 (iv_lt (b' := 3) (iv_gt_of c11) hz10_3 (iv_c 4 (a := 4) (b := 4) (by decide +kernel)) (by decide +kernel)) (iv_c _ (a := 1) (b := 1) (by decide +kernel)) (by decide +kernel) rfl (by decide +kernel)
        refine lv_iinc (v := y30) (lv' := [(3, .int y30), (2, .int f29), (0, .ref a0), (1, .int x1)]) X.1 X.2.1 dX4_besideAnyWay_43 hl (k := 3) rfl ey30.symm (by decide) rfl (fun ls hl => ?_)
        refine lv_goto (tgt := 4) X.1 X.2.1 dX4_besideAnyWay_46 (by decide) ?_
        exact ih10 _ _ f29 y30 hS (lv_sub hl [2, 3, 1, 0] rfl) (iv_of (iv_add (a' := 1) (b' := 4) ey30 (iv_lt (b' := 3) (iv_gt_of c11) hz10_3 (iv_c 4 (a := 4) (b := 4) (by decide +kernel)) (by decide +kernel)) (iv_c _ (a := 1) (b := 1) (by decide +kernel)) (by decide +kernel)) (a' := 0) (b' := 4) (by decide +kernel)) (iv_stepU ey30 (iv_lt (b' := 3) (iv_gt_of c11) hz10_3 (iv_c 4 (a := 4) (b := 4) (by decide +kernel)) (by decide +kernel)) (by decide +kernel) hN10)
  exact B10_4 _ _ _ 0 0 hS (lv_sub hl [2, 3, 1, 0] rfl) (iv_of (iv_c 0 (a := 0) (b := 0) (by decide +kernel)) (a' := 0) (b' := 4) (by decide +kernel)) (Nat.le_refl _)

theorem ca_X4_besideAnyWay_g  {a w1 w2 : Int} {z : sgZg}  (X : CallFix p m c cc nL s args sg_tbl own) (hK : va_K D vwCl tys s) (hG : sgG (KG a a w1 w2 z P) D vwCl (fun q : Nat => base ≤ q) tys ad ks H) (hC : sgC base s) (hA : ∀ q : Nat, A q → base ≤ q) (hS : va_S A s.heap H locs) (hb : base ≤ s.heap.size) (a0 : Nat) (h0 : isK ad ks 2 a0) (x1 : Int32) (hl : Cond.methodLink own index yX4_besideAnyWay ∈ sg_tbl) (hsize : ls.size = nL) (hst : st0 = [.int x1].reverse ++ .ref a0 :: rest) (hW : (rest.map fun v => v.category).sum ≤ 8) (hR : 1 ≤ R.frames ∧ 23 ≤ R.locals) (hf : cells ≤ R.cells ∧ slots ≤ R.slots) (hdg : decode cc pc = .ok (.invokevirtual index, 3)) (kk : ∀ (r : Int32) (locs1 : List Loc), (fun r : Int32 => True) r → va_S A s.heap H locs1 → W p l e R s m args below meth c H locs1 cells slots Q (F0 m (pc + 3) ls (.int r :: rest))) : W p l e R s m args below meth c H locs cells slots Q (F0 m pc ls st0) :=
  sg_callPVi X hK hG hC hA hS hb (m_X4_besideAnyWay_g l a0 h0 x1) h0 (k := 2) (ci := 4) rfl (C := RX4) (T := TX4) (N := 15) rfl wl_3_192 wl_1_7 wl_3_191 wl_0_8 (n := 1) (by decide +kernel) rfl rfl rfl hl hsize hst hW hR hf hdg kk

set_option maxHeartbeats 8000000 in
set_option maxRecDepth 100000 in
theorem m_X4_setWay_g0 (l : Launch) {D : va_G} {base : Nat} {tys : List (ClassId × FieldType)} {ad ks : List Nat} {P : sgPm}{a w1 w2 L : Int} {al : Int32} {z : sgZg}  (a0 : Nat) (h0 : isK ad ks 2 a0) (x1 : Int32) (h1 : iv 0 0 x1) (x2 : Int32) (x3 : Int32) (hz12 : z 1 2 = (L, L)) (hal : z 0 6 = (al.toInt, al.toInt)) (hL : 2 ≤ L ∧ L ≤ 5) : Met l yX4_setWay (Cond.code yX4_setWay cX4_setWay 6 none :: sg_tbl) ({ frames := 0, cells := 0, slots := 0, locals := 0 }) (va_Pc [.ref a0, .int x1, .int x2, .int x3] (sgB (KG a a w1 w2 z P) D vwCl base tys ad ks)) (va_Qv (fun (_ : Unit) => True) (fun _ => fun t => sgB (KG a a w1 w2 (zSet (zSet (zSet z 2 0 x2.toInt) 3 0 x3.toInt) 4 0 (vSw x3 x2 (L - 1).toNat al).toInt) P) D vwCl base tys ad ks t) (fun q : Nat => base ≤ q)) 0 0 (fun q : Nat => base ≤ q) := by
  refine sg_ofW (by decide +kernel) (Nat.le_of_ble_eq_true rfl) (fun p e s m below meth c X hr hlk hb hK hC hG ls hl => ?_)
  have hS : va_S (fun q : Nat => base ≤ q) s.heap s.heap [] := va_S.rf
  have hl : lv_has ls 6 [(0, .ref a0), (1, .int x1), (2, .int x2), (3, .int x3)] := hl
  refine lv_aload_n X.1 X.2.1 dX4_setWay_0 rfl (lv_at hl 0 rfl) ?_
  refine gf_X4_2g X hK hG h0 wl_1_214 dX4_setWay_1 (fun q10 hq10 => ?_)
  refine lv_iload_n X.1 X.2.1 dX4_setWay_4 rfl (lv_at hl 1 rfl) ?_
  refine lv_iload_n X.1 X.2.1 dX4_setWay_5 rfl (lv_at hl 2 rfl) ?_
  refine as_51G X hK hG hS hq10 (iv_vpin h1 (by decide +kernel)) dX4_setWay_6 (fun H locs hG hS => ?_)
  rw [show (x1 : Int32).toNatClampNeg = 0 from sg_cl h1 (by decide)] at hG
  have hG : sgG (KG a a w1 w2 (zSet z 2 0 ((x2).toInt)) P) D vwCl _ tys ad ks _ := hG
  refine lv_aload_n X.1 X.2.1 dX4_setWay_7 rfl (lv_at hl 0 rfl) ?_
  refine gf_X4_3g X hK hG h0 wl_1_215 dX4_setWay_8 (fun q11 hq11 => ?_)
  refine lv_iload_n X.1 X.2.1 dX4_setWay_11 rfl (lv_at hl 1 rfl) ?_
  refine lv_iload_n X.1 X.2.1 dX4_setWay_12 rfl (lv_at hl 3 rfl) ?_
  refine as_52G X hK hG hS hq11 (iv_vpin h1 (by decide +kernel)) dX4_setWay_13 (fun H locs hG hS => ?_)
  rw [show (x1 : Int32).toNatClampNeg = 0 from sg_cl h1 (by decide)] at hG
  have hG : sgG (KG a a w1 w2 (zSet (zSet z 2 0 ((x2).toInt)) 3 0 ((x3).toInt)) P) D vwCl _ tys ad ks _ := hG
  refine lv_aload_n X.1 X.2.1 dX4_setWay_14 rfl (lv_at hl 0 rfl) ?_
  refine gf_X4_6g X hK hG h0 wl_1_222 dX4_setWay_15 (fun f12 hf12 => ?_)
  have wf12 : f12 = al := Int32.toInt_inj.mp (vq_pin (t := (al).toInt) hal hf12)
  refine lv_istore (lv' := [(4, .int f12), (0, .ref a0), (1, .int x1), (2, .int x2), (3, .int x3)]) X.1 X.2.1 dX4_setWay_18 hl (by decide) rfl (fun ls hl => ?_)
  refine lv_iconst (v := 1) X.1 X.2.1 dX4_setWay_20 (by decide +kernel) ?_
  refine lv_istore (lv' := [(5, .int 1), (4, .int f12), (0, .ref a0), (1, .int x1), (2, .int x2), (3, .int x3)]) X.1 X.2.1 dX4_setWay_21 hl (by decide) rfl (fun ls hl => ?_)
  have B13_23 : ∀ (N : Nat) (locs : List Loc) (ls : Array Slot) (z13_4 : Int32) (z13_5 : Int32), va_S (fun q : Nat => base ≤ q) s.heap H locs → lv_has ls 6 [(0, .ref a0), (1, .int x1), (2, .int x2), (3, .int x3), (4, .int z13_4), (5, .int z13_5)] → iv 1 5 z13_5 → (z13_4 = vSw x3 x2 ((z13_5 : Int32).toInt - 1).toNat al ∧ (z13_5 : Int32).toInt ≤ L) → (6 - z13_5.toInt).toNat ≤ N → W p l e (headSpec (Cond.code yX4_setWay cX4_setWay 6 none :: sg_tbl) ({ frames := 0, cells := 0, slots := 0, locals := 0 })).room s m #[.ref a0, .int x1, .int x2, .int x3] below meth c H locs 0 0 (MQ below (va_Qv (fun (_ : Unit) => True) (fun _ => fun t => sgB (KG a a w1 w2 (zSet (zSet (zSet z 2 0 x2.toInt) 3 0 x3.toInt) 4 0 (vSw x3 x2 (L - 1).toNat al).toInt) P) D vwCl base tys ad ks t) (fun q : Nat => base ≤ q)) #[.ref a0, .int x1, .int x2, .int x3] s 0 0 (fun q : Nat => base ≤ q)) (F0 m 23 ls []) := by
    intro N; induction N with
    | zero =>
      intro locs ls z13_4 z13_5 hS hl hz13_5 xf13 hN
      exact absurd hN (by have := iv_up hz13_5; omega)
    | succ N ih13 =>
      intro locs ls z13_4 z13_5 hS hl hz13_5 xf13 hN13
      refine lv_iload X.1 X.2.1 dX4_setWay_23 (lv_at hl 5 rfl) ?_
      refine lv_aload_n X.1 X.2.1 dX4_setWay_25 rfl (lv_at hl 0 rfl) ?_
      refine gf_X4_0g X hK hG h0 wl_1_209 dX4_setWay_26 (fun q14 hq14 => ?_)
      refine lv_iconst (v := 2) X.1 X.2.1 dX4_setWay_29 (by decide +kernel) ?_
      refine al_50g X hK hG hq14 (iv_vpin (iv_c 2 (a := 2) (b := 2) (by decide +kernel)) (by decide +kernel)) dX4_setWay_30 (fun f15 hf15 => ?_)
      have xf15 : f15.toInt = L := vq_pin (t := L) hz12 (zk_at (z := (zSet (zSet z 2 0 ((x2).toInt)) 3 0 ((x3).toInt))) (a := 1) (sg_cl (iv_c 2 (a := 2) (b := 2) (by decide +kernel)) (by decide)) hf15)
      have yf15 : iv 2 5 f15 := vq_of xf15 hL
      refine lv_icmp_ge (tgt := 48) X.1 X.2.1 dX4_setWay_31 (by decide) (fun c16 => ?_) (fun c16 => ?_)
      · have i17 : ¬ z13_5.toInt < L := vq_le c16 xf15 rfl
        have hzz : z13_4 = vSw x3 x2 (L - 1).toNat al := xf13.1.trans (by rw [show z13_5.toInt = L from Int.le_antisymm xf13.2 (Int.not_lt.mp i17)])
        refine lv_aload_n X.1 X.2.1 dX4_setWay_48 rfl (lv_at hl 0 rfl) ?_
        refine gf_X4_4g X hK hG h0 wl_1_216 dX4_setWay_49 (fun q19 hq19 => ?_)
        refine lv_iload_n X.1 X.2.1 dX4_setWay_52 rfl (lv_at hl 1 rfl) ?_
        refine lv_iload X.1 X.2.1 dX4_setWay_53 (lv_at hl 4 rfl) ?_
        refine as_53G X hK hG hS hq19 (iv_vpin h1 (by decide +kernel)) dX4_setWay_55 (fun H locs hG hS => ?_)
        rw [show (x1 : Int32).toNatClampNeg = 0 from sg_cl h1 (by decide)] at hG
        rw [hzz] at hG
        have hG : sgG (KG a a w1 w2 (zSet (zSet (zSet z 2 0 ((x2).toInt)) 3 0 ((x3).toInt)) 4 0 (((vSw x3 x2 (L - 1).toNat al)).toInt)) P) D vwCl _ tys ad ks _ := hG
        exact sg_vret2 X hr hlk hS (fun t ht hW => sg_post hb hK hC hG hS ht hW) dX4_setWay_56
      · have i18 : z13_5.toInt < L := vq_lt (iv_gt_of c16) rfl xf15
        refine lv_iload_n X.1 X.2.1 dX4_setWay_34 rfl (lv_at hl 3 rfl) ?_
        refine lv_iload X.1 X.2.1 dX4_setWay_35 (lv_at hl 4 rfl) ?_
        refine lv_iload_n X.1 X.2.1 dX4_setWay_37 rfl (lv_at hl 2 rfl) ?_
        obtain ⟨f20, ef20⟩ : ∃ y : Int32, y = (z13_4.toUInt32 >>> ((x2 : Int32).toUInt32 &&& Int32.toUInt32 31)).toInt32 := ⟨_, rfl⟩
        refine lv_iushr (v := f20) X.1 X.2.1 dX4_setWay_38 ef20.symm ?_
        have wf20 : f20 = (vShr z13_4 x2) := ef20
        refine lv_iand X.1 X.2.1 dX4_setWay_39 ?_
        refine lv_topi (fun f21 ef21 => ?_)
        have wf21 : f21 = (x3 &&& (vShr z13_4 x2)) := ef21.trans (by rw [wf20])
        refine lv_istore (lv' := [(4, .int f21), (0, .ref a0), (1, .int x1), (2, .int x2), (3, .int x3), (5, .int z13_5)]) X.1 X.2.1 dX4_setWay_40 hl (by decide) rfl (fun ls hl => ?_)
        obtain ⟨y22, ey22⟩ : ∃ y : Int32, y = z13_5 + Int32.ofInt 1 := ⟨_, rfl⟩
        have xy22 : y22.toInt = (z13_5.toInt + 1) := sg_exadd ey22 (iv_lt (b' := 4) (iv_gt_of c16) hz13_5 yf15 (by decide +kernel)) (iv_c _ (a := 1) (b := 1) (by decide +kernel)) (by decide +kernel) rfl (by decide +kernel)
        refine lv_iinc (v := y22) (lv' := [(5, .int y22), (4, .int f21), (0, .ref a0), (1, .int x1), (2, .int x2), (3, .int x3)]) X.1 X.2.1 dX4_setWay_42 hl (k := 5) rfl ey22.symm (by decide) rfl (fun ls hl => ?_)
        refine lv_goto (tgt := 23) X.1 X.2.1 dX4_setWay_45 (by decide) ?_
        exact ih13 _ _ f21 y22 hS (lv_sub hl [2, 3, 4, 5, 1, 0] rfl) (iv_of (iv_add (a' := 2) (b' := 5) ey22 (iv_lt (b' := 4) (iv_gt_of c16) hz13_5 yf15 (by decide +kernel)) (iv_c _ (a := 1) (b := 1) (by decide +kernel)) (by decide +kernel)) (a' := 1) (b' := 5) (by decide +kernel)) ⟨vSw_s xf13.1 (hz13_5).1 xy22 wf21, by rw [xy22]; omega⟩ (iv_stepU ey22 (iv_lt (b' := 4) (iv_gt_of c16) hz13_5 yf15 (by decide +kernel)) (by decide +kernel) hN13)
  exact B13_23 _ _ _ f12 1 hS (lv_sub hl [2, 3, 4, 5, 1, 0] rfl) (iv_of (iv_c 1 (a := 1) (b := 1) (by decide +kernel)) (a' := 1) (b' := 5) (by decide +kernel)) ⟨wf12.trans (by rw [show ((1 : Int32).toInt - 1).toNat = 0 from by decide +kernel]; rfl), by rw [show (1 : Int32).toInt = 1 from by decide +kernel]; omega⟩ (Nat.le_refl _)

theorem ca_X4_setWay_g0  {a w1 w2 L : Int} {al : Int32} {z : sgZg}  (X : CallFix p m c cc nL s args sg_tbl own) (hK : va_K D vwCl tys s) (hG : sgG (KG a a w1 w2 z P) D vwCl (fun q : Nat => base ≤ q) tys ad ks H) (hC : sgC base s) (hS : va_S (fun q : Nat => base ≤ q) s.heap H locs) (hb : base ≤ s.heap.size) (a0 : Nat) (h0 : isK ad ks 2 a0) (x1 : Int32) (h1 : iv 0 0 x1) (x2 : Int32) (x3 : Int32) (hz12 : z 1 2 = (L, L)) (hal : z 0 6 = (al.toInt, al.toInt)) (hL : 2 ≤ L ∧ L ≤ 5) (hl : Cond.methodLink own index yX4_setWay ∈ sg_tbl) (hsize : ls.size = nL) (hst : st0 = [.int x1, .int x2, .int x3].reverse ++ .ref a0 :: rest) (hW : (rest.map fun v => v.category).sum ≤ 8) (hR : 1 ≤ R.frames ∧ 25 ≤ R.locals) (hf : cells ≤ R.cells ∧ slots ≤ R.slots) (hdg : decode cc pc = .ok (.invokevirtual index, 3)) (kk : ∀ (t : State) (H1 : Heap) (locs1 : List Loc), t.heap = H1 → ((fun t => sgB (KG a a w1 w2 (zSet (zSet (zSet z 2 0 x2.toInt) 3 0 x3.toInt) 4 0 (vSw x3 x2 (L - 1).toNat al).toInt) P) D vwCl base tys ad ks t) t) → va_S (fun q : Nat => base ≤ q) s.heap H1 locs1 → W p l e R s m args below meth c H1 locs1 cells slots Q (F0 m (pc + 3) ls rest)) : W p l e R s m args below meth c H locs cells slots Q (F0 m pc ls st0) :=
  sg_callV2v X hK hG hC hS hb (m_X4_setWay_g0 l a0 h0 x1 h1 x2 x3 hz12 hal hL) h0 (k := 2) (ci := 4) rfl (C := RX4) (T := TX4) (N := 15) rfl wl_3_188 wl_1_7 wl_3_187 wl_0_7 (n := 3) (by decide +kernel) rfl rfl rfl hl hsize hst hW hR hf hdg kk

set_option maxHeartbeats 8000000 in
set_option maxRecDepth 100000 in
theorem m_X4_setWay_g1 (l : Launch) {D : va_G} {base : Nat} {tys : List (ClassId × FieldType)} {ad ks : List Nat} {P : sgPm}{a w1 w2 L : Int} {al : Int32} {z : sgZg}  (a0 : Nat) (h0 : isK ad ks 2 a0) (x1 : Int32) (h1 : iv 1 1 x1) (x2 : Int32) (x3 : Int32) (hz12 : z 1 2 = (L, L)) (hal : z 0 6 = (al.toInt, al.toInt)) (hL : 2 ≤ L ∧ L ≤ 5) : Met l yX4_setWay (Cond.code yX4_setWay cX4_setWay 6 none :: sg_tbl) ({ frames := 0, cells := 0, slots := 0, locals := 0 }) (va_Pc [.ref a0, .int x1, .int x2, .int x3] (sgB (KG a a w1 w2 z P) D vwCl base tys ad ks)) (va_Qv (fun (_ : Unit) => True) (fun _ => fun t => sgB (KG a a w1 w2 (zSet (zSet (zSet z 2 1 x2.toInt) 3 1 x3.toInt) 4 1 (vSw x3 x2 (L - 1).toNat al).toInt) P) D vwCl base tys ad ks t) (fun q : Nat => base ≤ q)) 0 0 (fun q : Nat => base ≤ q) := by
  refine sg_ofW (by decide +kernel) (Nat.le_of_ble_eq_true rfl) (fun p e s m below meth c X hr hlk hb hK hC hG ls hl => ?_)
  have hS : va_S (fun q : Nat => base ≤ q) s.heap s.heap [] := va_S.rf
  have hl : lv_has ls 6 [(0, .ref a0), (1, .int x1), (2, .int x2), (3, .int x3)] := hl
  refine lv_aload_n X.1 X.2.1 dX4_setWay_0 rfl (lv_at hl 0 rfl) ?_
  refine gf_X4_2g X hK hG h0 wl_1_214 dX4_setWay_1 (fun q10 hq10 => ?_)
  refine lv_iload_n X.1 X.2.1 dX4_setWay_4 rfl (lv_at hl 1 rfl) ?_
  refine lv_iload_n X.1 X.2.1 dX4_setWay_5 rfl (lv_at hl 2 rfl) ?_
  refine as_51G X hK hG hS hq10 (iv_vpin h1 (by decide +kernel)) dX4_setWay_6 (fun H locs hG hS => ?_)
  rw [show (x1 : Int32).toNatClampNeg = 1 from sg_cl h1 (by decide)] at hG
  have hG : sgG (KG a a w1 w2 (zSet z 2 1 ((x2).toInt)) P) D vwCl _ tys ad ks _ := hG
  refine lv_aload_n X.1 X.2.1 dX4_setWay_7 rfl (lv_at hl 0 rfl) ?_
  refine gf_X4_3g X hK hG h0 wl_1_215 dX4_setWay_8 (fun q11 hq11 => ?_)
  refine lv_iload_n X.1 X.2.1 dX4_setWay_11 rfl (lv_at hl 1 rfl) ?_
  refine lv_iload_n X.1 X.2.1 dX4_setWay_12 rfl (lv_at hl 3 rfl) ?_
  refine as_52G X hK hG hS hq11 (iv_vpin h1 (by decide +kernel)) dX4_setWay_13 (fun H locs hG hS => ?_)
  rw [show (x1 : Int32).toNatClampNeg = 1 from sg_cl h1 (by decide)] at hG
  have hG : sgG (KG a a w1 w2 (zSet (zSet z 2 1 ((x2).toInt)) 3 1 ((x3).toInt)) P) D vwCl _ tys ad ks _ := hG
  refine lv_aload_n X.1 X.2.1 dX4_setWay_14 rfl (lv_at hl 0 rfl) ?_
  refine gf_X4_6g X hK hG h0 wl_1_222 dX4_setWay_15 (fun f12 hf12 => ?_)
  have wf12 : f12 = al := Int32.toInt_inj.mp (vq_pin (t := (al).toInt) hal hf12)
  refine lv_istore (lv' := [(4, .int f12), (0, .ref a0), (1, .int x1), (2, .int x2), (3, .int x3)]) X.1 X.2.1 dX4_setWay_18 hl (by decide) rfl (fun ls hl => ?_)
  refine lv_iconst (v := 1) X.1 X.2.1 dX4_setWay_20 (by decide +kernel) ?_
  refine lv_istore (lv' := [(5, .int 1), (4, .int f12), (0, .ref a0), (1, .int x1), (2, .int x2), (3, .int x3)]) X.1 X.2.1 dX4_setWay_21 hl (by decide) rfl (fun ls hl => ?_)
  have B13_23 : ∀ (N : Nat) (locs : List Loc) (ls : Array Slot) (z13_4 : Int32) (z13_5 : Int32), va_S (fun q : Nat => base ≤ q) s.heap H locs → lv_has ls 6 [(0, .ref a0), (1, .int x1), (2, .int x2), (3, .int x3), (4, .int z13_4), (5, .int z13_5)] → iv 1 5 z13_5 → (z13_4 = vSw x3 x2 ((z13_5 : Int32).toInt - 1).toNat al ∧ (z13_5 : Int32).toInt ≤ L) → (6 - z13_5.toInt).toNat ≤ N → W p l e (headSpec (Cond.code yX4_setWay cX4_setWay 6 none :: sg_tbl) ({ frames := 0, cells := 0, slots := 0, locals := 0 })).room s m #[.ref a0, .int x1, .int x2, .int x3] below meth c H locs 0 0 (MQ below (va_Qv (fun (_ : Unit) => True) (fun _ => fun t => sgB (KG a a w1 w2 (zSet (zSet (zSet z 2 1 x2.toInt) 3 1 x3.toInt) 4 1 (vSw x3 x2 (L - 1).toNat al).toInt) P) D vwCl base tys ad ks t) (fun q : Nat => base ≤ q)) #[.ref a0, .int x1, .int x2, .int x3] s 0 0 (fun q : Nat => base ≤ q)) (F0 m 23 ls []) := by
    intro N; induction N with
    | zero =>
      intro locs ls z13_4 z13_5 hS hl hz13_5 xf13 hN
      exact absurd hN (by have := iv_up hz13_5; omega)
    | succ N ih13 =>
      intro locs ls z13_4 z13_5 hS hl hz13_5 xf13 hN13
      refine lv_iload X.1 X.2.1 dX4_setWay_23 (lv_at hl 5 rfl) ?_
      refine lv_aload_n X.1 X.2.1 dX4_setWay_25 rfl (lv_at hl 0 rfl) ?_
      refine gf_X4_0g X hK hG h0 wl_1_209 dX4_setWay_26 (fun q14 hq14 => ?_)
      refine lv_iconst (v := 2) X.1 X.2.1 dX4_setWay_29 (by decide +kernel) ?_
      refine al_50g X hK hG hq14 (iv_vpin (iv_c 2 (a := 2) (b := 2) (by decide +kernel)) (by decide +kernel)) dX4_setWay_30 (fun f15 hf15 => ?_)
      have xf15 : f15.toInt = L := vq_pin (t := L) hz12 (zk_at (z := (zSet (zSet z 2 1 ((x2).toInt)) 3 1 ((x3).toInt))) (a := 1) (sg_cl (iv_c 2 (a := 2) (b := 2) (by decide +kernel)) (by decide)) hf15)
      have yf15 : iv 2 5 f15 := vq_of xf15 hL
      refine lv_icmp_ge (tgt := 48) X.1 X.2.1 dX4_setWay_31 (by decide) (fun c16 => ?_) (fun c16 => ?_)
      · have i17 : ¬ z13_5.toInt < L := vq_le c16 xf15 rfl
        have hzz : z13_4 = vSw x3 x2 (L - 1).toNat al := xf13.1.trans (by rw [show z13_5.toInt = L from Int.le_antisymm xf13.2 (Int.not_lt.mp i17)])
        refine lv_aload_n X.1 X.2.1 dX4_setWay_48 rfl (lv_at hl 0 rfl) ?_
        refine gf_X4_4g X hK hG h0 wl_1_216 dX4_setWay_49 (fun q19 hq19 => ?_)
        refine lv_iload_n X.1 X.2.1 dX4_setWay_52 rfl (lv_at hl 1 rfl) ?_
        refine lv_iload X.1 X.2.1 dX4_setWay_53 (lv_at hl 4 rfl) ?_
        refine as_53G X hK hG hS hq19 (iv_vpin h1 (by decide +kernel)) dX4_setWay_55 (fun H locs hG hS => ?_)
        rw [show (x1 : Int32).toNatClampNeg = 1 from sg_cl h1 (by decide)] at hG
        rw [hzz] at hG
        have hG : sgG (KG a a w1 w2 (zSet (zSet (zSet z 2 1 ((x2).toInt)) 3 1 ((x3).toInt)) 4 1 (((vSw x3 x2 (L - 1).toNat al)).toInt)) P) D vwCl _ tys ad ks _ := hG
        exact sg_vret2 X hr hlk hS (fun t ht hW => sg_post hb hK hC hG hS ht hW) dX4_setWay_56
      · have i18 : z13_5.toInt < L := vq_lt (iv_gt_of c16) rfl xf15
        refine lv_iload_n X.1 X.2.1 dX4_setWay_34 rfl (lv_at hl 3 rfl) ?_
        refine lv_iload X.1 X.2.1 dX4_setWay_35 (lv_at hl 4 rfl) ?_
        refine lv_iload_n X.1 X.2.1 dX4_setWay_37 rfl (lv_at hl 2 rfl) ?_
        obtain ⟨f20, ef20⟩ : ∃ y : Int32, y = (z13_4.toUInt32 >>> ((x2 : Int32).toUInt32 &&& Int32.toUInt32 31)).toInt32 := ⟨_, rfl⟩
        refine lv_iushr (v := f20) X.1 X.2.1 dX4_setWay_38 ef20.symm ?_
        have wf20 : f20 = (vShr z13_4 x2) := ef20
        refine lv_iand X.1 X.2.1 dX4_setWay_39 ?_
        refine lv_topi (fun f21 ef21 => ?_)
        have wf21 : f21 = (x3 &&& (vShr z13_4 x2)) := ef21.trans (by rw [wf20])
        refine lv_istore (lv' := [(4, .int f21), (0, .ref a0), (1, .int x1), (2, .int x2), (3, .int x3), (5, .int z13_5)]) X.1 X.2.1 dX4_setWay_40 hl (by decide) rfl (fun ls hl => ?_)
        obtain ⟨y22, ey22⟩ : ∃ y : Int32, y = z13_5 + Int32.ofInt 1 := ⟨_, rfl⟩
        have xy22 : y22.toInt = (z13_5.toInt + 1) := sg_exadd ey22 (iv_lt (b' := 4) (iv_gt_of c16) hz13_5 yf15 (by decide +kernel)) (iv_c _ (a := 1) (b := 1) (by decide +kernel)) (by decide +kernel) rfl (by decide +kernel)
        refine lv_iinc (v := y22) (lv' := [(5, .int y22), (4, .int f21), (0, .ref a0), (1, .int x1), (2, .int x2), (3, .int x3)]) X.1 X.2.1 dX4_setWay_42 hl (k := 5) rfl ey22.symm (by decide) rfl (fun ls hl => ?_)
        refine lv_goto (tgt := 23) X.1 X.2.1 dX4_setWay_45 (by decide) ?_
        exact ih13 _ _ f21 y22 hS (lv_sub hl [2, 3, 4, 5, 1, 0] rfl) (iv_of (iv_add (a' := 2) (b' := 5) ey22 (iv_lt (b' := 4) (iv_gt_of c16) hz13_5 yf15 (by decide +kernel)) (iv_c _ (a := 1) (b := 1) (by decide +kernel)) (by decide +kernel)) (a' := 1) (b' := 5) (by decide +kernel)) ⟨vSw_s xf13.1 (hz13_5).1 xy22 wf21, by rw [xy22]; omega⟩ (iv_stepU ey22 (iv_lt (b' := 4) (iv_gt_of c16) hz13_5 yf15 (by decide +kernel)) (by decide +kernel) hN13)
  exact B13_23 _ _ _ f12 1 hS (lv_sub hl [2, 3, 4, 5, 1, 0] rfl) (iv_of (iv_c 1 (a := 1) (b := 1) (by decide +kernel)) (a' := 1) (b' := 5) (by decide +kernel)) ⟨wf12.trans (by rw [show ((1 : Int32).toInt - 1).toNat = 0 from by decide +kernel]; rfl), by rw [show (1 : Int32).toInt = 1 from by decide +kernel]; omega⟩ (Nat.le_refl _)

theorem ca_X4_setWay_g1  {a w1 w2 L : Int} {al : Int32} {z : sgZg}  (X : CallFix p m c cc nL s args sg_tbl own) (hK : va_K D vwCl tys s) (hG : sgG (KG a a w1 w2 z P) D vwCl (fun q : Nat => base ≤ q) tys ad ks H) (hC : sgC base s) (hS : va_S (fun q : Nat => base ≤ q) s.heap H locs) (hb : base ≤ s.heap.size) (a0 : Nat) (h0 : isK ad ks 2 a0) (x1 : Int32) (h1 : iv 1 1 x1) (x2 : Int32) (x3 : Int32) (hz12 : z 1 2 = (L, L)) (hal : z 0 6 = (al.toInt, al.toInt)) (hL : 2 ≤ L ∧ L ≤ 5) (hl : Cond.methodLink own index yX4_setWay ∈ sg_tbl) (hsize : ls.size = nL) (hst : st0 = [.int x1, .int x2, .int x3].reverse ++ .ref a0 :: rest) (hW : (rest.map fun v => v.category).sum ≤ 8) (hR : 1 ≤ R.frames ∧ 25 ≤ R.locals) (hf : cells ≤ R.cells ∧ slots ≤ R.slots) (hdg : decode cc pc = .ok (.invokevirtual index, 3)) (kk : ∀ (t : State) (H1 : Heap) (locs1 : List Loc), t.heap = H1 → ((fun t => sgB (KG a a w1 w2 (zSet (zSet (zSet z 2 1 x2.toInt) 3 1 x3.toInt) 4 1 (vSw x3 x2 (L - 1).toNat al).toInt) P) D vwCl base tys ad ks t) t) → va_S (fun q : Nat => base ≤ q) s.heap H1 locs1 → W p l e R s m args below meth c H1 locs1 cells slots Q (F0 m (pc + 3) ls rest)) : W p l e R s m args below meth c H locs cells slots Q (F0 m pc ls st0) :=
  sg_callV2v X hK hG hC hS hb (m_X4_setWay_g1 l a0 h0 x1 h1 x2 x3 hz12 hal hL) h0 (k := 2) (ci := 4) rfl (C := RX4) (T := TX4) (N := 15) rfl wl_3_188 wl_1_7 wl_3_187 wl_0_7 (n := 3) (by decide +kernel) rfl rfl rfl hl hsize hst hW hR hf hdg kk

set_option maxHeartbeats 8000000 in
set_option maxRecDepth 100000 in
theorem m_X4_setWay_g2 (l : Launch) {D : va_G} {base : Nat} {tys : List (ClassId × FieldType)} {ad ks : List Nat} {P : sgPm}{a w1 w2 L : Int} {al : Int32} {z : sgZg}  (a0 : Nat) (h0 : isK ad ks 2 a0) (x1 : Int32) (h1 : iv 2 2 x1) (x2 : Int32) (x3 : Int32) (hz12 : z 1 2 = (L, L)) (hal : z 0 6 = (al.toInt, al.toInt)) (hL : 2 ≤ L ∧ L ≤ 5) : Met l yX4_setWay (Cond.code yX4_setWay cX4_setWay 6 none :: sg_tbl) ({ frames := 0, cells := 0, slots := 0, locals := 0 }) (va_Pc [.ref a0, .int x1, .int x2, .int x3] (sgB (KG a a w1 w2 z P) D vwCl base tys ad ks)) (va_Qv (fun (_ : Unit) => True) (fun _ => fun t => sgB (KG a a w1 w2 (zSet (zSet (zSet z 2 2 x2.toInt) 3 2 x3.toInt) 4 2 (vSw x3 x2 (L - 1).toNat al).toInt) P) D vwCl base tys ad ks t) (fun q : Nat => base ≤ q)) 0 0 (fun q : Nat => base ≤ q) := by
  refine sg_ofW (by decide +kernel) (Nat.le_of_ble_eq_true rfl) (fun p e s m below meth c X hr hlk hb hK hC hG ls hl => ?_)
  have hS : va_S (fun q : Nat => base ≤ q) s.heap s.heap [] := va_S.rf
  have hl : lv_has ls 6 [(0, .ref a0), (1, .int x1), (2, .int x2), (3, .int x3)] := hl
  refine lv_aload_n X.1 X.2.1 dX4_setWay_0 rfl (lv_at hl 0 rfl) ?_
  refine gf_X4_2g X hK hG h0 wl_1_214 dX4_setWay_1 (fun q10 hq10 => ?_)
  refine lv_iload_n X.1 X.2.1 dX4_setWay_4 rfl (lv_at hl 1 rfl) ?_
  refine lv_iload_n X.1 X.2.1 dX4_setWay_5 rfl (lv_at hl 2 rfl) ?_
  refine as_51G X hK hG hS hq10 (iv_vpin h1 (by decide +kernel)) dX4_setWay_6 (fun H locs hG hS => ?_)
  rw [show (x1 : Int32).toNatClampNeg = 2 from sg_cl h1 (by decide)] at hG
  have hG : sgG (KG a a w1 w2 (zSet z 2 2 ((x2).toInt)) P) D vwCl _ tys ad ks _ := hG
  refine lv_aload_n X.1 X.2.1 dX4_setWay_7 rfl (lv_at hl 0 rfl) ?_
  refine gf_X4_3g X hK hG h0 wl_1_215 dX4_setWay_8 (fun q11 hq11 => ?_)
  refine lv_iload_n X.1 X.2.1 dX4_setWay_11 rfl (lv_at hl 1 rfl) ?_
  refine lv_iload_n X.1 X.2.1 dX4_setWay_12 rfl (lv_at hl 3 rfl) ?_
  refine as_52G X hK hG hS hq11 (iv_vpin h1 (by decide +kernel)) dX4_setWay_13 (fun H locs hG hS => ?_)
  rw [show (x1 : Int32).toNatClampNeg = 2 from sg_cl h1 (by decide)] at hG
  have hG : sgG (KG a a w1 w2 (zSet (zSet z 2 2 ((x2).toInt)) 3 2 ((x3).toInt)) P) D vwCl _ tys ad ks _ := hG
  refine lv_aload_n X.1 X.2.1 dX4_setWay_14 rfl (lv_at hl 0 rfl) ?_
  refine gf_X4_6g X hK hG h0 wl_1_222 dX4_setWay_15 (fun f12 hf12 => ?_)
  have wf12 : f12 = al := Int32.toInt_inj.mp (vq_pin (t := (al).toInt) hal hf12)
  refine lv_istore (lv' := [(4, .int f12), (0, .ref a0), (1, .int x1), (2, .int x2), (3, .int x3)]) X.1 X.2.1 dX4_setWay_18 hl (by decide) rfl (fun ls hl => ?_)
  refine lv_iconst (v := 1) X.1 X.2.1 dX4_setWay_20 (by decide +kernel) ?_
  refine lv_istore (lv' := [(5, .int 1), (4, .int f12), (0, .ref a0), (1, .int x1), (2, .int x2), (3, .int x3)]) X.1 X.2.1 dX4_setWay_21 hl (by decide) rfl (fun ls hl => ?_)
  have B13_23 : ∀ (N : Nat) (locs : List Loc) (ls : Array Slot) (z13_4 : Int32) (z13_5 : Int32), va_S (fun q : Nat => base ≤ q) s.heap H locs → lv_has ls 6 [(0, .ref a0), (1, .int x1), (2, .int x2), (3, .int x3), (4, .int z13_4), (5, .int z13_5)] → iv 1 5 z13_5 → (z13_4 = vSw x3 x2 ((z13_5 : Int32).toInt - 1).toNat al ∧ (z13_5 : Int32).toInt ≤ L) → (6 - z13_5.toInt).toNat ≤ N → W p l e (headSpec (Cond.code yX4_setWay cX4_setWay 6 none :: sg_tbl) ({ frames := 0, cells := 0, slots := 0, locals := 0 })).room s m #[.ref a0, .int x1, .int x2, .int x3] below meth c H locs 0 0 (MQ below (va_Qv (fun (_ : Unit) => True) (fun _ => fun t => sgB (KG a a w1 w2 (zSet (zSet (zSet z 2 2 x2.toInt) 3 2 x3.toInt) 4 2 (vSw x3 x2 (L - 1).toNat al).toInt) P) D vwCl base tys ad ks t) (fun q : Nat => base ≤ q)) #[.ref a0, .int x1, .int x2, .int x3] s 0 0 (fun q : Nat => base ≤ q)) (F0 m 23 ls []) := by
    intro N; induction N with
    | zero =>
      intro locs ls z13_4 z13_5 hS hl hz13_5 xf13 hN
      exact absurd hN (by have := iv_up hz13_5; omega)
    | succ N ih13 =>
      intro locs ls z13_4 z13_5 hS hl hz13_5 xf13 hN13
      refine lv_iload X.1 X.2.1 dX4_setWay_23 (lv_at hl 5 rfl) ?_
      refine lv_aload_n X.1 X.2.1 dX4_setWay_25 rfl (lv_at hl 0 rfl) ?_
      refine gf_X4_0g X hK hG h0 wl_1_209 dX4_setWay_26 (fun q14 hq14 => ?_)
      refine lv_iconst (v := 2) X.1 X.2.1 dX4_setWay_29 (by decide +kernel) ?_
      refine al_50g X hK hG hq14 (iv_vpin (iv_c 2 (a := 2) (b := 2) (by decide +kernel)) (by decide +kernel)) dX4_setWay_30 (fun f15 hf15 => ?_)
      have xf15 : f15.toInt = L := vq_pin (t := L) hz12 (zk_at (z := (zSet (zSet z 2 2 ((x2).toInt)) 3 2 ((x3).toInt))) (a := 1) (sg_cl (iv_c 2 (a := 2) (b := 2) (by decide +kernel)) (by decide)) hf15)
      have yf15 : iv 2 5 f15 := vq_of xf15 hL
      refine lv_icmp_ge (tgt := 48) X.1 X.2.1 dX4_setWay_31 (by decide) (fun c16 => ?_) (fun c16 => ?_)
      · have i17 : ¬ z13_5.toInt < L := vq_le c16 xf15 rfl
        have hzz : z13_4 = vSw x3 x2 (L - 1).toNat al := xf13.1.trans (by rw [show z13_5.toInt = L from Int.le_antisymm xf13.2 (Int.not_lt.mp i17)])
        refine lv_aload_n X.1 X.2.1 dX4_setWay_48 rfl (lv_at hl 0 rfl) ?_
        refine gf_X4_4g X hK hG h0 wl_1_216 dX4_setWay_49 (fun q19 hq19 => ?_)
        refine lv_iload_n X.1 X.2.1 dX4_setWay_52 rfl (lv_at hl 1 rfl) ?_
        refine lv_iload X.1 X.2.1 dX4_setWay_53 (lv_at hl 4 rfl) ?_
        refine as_53G X hK hG hS hq19 (iv_vpin h1 (by decide +kernel)) dX4_setWay_55 (fun H locs hG hS => ?_)
        rw [show (x1 : Int32).toNatClampNeg = 2 from sg_cl h1 (by decide)] at hG
        rw [hzz] at hG
        have hG : sgG (KG a a w1 w2 (zSet (zSet (zSet z 2 2 ((x2).toInt)) 3 2 ((x3).toInt)) 4 2 (((vSw x3 x2 (L - 1).toNat al)).toInt)) P) D vwCl _ tys ad ks _ := hG
        exact sg_vret2 X hr hlk hS (fun t ht hW => sg_post hb hK hC hG hS ht hW) dX4_setWay_56
      · have i18 : z13_5.toInt < L := vq_lt (iv_gt_of c16) rfl xf15
        refine lv_iload_n X.1 X.2.1 dX4_setWay_34 rfl (lv_at hl 3 rfl) ?_
        refine lv_iload X.1 X.2.1 dX4_setWay_35 (lv_at hl 4 rfl) ?_
        refine lv_iload_n X.1 X.2.1 dX4_setWay_37 rfl (lv_at hl 2 rfl) ?_
        obtain ⟨f20, ef20⟩ : ∃ y : Int32, y = (z13_4.toUInt32 >>> ((x2 : Int32).toUInt32 &&& Int32.toUInt32 31)).toInt32 := ⟨_, rfl⟩
        refine lv_iushr (v := f20) X.1 X.2.1 dX4_setWay_38 ef20.symm ?_
        have wf20 : f20 = (vShr z13_4 x2) := ef20
        refine lv_iand X.1 X.2.1 dX4_setWay_39 ?_
        refine lv_topi (fun f21 ef21 => ?_)
        have wf21 : f21 = (x3 &&& (vShr z13_4 x2)) := ef21.trans (by rw [wf20])
        refine lv_istore (lv' := [(4, .int f21), (0, .ref a0), (1, .int x1), (2, .int x2), (3, .int x3), (5, .int z13_5)]) X.1 X.2.1 dX4_setWay_40 hl (by decide) rfl (fun ls hl => ?_)
        obtain ⟨y22, ey22⟩ : ∃ y : Int32, y = z13_5 + Int32.ofInt 1 := ⟨_, rfl⟩
        have xy22 : y22.toInt = (z13_5.toInt + 1) := sg_exadd ey22 (iv_lt (b' := 4) (iv_gt_of c16) hz13_5 yf15 (by decide +kernel)) (iv_c _ (a := 1) (b := 1) (by decide +kernel)) (by decide +kernel) rfl (by decide +kernel)
        refine lv_iinc (v := y22) (lv' := [(5, .int y22), (4, .int f21), (0, .ref a0), (1, .int x1), (2, .int x2), (3, .int x3)]) X.1 X.2.1 dX4_setWay_42 hl (k := 5) rfl ey22.symm (by decide) rfl (fun ls hl => ?_)
        refine lv_goto (tgt := 23) X.1 X.2.1 dX4_setWay_45 (by decide) ?_
        exact ih13 _ _ f21 y22 hS (lv_sub hl [2, 3, 4, 5, 1, 0] rfl) (iv_of (iv_add (a' := 2) (b' := 5) ey22 (iv_lt (b' := 4) (iv_gt_of c16) hz13_5 yf15 (by decide +kernel)) (iv_c _ (a := 1) (b := 1) (by decide +kernel)) (by decide +kernel)) (a' := 1) (b' := 5) (by decide +kernel)) ⟨vSw_s xf13.1 (hz13_5).1 xy22 wf21, by rw [xy22]; omega⟩ (iv_stepU ey22 (iv_lt (b' := 4) (iv_gt_of c16) hz13_5 yf15 (by decide +kernel)) (by decide +kernel) hN13)
  exact B13_23 _ _ _ f12 1 hS (lv_sub hl [2, 3, 4, 5, 1, 0] rfl) (iv_of (iv_c 1 (a := 1) (b := 1) (by decide +kernel)) (a' := 1) (b' := 5) (by decide +kernel)) ⟨wf12.trans (by rw [show ((1 : Int32).toInt - 1).toNat = 0 from by decide +kernel]; rfl), by rw [show (1 : Int32).toInt = 1 from by decide +kernel]; omega⟩ (Nat.le_refl _)

theorem ca_X4_setWay_g2  {a w1 w2 L : Int} {al : Int32} {z : sgZg}  (X : CallFix p m c cc nL s args sg_tbl own) (hK : va_K D vwCl tys s) (hG : sgG (KG a a w1 w2 z P) D vwCl (fun q : Nat => base ≤ q) tys ad ks H) (hC : sgC base s) (hS : va_S (fun q : Nat => base ≤ q) s.heap H locs) (hb : base ≤ s.heap.size) (a0 : Nat) (h0 : isK ad ks 2 a0) (x1 : Int32) (h1 : iv 2 2 x1) (x2 : Int32) (x3 : Int32) (hz12 : z 1 2 = (L, L)) (hal : z 0 6 = (al.toInt, al.toInt)) (hL : 2 ≤ L ∧ L ≤ 5) (hl : Cond.methodLink own index yX4_setWay ∈ sg_tbl) (hsize : ls.size = nL) (hst : st0 = [.int x1, .int x2, .int x3].reverse ++ .ref a0 :: rest) (hW : (rest.map fun v => v.category).sum ≤ 8) (hR : 1 ≤ R.frames ∧ 25 ≤ R.locals) (hf : cells ≤ R.cells ∧ slots ≤ R.slots) (hdg : decode cc pc = .ok (.invokevirtual index, 3)) (kk : ∀ (t : State) (H1 : Heap) (locs1 : List Loc), t.heap = H1 → ((fun t => sgB (KG a a w1 w2 (zSet (zSet (zSet z 2 2 x2.toInt) 3 2 x3.toInt) 4 2 (vSw x3 x2 (L - 1).toNat al).toInt) P) D vwCl base tys ad ks t) t) → va_S (fun q : Nat => base ≤ q) s.heap H1 locs1 → W p l e R s m args below meth c H1 locs1 cells slots Q (F0 m (pc + 3) ls rest)) : W p l e R s m args below meth c H locs cells slots Q (F0 m pc ls st0) :=
  sg_callV2v X hK hG hC hS hb (m_X4_setWay_g2 l a0 h0 x1 h1 x2 x3 hz12 hal hL) h0 (k := 2) (ci := 4) rfl (C := RX4) (T := TX4) (N := 15) rfl wl_3_188 wl_1_7 wl_3_187 wl_0_7 (n := 3) (by decide +kernel) rfl rfl rfl hl hsize hst hW hR hf hdg kk

set_option maxHeartbeats 8000000 in
set_option maxRecDepth 100000 in
theorem m_X4_setWay_g3 (l : Launch) {D : va_G} {base : Nat} {tys : List (ClassId × FieldType)} {ad ks : List Nat} {P : sgPm}{a w1 w2 L : Int} {al : Int32} {z : sgZg}  (a0 : Nat) (h0 : isK ad ks 2 a0) (x1 : Int32) (h1 : iv 3 3 x1) (x2 : Int32) (x3 : Int32) (hz12 : z 1 2 = (L, L)) (hal : z 0 6 = (al.toInt, al.toInt)) (hL : 2 ≤ L ∧ L ≤ 5) : Met l yX4_setWay (Cond.code yX4_setWay cX4_setWay 6 none :: sg_tbl) ({ frames := 0, cells := 0, slots := 0, locals := 0 }) (va_Pc [.ref a0, .int x1, .int x2, .int x3] (sgB (KG a a w1 w2 z P) D vwCl base tys ad ks)) (va_Qv (fun (_ : Unit) => True) (fun _ => fun t => sgB (KG a a w1 w2 (zSet (zSet (zSet z 2 3 x2.toInt) 3 3 x3.toInt) 4 3 (vSw x3 x2 (L - 1).toNat al).toInt) P) D vwCl base tys ad ks t) (fun q : Nat => base ≤ q)) 0 0 (fun q : Nat => base ≤ q) := by
  refine sg_ofW (by decide +kernel) (Nat.le_of_ble_eq_true rfl) (fun p e s m below meth c X hr hlk hb hK hC hG ls hl => ?_)
  have hS : va_S (fun q : Nat => base ≤ q) s.heap s.heap [] := va_S.rf
  have hl : lv_has ls 6 [(0, .ref a0), (1, .int x1), (2, .int x2), (3, .int x3)] := hl
  refine lv_aload_n X.1 X.2.1 dX4_setWay_0 rfl (lv_at hl 0 rfl) ?_
  refine gf_X4_2g X hK hG h0 wl_1_214 dX4_setWay_1 (fun q10 hq10 => ?_)
  refine lv_iload_n X.1 X.2.1 dX4_setWay_4 rfl (lv_at hl 1 rfl) ?_
  refine lv_iload_n X.1 X.2.1 dX4_setWay_5 rfl (lv_at hl 2 rfl) ?_
  refine as_51G X hK hG hS hq10 (iv_vpin h1 (by decide +kernel)) dX4_setWay_6 (fun H locs hG hS => ?_)
  rw [show (x1 : Int32).toNatClampNeg = 3 from sg_cl h1 (by decide)] at hG
  have hG : sgG (KG a a w1 w2 (zSet z 2 3 ((x2).toInt)) P) D vwCl _ tys ad ks _ := hG
  refine lv_aload_n X.1 X.2.1 dX4_setWay_7 rfl (lv_at hl 0 rfl) ?_
  refine gf_X4_3g X hK hG h0 wl_1_215 dX4_setWay_8 (fun q11 hq11 => ?_)
  refine lv_iload_n X.1 X.2.1 dX4_setWay_11 rfl (lv_at hl 1 rfl) ?_
  refine lv_iload_n X.1 X.2.1 dX4_setWay_12 rfl (lv_at hl 3 rfl) ?_
  refine as_52G X hK hG hS hq11 (iv_vpin h1 (by decide +kernel)) dX4_setWay_13 (fun H locs hG hS => ?_)
  rw [show (x1 : Int32).toNatClampNeg = 3 from sg_cl h1 (by decide)] at hG
  have hG : sgG (KG a a w1 w2 (zSet (zSet z 2 3 ((x2).toInt)) 3 3 ((x3).toInt)) P) D vwCl _ tys ad ks _ := hG
  refine lv_aload_n X.1 X.2.1 dX4_setWay_14 rfl (lv_at hl 0 rfl) ?_
  refine gf_X4_6g X hK hG h0 wl_1_222 dX4_setWay_15 (fun f12 hf12 => ?_)
  have wf12 : f12 = al := Int32.toInt_inj.mp (vq_pin (t := (al).toInt) hal hf12)
  refine lv_istore (lv' := [(4, .int f12), (0, .ref a0), (1, .int x1), (2, .int x2), (3, .int x3)]) X.1 X.2.1 dX4_setWay_18 hl (by decide) rfl (fun ls hl => ?_)
  refine lv_iconst (v := 1) X.1 X.2.1 dX4_setWay_20 (by decide +kernel) ?_
  refine lv_istore (lv' := [(5, .int 1), (4, .int f12), (0, .ref a0), (1, .int x1), (2, .int x2), (3, .int x3)]) X.1 X.2.1 dX4_setWay_21 hl (by decide) rfl (fun ls hl => ?_)
  have B13_23 : ∀ (N : Nat) (locs : List Loc) (ls : Array Slot) (z13_4 : Int32) (z13_5 : Int32), va_S (fun q : Nat => base ≤ q) s.heap H locs → lv_has ls 6 [(0, .ref a0), (1, .int x1), (2, .int x2), (3, .int x3), (4, .int z13_4), (5, .int z13_5)] → iv 1 5 z13_5 → (z13_4 = vSw x3 x2 ((z13_5 : Int32).toInt - 1).toNat al ∧ (z13_5 : Int32).toInt ≤ L) → (6 - z13_5.toInt).toNat ≤ N → W p l e (headSpec (Cond.code yX4_setWay cX4_setWay 6 none :: sg_tbl) ({ frames := 0, cells := 0, slots := 0, locals := 0 })).room s m #[.ref a0, .int x1, .int x2, .int x3] below meth c H locs 0 0 (MQ below (va_Qv (fun (_ : Unit) => True) (fun _ => fun t => sgB (KG a a w1 w2 (zSet (zSet (zSet z 2 3 x2.toInt) 3 3 x3.toInt) 4 3 (vSw x3 x2 (L - 1).toNat al).toInt) P) D vwCl base tys ad ks t) (fun q : Nat => base ≤ q)) #[.ref a0, .int x1, .int x2, .int x3] s 0 0 (fun q : Nat => base ≤ q)) (F0 m 23 ls []) := by
    intro N; induction N with
    | zero =>
      intro locs ls z13_4 z13_5 hS hl hz13_5 xf13 hN
      exact absurd hN (by have := iv_up hz13_5; omega)
    | succ N ih13 =>
      intro locs ls z13_4 z13_5 hS hl hz13_5 xf13 hN13
      refine lv_iload X.1 X.2.1 dX4_setWay_23 (lv_at hl 5 rfl) ?_
      refine lv_aload_n X.1 X.2.1 dX4_setWay_25 rfl (lv_at hl 0 rfl) ?_
      refine gf_X4_0g X hK hG h0 wl_1_209 dX4_setWay_26 (fun q14 hq14 => ?_)
      refine lv_iconst (v := 2) X.1 X.2.1 dX4_setWay_29 (by decide +kernel) ?_
      refine al_50g X hK hG hq14 (iv_vpin (iv_c 2 (a := 2) (b := 2) (by decide +kernel)) (by decide +kernel)) dX4_setWay_30 (fun f15 hf15 => ?_)
      have xf15 : f15.toInt = L := vq_pin (t := L) hz12 (zk_at (z := (zSet (zSet z 2 3 ((x2).toInt)) 3 3 ((x3).toInt))) (a := 1) (sg_cl (iv_c 2 (a := 2) (b := 2) (by decide +kernel)) (by decide)) hf15)
      have yf15 : iv 2 5 f15 := vq_of xf15 hL
      refine lv_icmp_ge (tgt := 48) X.1 X.2.1 dX4_setWay_31 (by decide) (fun c16 => ?_) (fun c16 => ?_)
      · have i17 : ¬ z13_5.toInt < L := vq_le c16 xf15 rfl
        have hzz : z13_4 = vSw x3 x2 (L - 1).toNat al := xf13.1.trans (by rw [show z13_5.toInt = L from Int.le_antisymm xf13.2 (Int.not_lt.mp i17)])
        refine lv_aload_n X.1 X.2.1 dX4_setWay_48 rfl (lv_at hl 0 rfl) ?_
        refine gf_X4_4g X hK hG h0 wl_1_216 dX4_setWay_49 (fun q19 hq19 => ?_)
        refine lv_iload_n X.1 X.2.1 dX4_setWay_52 rfl (lv_at hl 1 rfl) ?_
        refine lv_iload X.1 X.2.1 dX4_setWay_53 (lv_at hl 4 rfl) ?_
        refine as_53G X hK hG hS hq19 (iv_vpin h1 (by decide +kernel)) dX4_setWay_55 (fun H locs hG hS => ?_)
        rw [show (x1 : Int32).toNatClampNeg = 3 from sg_cl h1 (by decide)] at hG
        rw [hzz] at hG
        have hG : sgG (KG a a w1 w2 (zSet (zSet (zSet z 2 3 ((x2).toInt)) 3 3 ((x3).toInt)) 4 3 (((vSw x3 x2 (L - 1).toNat al)).toInt)) P) D vwCl _ tys ad ks _ := hG
        exact sg_vret2 X hr hlk hS (fun t ht hW => sg_post hb hK hC hG hS ht hW) dX4_setWay_56
      · have i18 : z13_5.toInt < L := vq_lt (iv_gt_of c16) rfl xf15
        refine lv_iload_n X.1 X.2.1 dX4_setWay_34 rfl (lv_at hl 3 rfl) ?_
        refine lv_iload X.1 X.2.1 dX4_setWay_35 (lv_at hl 4 rfl) ?_
        refine lv_iload_n X.1 X.2.1 dX4_setWay_37 rfl (lv_at hl 2 rfl) ?_
        obtain ⟨f20, ef20⟩ : ∃ y : Int32, y = (z13_4.toUInt32 >>> ((x2 : Int32).toUInt32 &&& Int32.toUInt32 31)).toInt32 := ⟨_, rfl⟩
        refine lv_iushr (v := f20) X.1 X.2.1 dX4_setWay_38 ef20.symm ?_
        have wf20 : f20 = (vShr z13_4 x2) := ef20
        refine lv_iand X.1 X.2.1 dX4_setWay_39 ?_
        refine lv_topi (fun f21 ef21 => ?_)
        have wf21 : f21 = (x3 &&& (vShr z13_4 x2)) := ef21.trans (by rw [wf20])
        refine lv_istore (lv' := [(4, .int f21), (0, .ref a0), (1, .int x1), (2, .int x2), (3, .int x3), (5, .int z13_5)]) X.1 X.2.1 dX4_setWay_40 hl (by decide) rfl (fun ls hl => ?_)
        obtain ⟨y22, ey22⟩ : ∃ y : Int32, y = z13_5 + Int32.ofInt 1 := ⟨_, rfl⟩
        have xy22 : y22.toInt = (z13_5.toInt + 1) := sg_exadd ey22 (iv_lt (b' := 4) (iv_gt_of c16) hz13_5 yf15 (by decide +kernel)) (iv_c _ (a := 1) (b := 1) (by decide +kernel)) (by decide +kernel) rfl (by decide +kernel)
        refine lv_iinc (v := y22) (lv' := [(5, .int y22), (4, .int f21), (0, .ref a0), (1, .int x1), (2, .int x2), (3, .int x3)]) X.1 X.2.1 dX4_setWay_42 hl (k := 5) rfl ey22.symm (by decide) rfl (fun ls hl => ?_)
        refine lv_goto (tgt := 23) X.1 X.2.1 dX4_setWay_45 (by decide) ?_
        exact ih13 _ _ f21 y22 hS (lv_sub hl [2, 3, 4, 5, 1, 0] rfl) (iv_of (iv_add (a' := 2) (b' := 5) ey22 (iv_lt (b' := 4) (iv_gt_of c16) hz13_5 yf15 (by decide +kernel)) (iv_c _ (a := 1) (b := 1) (by decide +kernel)) (by decide +kernel)) (a' := 1) (b' := 5) (by decide +kernel)) ⟨vSw_s xf13.1 (hz13_5).1 xy22 wf21, by rw [xy22]; omega⟩ (iv_stepU ey22 (iv_lt (b' := 4) (iv_gt_of c16) hz13_5 yf15 (by decide +kernel)) (by decide +kernel) hN13)
  exact B13_23 _ _ _ f12 1 hS (lv_sub hl [2, 3, 4, 5, 1, 0] rfl) (iv_of (iv_c 1 (a := 1) (b := 1) (by decide +kernel)) (a' := 1) (b' := 5) (by decide +kernel)) ⟨wf12.trans (by rw [show ((1 : Int32).toInt - 1).toNat = 0 from by decide +kernel]; rfl), by rw [show (1 : Int32).toInt = 1 from by decide +kernel]; omega⟩ (Nat.le_refl _)

theorem ca_X4_setWay_g3  {a w1 w2 L : Int} {al : Int32} {z : sgZg}  (X : CallFix p m c cc nL s args sg_tbl own) (hK : va_K D vwCl tys s) (hG : sgG (KG a a w1 w2 z P) D vwCl (fun q : Nat => base ≤ q) tys ad ks H) (hC : sgC base s) (hS : va_S (fun q : Nat => base ≤ q) s.heap H locs) (hb : base ≤ s.heap.size) (a0 : Nat) (h0 : isK ad ks 2 a0) (x1 : Int32) (h1 : iv 3 3 x1) (x2 : Int32) (x3 : Int32) (hz12 : z 1 2 = (L, L)) (hal : z 0 6 = (al.toInt, al.toInt)) (hL : 2 ≤ L ∧ L ≤ 5) (hl : Cond.methodLink own index yX4_setWay ∈ sg_tbl) (hsize : ls.size = nL) (hst : st0 = [.int x1, .int x2, .int x3].reverse ++ .ref a0 :: rest) (hW : (rest.map fun v => v.category).sum ≤ 8) (hR : 1 ≤ R.frames ∧ 25 ≤ R.locals) (hf : cells ≤ R.cells ∧ slots ≤ R.slots) (hdg : decode cc pc = .ok (.invokevirtual index, 3)) (kk : ∀ (t : State) (H1 : Heap) (locs1 : List Loc), t.heap = H1 → ((fun t => sgB (KG a a w1 w2 (zSet (zSet (zSet z 2 3 x2.toInt) 3 3 x3.toInt) 4 3 (vSw x3 x2 (L - 1).toNat al).toInt) P) D vwCl base tys ad ks t) t) → va_S (fun q : Nat => base ≤ q) s.heap H1 locs1 → W p l e R s m args below meth c H1 locs1 cells slots Q (F0 m (pc + 3) ls rest)) : W p l e R s m args below meth c H locs cells slots Q (F0 m pc ls st0) :=
  sg_callV2v X hK hG hC hS hb (m_X4_setWay_g3 l a0 h0 x1 h1 x2 x3 hz12 hal hL) h0 (k := 2) (ci := 4) rfl (C := RX4) (T := TX4) (N := 15) rfl wl_3_188 wl_1_7 wl_3_187 wl_0_7 (n := 3) (by decide +kernel) rfl rfl rfl hl hsize hst hW hR hf hdg kk

set_option maxHeartbeats 8000000 in
set_option maxRecDepth 100000 in
theorem m_X4_layOut_g (l : Launch) {D : va_G} {base : Nat} {tys : List (ClassId × FieldType)} {ad ks : List Nat} {P : sgPm}{a w1 w2 w cn L : Int} {z : sgZg}  (a0 : Nat) (h0 : isK ad ks 2 a0) (hl0 : 0 ≤ sgL1 P ∧ sgL1 P ≤ 240) (hav : 0 ≤ a ∧ a ≤ sgL1 P) (hz : z 0 5 = (cn, cn) ∧ z 0 6 = ((vAll cn).toInt, (vAll cn).toInt) ∧ z 0 7 = (w, w) ∧ z 1 2 = (L, L)) (hc : 1 ≤ cn ∧ cn ≤ 30) (hw : 1 ≤ w ∧ w ≤ 6) (hL : 2 ≤ L ∧ L ≤ 5) : Met l yX4_layOut (Cond.code yX4_layOut cX4_layOut 4 none :: sg_tbl) ({ frames := 1, cells := 0, slots := 0, locals := 25 }) (va_Pc [.ref a0] (sgB (KG a a w1 w2 z P) D vwCl base tys ad ks)) (va_Qv (fun (_ : Unit) => True) (fun _ => fun t => ∃ z9 : sgZg, (∀ x y : Nat, x < 2 → z9 x y = z x y) ∧ (∀ k : Nat, k < 4 → z9 2 k = (vSd w k, vSd w k) ∧ z9 4 k = ((vLs w cn L k).toInt, (vLs w cn L k).toInt)) ∧ sgB (KG a a w1 w2 z9 P) D vwCl base tys ad ks t) (fun q : Nat => base ≤ q)) 0 0 (fun q : Nat => base ≤ q) := by
  refine sg_ofW (by decide +kernel) (Nat.le_of_ble_eq_true rfl) (fun p e s m below meth c X hr hlk hb hK hC hG ls hl => ?_)
  have hS : va_S (fun q : Nat => base ≤ q) s.heap s.heap [] := va_S.rf
  have hl : lv_has ls 4 [(0, .ref a0)] := hl
  refine lv_iconst (v := 0) X.1 X.2.1 dX4_layOut_0 (by decide +kernel) ?_
  refine lv_istore_n (lv' := [(1, .int 0), (0, .ref a0)]) X.1 X.2.1 dX4_layOut_1 rfl hl (by decide) rfl (fun ls hl => ?_)
  refine lv_iconst (v := 0) X.1 X.2.1 dX4_layOut_2 (by decide +kernel) ?_
  refine lv_istore_n (lv' := [(2, .int 0), (1, .int 0), (0, .ref a0)]) X.1 X.2.1 dX4_layOut_3 rfl hl (by decide) rfl (fun ls hl => ?_)
  refine lv_iconst (v := 0) X.1 X.2.1 dX4_layOut_4 (by decide +kernel) ?_
  refine lv_istore_n (lv' := [(3, .int 0), (2, .int 0), (1, .int 0), (0, .ref a0)]) X.1 X.2.1 dX4_layOut_5 rfl hl (by decide) rfl (fun ls hl => ?_)
  have B10_6 : ∀ (N : Nat) (locs : List Loc) (ls : Array Slot) (z10_1 : Int32) (z10_2 : Int32) (z10_3 : Int32), va_S (fun q : Nat => base ≤ q) s.heap s.heap locs → lv_has ls 4 [(0, .ref a0), (1, .int z10_1), (2, .int z10_2), (3, .int z10_3)] → iv 0 1073741823 z10_1 → iv 0 1073741823 z10_2 → iv 0 30 z10_3 → (z10_1 = vNl w (z10_3 : Int32).toInt.toNat ∧ z10_2 = vNf w (z10_3 : Int32).toInt.toNat ∧ (z10_3 : Int32).toInt ≤ cn) → (31 - z10_3.toInt).toNat ≤ N → W p l e (headSpec (Cond.code yX4_layOut cX4_layOut 4 none :: sg_tbl) ({ frames := 1, cells := 0, slots := 0, locals := 25 })).room s m #[.ref a0] below meth c s.heap locs 0 0 (MQ below (va_Qv (fun (_ : Unit) => True) (fun _ => fun t => ∃ z9 : sgZg, (∀ x y : Nat, x < 2 → z9 x y = z x y) ∧ (∀ k : Nat, k < 4 → z9 2 k = (vSd w k, vSd w k) ∧ z9 4 k = ((vLs w cn L k).toInt, (vLs w cn L k).toInt)) ∧ sgB (KG a a w1 w2 z9 P) D vwCl base tys ad ks t) (fun q : Nat => base ≤ q)) #[.ref a0] s 0 0 (fun q : Nat => base ≤ q)) (F0 m 6 ls []) := by
    intro N; induction N with
    | zero =>
      intro locs ls z10_1 z10_2 z10_3 hS hl hz10_1 hz10_2 hz10_3 xf10 hN
      exact absurd hN (by have := iv_up hz10_3; omega)
    | succ N ih10 =>
      intro locs ls z10_1 z10_2 z10_3 hS hl hz10_1 hz10_2 hz10_3 xf10 hN10
      refine lv_iload_n X.1 X.2.1 dX4_layOut_6 rfl (lv_at hl 3 rfl) ?_
      refine lv_aload_n X.1 X.2.1 dX4_layOut_7 rfl (lv_at hl 0 rfl) ?_
      refine gf_X4_5g X hK hG h0 wl_1_221 dX4_layOut_8 (fun f11 hf11 => ?_)
      have xf11 : f11.toInt = cn := vq_pin (t := cn) hz.1 hf11
      have yf11 : iv 1 30 f11 := vq_of xf11 hc
      refine lv_icmp_ge (tgt := 54) X.1 X.2.1 dX4_layOut_11 (by decide) (fun c12 => ?_) (fun c12 => ?_)
      · have i13 : ¬ z10_3.toInt < cn := vq_le c12 xf11 rfl
        have hzc : z10_3.toInt = cn := Int.le_antisymm xf10.2.2 (Int.not_lt.mp i13)
        have hzvNl : z10_1 = vNl w cn.toNat := xf10.1.trans (by rw [hzc])
        have hzvNf : z10_2 = vNf w cn.toNat := xf10.2.1.trans (by rw [hzc])
        refine lv_aload_n X.1 X.2.1 dX4_layOut_54 rfl (lv_at hl 0 rfl) ?_
        refine lv_iconst (v := 0) X.1 X.2.1 dX4_layOut_55 (by decide +kernel) ?_
        refine lv_iconst (v := 1) X.1 X.2.1 dX4_layOut_56 (by decide +kernel) ?_
        refine lv_iload_n X.1 X.2.1 dX4_layOut_57 rfl (lv_at hl 1 rfl) ?_
        refine ca_X4_setWay_g0 X hK hG hC hS hb a0 h0 0 (iv_c 0 (a := 0) (b := 0) (by decide +kernel)) 1 z10_1 hz.2.2.2 hz.2.1 hL wl_3_185 hl.1 (rest := []) rfl (Nat.le_of_ble_eq_true rfl) ⟨Nat.le_of_ble_eq_true rfl, Nat.le_of_ble_eq_true rfl⟩ ⟨Nat.le_of_ble_eq_true rfl, Nat.le_of_ble_eq_true rfl⟩ dX4_layOut_58 (fun tg15 H locs htg15 hWg15 hS => ?_)
        have hG := hWg15.2.2.2
        rw [htg15] at hG
        have hdg15 : (1 : Int32).toInt = vSd w 0 := show (1 : Int32).toInt = 1 from by decide +kernel
        have hsg15 : vSw z10_1 1 (L - 1).toNat (vAll cn) = vLs w cn L 0 := by rw [vq_oi (x := 1) hdg15, hzvNl]; rfl
        rw [hsg15, hdg15] at hG
        have hG : sgG (KG a a w1 w2 (zSet (zSet (zSet z 2 0 (vSd w 0)) 3 0 (z10_1 : Int32).toInt) 4 0 (vLs w cn L 0).toInt) P) D vwCl _ tys ad ks _ := hG
        refine lv_aload_n X.1 X.2.1 dX4_layOut_61 rfl (lv_at hl 0 rfl) ?_
        refine lv_iconst (v := 1) X.1 X.2.1 dX4_layOut_62 (by decide +kernel) ?_
        refine lv_aload_n X.1 X.2.1 dX4_layOut_63 rfl (lv_at hl 0 rfl) ?_
        refine gf_X4_7g X hK hG h0 wl_1_225 dX4_layOut_64 (fun f16 hf16 => ?_)
        have xf16 : f16.toInt = w := vq_pin (t := w) hz.2.2.1 hf16
        have yf16 : iv 1 6 f16 := vq_of xf16 hw
        refine lv_aload_n X.1 X.2.1 dX4_layOut_67 rfl (lv_at hl 0 rfl) ?_
        refine gf_X4_6g X hK hG h0 wl_1_222 dX4_layOut_68 (fun f17 hf17 => ?_)
        have wf17 : f17 = (vAll cn) := Int32.toInt_inj.mp (vq_pin (t := ((vAll cn)).toInt) hz.2.1 hf17)
        refine ca_X4_setWay_g1 X hK hG hC hS hb a0 h0 1 (iv_c 1 (a := 1) (b := 1) (by decide +kernel)) f16 f17 hz.2.2.2 hz.2.1 hL wl_3_185 hl.1 (rest := []) rfl (Nat.le_of_ble_eq_true rfl) ⟨Nat.le_of_ble_eq_true rfl, Nat.le_of_ble_eq_true rfl⟩ ⟨Nat.le_of_ble_eq_true rfl, Nat.le_of_ble_eq_true rfl⟩ dX4_layOut_71 (fun tg18 H locs htg18 hWg18 hS => ?_)
        have hG := hWg18.2.2.2
        rw [htg18] at hG
        have hdg18 : (f16 : Int32).toInt = vSd w 1 := xf16
        have hsg18 : vSw f17 f16 (L - 1).toNat (vAll cn) = vLs w cn L 1 := by rw [vq_oi (x := f16) hdg18, wf17]; rfl
        rw [hsg18, hdg18] at hG
        have hG : sgG (KG a a w1 w2 (zSet (zSet (zSet (zSet (zSet (zSet z 2 0 (vSd w 0)) 3 0 (z10_1 : Int32).toInt) 4 0 (vLs w cn L 0).toInt) 2 1 (vSd w 1)) 3 1 (f17 : Int32).toInt) 4 1 (vLs w cn L 1).toInt) P) D vwCl _ tys ad ks _ := hG
        refine lv_aload_n X.1 X.2.1 dX4_layOut_74 rfl (lv_at hl 0 rfl) ?_
        refine lv_iconst (v := 2) X.1 X.2.1 dX4_layOut_75 (by decide +kernel) ?_
        refine lv_aload_n X.1 X.2.1 dX4_layOut_76 rfl (lv_at hl 0 rfl) ?_
        refine gf_X4_7g X hK hG h0 wl_1_225 dX4_layOut_77 (fun f19 hf19 => ?_)
        have xf19 : f19.toInt = w := vq_pin (t := w) hz.2.2.1 hf19
        have yf19 : iv 1 6 f19 := vq_of xf19 hw
        refine lv_iconst (v := 1) X.1 X.2.1 dX4_layOut_80 (by decide +kernel) ?_
        refine lv_iadd X.1 X.2.1 dX4_layOut_81 ?_
        refine lv_topi (fun f20 ef20 => ?_)
        have xf20 : f20.toInt = (w + 1) := sg_exadd ef20 yf19 (iv_c 1 (a := 1) (b := 1) (by decide +kernel)) (by decide +kernel) xf19 (by decide +kernel)
        refine lv_iload_n X.1 X.2.1 dX4_layOut_82 rfl (lv_at hl 1 rfl) ?_
        refine ca_X4_setWay_g2 X hK hG hC hS hb a0 h0 2 (iv_c 2 (a := 2) (b := 2) (by decide +kernel)) f20 z10_1 hz.2.2.2 hz.2.1 hL wl_3_185 hl.1 (rest := []) rfl (Nat.le_of_ble_eq_true rfl) ⟨Nat.le_of_ble_eq_true rfl, Nat.le_of_ble_eq_true rfl⟩ ⟨Nat.le_of_ble_eq_true rfl, Nat.le_of_ble_eq_true rfl⟩ dX4_layOut_83 (fun tg21 H locs htg21 hWg21 hS => ?_)
        have hG := hWg21.2.2.2
        rw [htg21] at hG
        have hdg21 : (f20 : Int32).toInt = vSd w 2 := xf20
        have hsg21 : vSw z10_1 f20 (L - 1).toNat (vAll cn) = vLs w cn L 2 := by rw [vq_oi (x := f20) hdg21, hzvNl]; rfl
        rw [hsg21, hdg21] at hG
        have hG : sgG (KG a a w1 w2 (zSet (zSet (zSet (zSet (zSet (zSet (zSet (zSet (zSet z 2 0 (vSd w 0)) 3 0 (z10_1 : Int32).toInt) 4 0 (vLs w cn L 0).toInt) 2 1 (vSd w 1)) 3 1 (f17 : Int32).toInt) 4 1 (vLs w cn L 1).toInt) 2 2 (vSd w 2)) 3 2 (z10_1 : Int32).toInt) 4 2 (vLs w cn L 2).toInt) P) D vwCl _ tys ad ks _ := hG
        refine lv_aload_n X.1 X.2.1 dX4_layOut_86 rfl (lv_at hl 0 rfl) ?_
        refine lv_iconst (v := 3) X.1 X.2.1 dX4_layOut_87 (by decide +kernel) ?_
        refine lv_aload_n X.1 X.2.1 dX4_layOut_88 rfl (lv_at hl 0 rfl) ?_
        refine gf_X4_7g X hK hG h0 wl_1_225 dX4_layOut_89 (fun f22 hf22 => ?_)
        have xf22 : f22.toInt = w := vq_pin (t := w) hz.2.2.1 hf22
        have yf22 : iv 1 6 f22 := vq_of xf22 hw
        refine lv_iconst (v := 1) X.1 X.2.1 dX4_layOut_92 (by decide +kernel) ?_
        refine lv_isub X.1 X.2.1 dX4_layOut_93 ?_
        refine lv_topi (fun f23 ef23 => ?_)
        have xf23 : f23.toInt = (w - 1) := sg_exsub ef23 yf22 (iv_c 1 (a := 1) (b := 1) (by decide +kernel)) (by decide +kernel) xf22 (by decide +kernel)
        have wf23 : f23 = ((Int32.ofInt w) - (1 : Int32)) := ef23.trans (by rw [(vq_oi (x := f22) xf22)])
        refine lv_iload_n X.1 X.2.1 dX4_layOut_94 rfl (lv_at hl 2 rfl) ?_
        refine ca_X4_setWay_g3 X hK hG hC hS hb a0 h0 3 (iv_c 3 (a := 3) (b := 3) (by decide +kernel)) f23 z10_2 hz.2.2.2 hz.2.1 hL wl_3_185 hl.1 (rest := []) rfl (Nat.le_of_ble_eq_true rfl) ⟨Nat.le_of_ble_eq_true rfl, Nat.le_of_ble_eq_true rfl⟩ ⟨Nat.le_of_ble_eq_true rfl, Nat.le_of_ble_eq_true rfl⟩ dX4_layOut_95 (fun tg24 H locs htg24 hWg24 hS => ?_)
        have hG := hWg24.2.2.2
        rw [htg24] at hG
        have hdg24 : (f23 : Int32).toInt = vSd w 3 := xf23
        have hsg24 : vSw z10_2 f23 (L - 1).toNat (vAll cn) = vLs w cn L 3 := by rw [vq_oi (x := f23) hdg24, hzvNf]; rfl
        rw [hsg24, hdg24] at hG
        have hG : sgG (KG a a w1 w2 (zSet (zSet (zSet (zSet (zSet (zSet (zSet (zSet (zSet (zSet (zSet (zSet z 2 0 (vSd w 0)) 3 0 (z10_1 : Int32).toInt) 4 0 (vLs w cn L 0).toInt) 2 1 (vSd w 1)) 3 1 (f17 : Int32).toInt) 4 1 (vLs w cn L 1).toInt) 2 2 (vSd w 2)) 3 2 (z10_1 : Int32).toInt) 4 2 (vLs w cn L 2).toInt) 2 3 (vSd w 3)) 3 3 (z10_2 : Int32).toInt) 4 3 (vLs w cn L 3).toInt) P) D vwCl _ tys ad ks _ := hG
        refine lv_iconst (v := 0) X.1 X.2.1 dX4_layOut_98 (by decide +kernel) ?_
        refine lv_istore_n (lv' := [(3, .int 0), (0, .ref a0), (1, .int z10_1), (2, .int z10_2)]) X.1 X.2.1 dX4_layOut_99 rfl hl (by decide) rfl (fun ls hl => ?_)
        have B25_100 : ∀ (N : Nat) (H : Heap) (locs : List Loc) (ls : Array Slot) (z25_3 : Int32), sgG (KG a a w1 w2 (zSet (zSet (zSet (zSet (zSet (zSet (zSet (zSet (zSet (zSet (zSet (zSet z 2 0 (vSd w 0)) 3 0 (z10_1 : Int32).toInt) 4 0 (vLs w cn L 0).toInt) 2 1 (vSd w 1)) 3 1 (f17 : Int32).toInt) 4 1 (vLs w cn L 1).toInt) 2 2 (vSd w 2)) 3 2 (z10_1 : Int32).toInt) 4 2 (vLs w cn L 2).toInt) 2 3 (vSd w 3)) 3 3 (z10_2 : Int32).toInt) 4 3 (vLs w cn L 3).toInt) P) D vwCl (fun q : Nat => base ≤ q) tys ad ks H → va_S (fun q : Nat => base ≤ q) s.heap H locs → lv_has ls 4 [(0, .ref a0), (3, .int z25_3)] → iv 0 30 z25_3 → (31 - z25_3.toInt).toNat ≤ N → W p l e (headSpec (Cond.code yX4_layOut cX4_layOut 4 none :: sg_tbl) ({ frames := 1, cells := 0, slots := 0, locals := 25 })).room s m #[.ref a0] below meth c H locs 0 0 (MQ below (va_Qv (fun (_ : Unit) => True) (fun _ => fun t => ∃ z9 : sgZg, (∀ x y : Nat, x < 2 → z9 x y = z x y) ∧ (∀ k : Nat, k < 4 → z9 2 k = (vSd w k, vSd w k) ∧ z9 4 k = ((vLs w cn L k).toInt, (vLs w cn L k).toInt)) ∧ sgB (KG a a w1 w2 z9 P) D vwCl base tys ad ks t) (fun q : Nat => base ≤ q)) #[.ref a0] s 0 0 (fun q : Nat => base ≤ q)) (F0 m 100 ls []) := by
          intro N; induction N with
          | zero =>
            intro H locs ls z25_3 hG hS hl hz25_3 hN
            exact absurd hN (by have := iv_up hz25_3; omega)
          | succ N ih25 =>
            intro H locs ls z25_3 hG hS hl hz25_3 hN25
            refine lv_iload_n X.1 X.2.1 dX4_layOut_100 rfl (lv_at hl 1 rfl) ?_
            refine lv_aload_n X.1 X.2.1 dX4_layOut_101 rfl (lv_at hl 0 rfl) ?_
            refine gf_X4_5g X hK hG h0 wl_1_221 dX4_layOut_102 (fun f26 hf26 => ?_)
            have xf26 : f26.toInt = cn := vq_pin (t := cn) hz.1 hf26
            have yf26 : iv 1 30 f26 := vq_of xf26 hc
            refine lv_icmp_ge (tgt := 127) X.1 X.2.1 dX4_layOut_105 (by decide) (fun c27 => ?_) (fun c27 => ?_)
            · have i28 : ¬ z25_3.toInt < cn := vq_le c27 xf26 rfl
              have hsm : ∀ x y : Nat, x < 2 → (zSet (zSet (zSet (zSet (zSet (zSet (zSet (zSet (zSet (zSet (zSet (zSet z 2 0 (vSd w 0)) 3 0 (z10_1 : Int32).toInt) 4 0 (vLs w cn L 0).toInt) 2 1 (vSd w 1)) 3 1 (f17 : Int32).toInt) 4 1 (vLs w cn L 1).toInt) 2 2 (vSd w 2)) 3 2 (z10_1 : Int32).toInt) 4 2 (vLs w cn L 2).toInt) 2 3 (vSd w 3)) 3 3 (z10_2 : Int32).toInt) 4 3 (vLs w cn L 3).toInt) x y = z x y := fun x y hx => by match x, hx with
                | 0, _ => rfl
                | 1, _ => rfl
                | x + 2, hx => exact absurd hx (by omega)
              have hlst : ∀ k : Nat, k < 4 → (zSet (zSet (zSet (zSet (zSet (zSet (zSet (zSet (zSet (zSet (zSet (zSet z 2 0 (vSd w 0)) 3 0 (z10_1 : Int32).toInt) 4 0 (vLs w cn L 0).toInt) 2 1 (vSd w 1)) 3 1 (f17 : Int32).toInt) 4 1 (vLs w cn L 1).toInt) 2 2 (vSd w 2)) 3 2 (z10_1 : Int32).toInt) 4 2 (vLs w cn L 2).toInt) 2 3 (vSd w 3)) 3 3 (z10_2 : Int32).toInt) 4 3 (vLs w cn L 3).toInt) 2 k = (vSd w k, vSd w k) ∧ (zSet (zSet (zSet (zSet (zSet (zSet (zSet (zSet (zSet (zSet (zSet (zSet z 2 0 (vSd w 0)) 3 0 (z10_1 : Int32).toInt) 4 0 (vLs w cn L 0).toInt) 2 1 (vSd w 1)) 3 1 (f17 : Int32).toInt) 4 1 (vLs w cn L 1).toInt) 2 2 (vSd w 2)) 3 2 (z10_1 : Int32).toInt) 4 2 (vLs w cn L 2).toInt) 2 3 (vSd w 3)) 3 3 (z10_2 : Int32).toInt) 4 3 (vLs w cn L 3).toInt) 4 k = ((vLs w cn L k).toInt, (vLs w cn L k).toInt) := fun k hk => by match k, hk with
                | 0, _ => exact ⟨rfl, rfl⟩
                | 1, _ => exact ⟨rfl, rfl⟩
                | 2, _ => exact ⟨rfl, rfl⟩
                | 3, _ => exact ⟨rfl, rfl⟩
                | k + 4, hk => exact absurd hk (by omega)
              exact sg_vret2 X hr hlk hS (fun t ht hW => ⟨_, hsm, hlst, sg_post hb hK hC hG hS ht hW⟩) dX4_layOut_127
            · have i29 : z25_3.toInt < cn := vq_lt (iv_gt_of c27) rfl xf26
              refine lv_aload_n X.1 X.2.1 dX4_layOut_108 rfl (lv_at hl 0 rfl) ?_
              refine gf_X4_1g X hK hG h0 wl_1_212 dX4_layOut_109 (fun q30 hq30 => ?_)
              refine lv_iload_n X.1 X.2.1 dX4_layOut_112 rfl (lv_at hl 1 rfl) ?_
              refine lv_aload_n X.1 X.2.1 dX4_layOut_113 rfl (lv_at hl 0 rfl) ?_
              refine lv_iconst (v := 1) X.1 X.2.1 dX4_layOut_114 (by decide +kernel) ?_
              refine lv_iload_n X.1 X.2.1 dX4_layOut_115 rfl (lv_at hl 1 rfl) ?_
              refine lv_ishl X.1 X.2.1 dX4_layOut_116 ?_
              refine lv_topi (fun f31 ef31 => ?_)
              have wf31 : f31 = ((1 : Int32) <<< (z25_3 &&& 31)) := ef31
              refine ca_X4_besideAnyWay_g X hK hG hC (fun _ h => h) hS hb a0 h0 f31 wl_3_189 hl.1 (rest := [.int z25_3, .ref q30]) rfl (Nat.le_of_ble_eq_true rfl) ⟨Nat.le_of_ble_eq_true rfl, Nat.le_of_ble_eq_true rfl⟩ ⟨Nat.le_of_ble_eq_true rfl, Nat.le_of_ble_eq_true rfl⟩ dX4_layOut_117 (fun f32 locs hf32 hS => ?_)
              refine as_54g X hK hG hS hq30 (iv_vpin (iv_lt (b' := 29) (iv_gt_of c27) hz25_3 yf26 (by decide +kernel)) (by decide +kernel)) dX4_layOut_120 (fun H locs hG hS => ?_)
              obtain ⟨y33, ey33⟩ : ∃ y : Int32, y = z25_3 + Int32.ofInt 1 := ⟨_, rfl⟩
              have xy33 : y33.toInt = (z25_3.toInt + 1) := sg_exadd ey33 (iv_lt (b' := 29) (iv_gt_of c27) hz25_3 yf26 (by decide +kernel)) (iv_c _ (a := 1) (b := 1) (by decide +kernel)) (by decide +kernel) rfl (by decide +kernel)
              refine lv_iinc (v := y33) (lv' := [(3, .int y33), (0, .ref a0)]) X.1 X.2.1 dX4_layOut_121 hl (k := 1) rfl ey33.symm (by decide) rfl (fun ls hl => ?_)
              refine lv_goto (tgt := 100) X.1 X.2.1 dX4_layOut_124 (by decide) ?_
              exact ih25 H _ _ y33 hG hS (lv_sub hl [1, 0] rfl) (iv_of (iv_add (a' := 1) (b' := 30) ey33 (iv_lt (b' := 29) (iv_gt_of c27) hz25_3 yf26 (by decide +kernel)) (iv_c _ (a := 1) (b := 1) (by decide +kernel)) (by decide +kernel)) (a' := 0) (b' := 30) (by decide +kernel)) (iv_stepU ey33 (iv_lt (b' := 29) (iv_gt_of c27) hz25_3 yf26 (by decide +kernel)) (by decide +kernel) hN25)
        exact B25_100 _ H _ _ 0 hG hS (lv_sub hl [1, 0] rfl) (iv_of (iv_c 0 (a := 0) (b := 0) (by decide +kernel)) (a' := 0) (b' := 30) (by decide +kernel)) (Nat.le_refl _)
      · have i14 : z10_3.toInt < cn := vq_lt (iv_gt_of c12) rfl xf11
        refine lv_aload_n X.1 X.2.1 dX4_layOut_14 rfl (lv_at hl 0 rfl) ?_
        refine lv_iload_n X.1 X.2.1 dX4_layOut_15 rfl (lv_at hl 3 rfl) ?_
        refine ca_X4_column_g X hK hG hC (fun _ h => h) hS hb a0 h0 z10_3 (iv_lt (b' := 29) (iv_gt_of c12) hz10_3 yf11 (by decide +kernel)) hw hz.2.2.1 wl_3_181 hl.1 (rest := []) rfl (Nat.le_of_ble_eq_true rfl) ⟨Nat.le_of_ble_eq_true rfl, Nat.le_of_ble_eq_true rfl⟩ ⟨Nat.le_of_ble_eq_true rfl, Nat.le_of_ble_eq_true rfl⟩ dX4_layOut_16 (fun f34 locs hf34 hS => ?_)
        have xf34 : f34.toInt = (z10_3.toInt % w) := hf34
        have yf34 : iv 0 5 f34 := vq_of xf34 (vq_mod5 hw)
        refine lv_aload_n X.1 X.2.1 dX4_layOut_19 rfl (lv_at hl 0 rfl) ?_
        refine gf_X4_7g X hK hG h0 wl_1_225 dX4_layOut_20 (fun f35 hf35 => ?_)
        have xf35 : f35.toInt = w := vq_pin (t := w) hz.2.2.1 hf35
        have yf35 : iv 1 6 f35 := vq_of xf35 hw
        refine lv_iconst (v := 1) X.1 X.2.1 dX4_layOut_23 (by decide +kernel) ?_
        refine lv_isub X.1 X.2.1 dX4_layOut_24 ?_
        refine lv_topi (fun f36 ef36 => ?_)
        have xf36 : f36.toInt = (w - 1) := sg_exsub ef36 yf35 (iv_c 1 (a := 1) (b := 1) (by decide +kernel)) (by decide +kernel) xf35 (by decide +kernel)
        have wf36 : f36 = ((Int32.ofInt w) - (1 : Int32)) := ef36.trans (by rw [(vq_oi (x := f35) xf35)])
        refine lv_icmp_ge (tgt := 34) X.1 X.2.1 dX4_layOut_25 (by decide) (fun c37 => ?_) (fun c37 => ?_)
        · have i38 : ¬ (z10_3.toInt % w) < (w - 1) := vq_le c37 xf36 xf34
          refine lv_aload_n X.1 X.2.1 dX4_layOut_34 rfl (lv_at hl 0 rfl) ?_
          refine lv_iload_n X.1 X.2.1 dX4_layOut_35 rfl (lv_at hl 3 rfl) ?_
          refine ca_X4_column_g X hK hG hC (fun _ h => h) hS hb a0 h0 z10_3 (iv_lt (b' := 29) (iv_gt_of c12) hz10_3 yf11 (by decide +kernel)) hw hz.2.2.1 wl_3_181 hl.1 (rest := []) rfl (Nat.le_of_ble_eq_true rfl) ⟨Nat.le_of_ble_eq_true rfl, Nat.le_of_ble_eq_true rfl⟩ ⟨Nat.le_of_ble_eq_true rfl, Nat.le_of_ble_eq_true rfl⟩ dX4_layOut_36 (fun f40 locs hf40 hS => ?_)
          have xf40 : f40.toInt = (z10_3.toInt % w) := hf40
          have yf40 : iv 0 5 f40 := vq_of xf40 (vq_mod5 hw)
          refine lv_if_le (tgt := 48) X.1 X.2.1 dX4_layOut_39 (by decide) (fun c41 => ?_) (fun c41 => ?_)
          · have i42 : ¬ (0 : Int) < (z10_3.toInt % w) := vq_le c41 xf40 (by decide +kernel)
            obtain ⟨y44, ey44⟩ : ∃ y : Int32, y = z10_3 + Int32.ofInt 1 := ⟨_, rfl⟩
            have xy44 : y44.toInt = (z10_3.toInt + 1) := sg_exadd ey44 (iv_lt (b' := 29) (iv_gt_of c12) hz10_3 yf11 (by decide +kernel)) (iv_c _ (a := 1) (b := 1) (by decide +kernel)) (by decide +kernel) rfl (by decide +kernel)
            refine lv_iinc (v := y44) (lv' := [(3, .int y44), (0, .ref a0), (1, .int z10_1), (2, .int z10_2)]) X.1 X.2.1 dX4_layOut_48 hl (k := 3) rfl ey44.symm (by decide) rfl (fun ls hl => ?_)
            refine lv_goto (tgt := 6) X.1 X.2.1 dX4_layOut_51 (by decide) ?_
            exact ih10 _ _ z10_1 z10_2 y44 hS (lv_sub hl [1, 2, 3, 0] rfl) hz10_1 hz10_2 (iv_of (iv_add (a' := 1) (b' := 30) ey44 (iv_lt (b' := 29) (iv_gt_of c12) hz10_3 yf11 (by decide +kernel)) (iv_c _ (a := 1) (b := 1) (by decide +kernel)) (by decide +kernel)) (a' := 0) (b' := 30) (by decide +kernel)) ⟨vNl_s xf10.1 (hz10_3).1 xy44 (Or.inr ⟨i38, rfl⟩), vNf_s xf10.2.1 (hz10_3).1 xy44 (Or.inr ⟨i42, rfl⟩), by rw [xy44]; omega⟩ (iv_stepU ey44 (iv_lt (b' := 29) (iv_gt_of c12) hz10_3 yf11 (by decide +kernel)) (by decide +kernel) hN10)
          · have i43 : (0 : Int) < (z10_3.toInt % w) := vq_lt (iv_gt_of c41) (by decide +kernel) xf40
            refine lv_iload_n X.1 X.2.1 dX4_layOut_42 rfl (lv_at hl 2 rfl) ?_
            refine lv_iconst (v := 1) X.1 X.2.1 dX4_layOut_43 (by decide +kernel) ?_
            refine lv_iload_n X.1 X.2.1 dX4_layOut_44 rfl (lv_at hl 3 rfl) ?_
            refine lv_ishl X.1 X.2.1 dX4_layOut_45 ?_
            refine lv_topi (fun f45 ef45 => ?_)
            have wf45 : f45 = ((1 : Int32) <<< (z10_3 &&& 31)) := ef45
            refine lv_ior X.1 X.2.1 dX4_layOut_46 ?_
            refine lv_topi (fun f46 ef46 => ?_)
            have wf46 : f46 = (z10_2 ||| ((1 : Int32) <<< (z10_3 &&& 31))) := ef46.trans (by rw [wf45])
            refine lv_istore_n (lv' := [(2, .int f46), (0, .ref a0), (1, .int z10_1), (3, .int z10_3)]) X.1 X.2.1 dX4_layOut_47 rfl hl (by decide) rfl (fun ls hl => ?_)
            obtain ⟨y47, ey47⟩ : ∃ y : Int32, y = z10_3 + Int32.ofInt 1 := ⟨_, rfl⟩
            have xy47 : y47.toInt = (z10_3.toInt + 1) := sg_exadd ey47 (iv_lt (b' := 29) (iv_gt_of c12) hz10_3 yf11 (by decide +kernel)) (iv_c _ (a := 1) (b := 1) (by decide +kernel)) (by decide +kernel) rfl (by decide +kernel)
            refine lv_iinc (v := y47) (lv' := [(3, .int y47), (2, .int f46), (0, .ref a0), (1, .int z10_1)]) X.1 X.2.1 dX4_layOut_48 hl (k := 3) rfl ey47.symm (by decide) rfl (fun ls hl => ?_)
            refine lv_goto (tgt := 6) X.1 X.2.1 dX4_layOut_51 (by decide) ?_
            exact ih10 _ _ z10_1 f46 y47 hS (lv_sub hl [2, 3, 1, 0] rfl) hz10_1 (iv_of (iv_or 30 ef46 hz10_2 (sg_shl1 ef45 (iv_lt (b' := 29) (iv_gt_of c12) hz10_3 yf11 (by decide +kernel)) (by decide +kernel)) (by decide +kernel)) (a' := 0) (b' := 1073741823) (by decide +kernel)) (iv_of (iv_add (a' := 1) (b' := 30) ey47 (iv_lt (b' := 29) (iv_gt_of c12) hz10_3 yf11 (by decide +kernel)) (iv_c _ (a := 1) (b := 1) (by decide +kernel)) (by decide +kernel)) (a' := 0) (b' := 30) (by decide +kernel)) ⟨vNl_s xf10.1 (hz10_3).1 xy47 (Or.inr ⟨i38, rfl⟩), vNf_s xf10.2.1 (hz10_3).1 xy47 (Or.inl ⟨i43, wf46.trans (by rw [lwBit_x])⟩), by rw [xy47]; omega⟩ (iv_stepU ey47 (iv_lt (b' := 29) (iv_gt_of c12) hz10_3 yf11 (by decide +kernel)) (by decide +kernel) hN10)
        · have i39 : (z10_3.toInt % w) < (w - 1) := vq_lt (iv_gt_of c37) xf34 xf36
          refine lv_iload_n X.1 X.2.1 dX4_layOut_28 rfl (lv_at hl 1 rfl) ?_
          refine lv_iconst (v := 1) X.1 X.2.1 dX4_layOut_29 (by decide +kernel) ?_
          refine lv_iload_n X.1 X.2.1 dX4_layOut_30 rfl (lv_at hl 3 rfl) ?_
          refine lv_ishl X.1 X.2.1 dX4_layOut_31 ?_
          refine lv_topi (fun f48 ef48 => ?_)
          have wf48 : f48 = ((1 : Int32) <<< (z10_3 &&& 31)) := ef48
          refine lv_ior X.1 X.2.1 dX4_layOut_32 ?_
          refine lv_topi (fun f49 ef49 => ?_)
          have wf49 : f49 = (z10_1 ||| ((1 : Int32) <<< (z10_3 &&& 31))) := ef49.trans (by rw [wf48])
          refine lv_istore_n (lv' := [(1, .int f49), (0, .ref a0), (2, .int z10_2), (3, .int z10_3)]) X.1 X.2.1 dX4_layOut_33 rfl hl (by decide) rfl (fun ls hl => ?_)
          refine lv_aload_n X.1 X.2.1 dX4_layOut_34 rfl (lv_at hl 1 rfl) ?_
          refine lv_iload_n X.1 X.2.1 dX4_layOut_35 rfl (lv_at hl 3 rfl) ?_
          refine ca_X4_column_g X hK hG hC (fun _ h => h) hS hb a0 h0 z10_3 (iv_lt (b' := 29) (iv_gt_of c12) hz10_3 yf11 (by decide +kernel)) hw hz.2.2.1 wl_3_181 hl.1 (rest := []) rfl (Nat.le_of_ble_eq_true rfl) ⟨Nat.le_of_ble_eq_true rfl, Nat.le_of_ble_eq_true rfl⟩ ⟨Nat.le_of_ble_eq_true rfl, Nat.le_of_ble_eq_true rfl⟩ dX4_layOut_36 (fun f50 locs hf50 hS => ?_)
          have xf50 : f50.toInt = (z10_3.toInt % w) := hf50
          have yf50 : iv 0 5 f50 := vq_of xf50 (vq_mod5 hw)
          refine lv_if_le (tgt := 48) X.1 X.2.1 dX4_layOut_39 (by decide) (fun c51 => ?_) (fun c51 => ?_)
          · have i52 : ¬ (0 : Int) < (z10_3.toInt % w) := vq_le c51 xf50 (by decide +kernel)
            obtain ⟨y54, ey54⟩ : ∃ y : Int32, y = z10_3 + Int32.ofInt 1 := ⟨_, rfl⟩
            have xy54 : y54.toInt = (z10_3.toInt + 1) := sg_exadd ey54 (iv_lt (b' := 29) (iv_gt_of c12) hz10_3 yf11 (by decide +kernel)) (iv_c _ (a := 1) (b := 1) (by decide +kernel)) (by decide +kernel) rfl (by decide +kernel)
            refine lv_iinc (v := y54) (lv' := [(3, .int y54), (1, .int f49), (0, .ref a0), (2, .int z10_2)]) X.1 X.2.1 dX4_layOut_48 hl (k := 3) rfl ey54.symm (by decide) rfl (fun ls hl => ?_)
            refine lv_goto (tgt := 6) X.1 X.2.1 dX4_layOut_51 (by decide) ?_
            exact ih10 _ _ f49 z10_2 y54 hS (lv_sub hl [2, 1, 3, 0] rfl) (iv_of (iv_or 30 ef49 hz10_1 (sg_shl1 ef48 (iv_lt (b' := 29) (iv_gt_of c12) hz10_3 yf11 (by decide +kernel)) (by decide +kernel)) (by decide +kernel)) (a' := 0) (b' := 1073741823) (by decide +kernel)) hz10_2 (iv_of (iv_add (a' := 1) (b' := 30) ey54 (iv_lt (b' := 29) (iv_gt_of c12) hz10_3 yf11 (by decide +kernel)) (iv_c _ (a := 1) (b := 1) (by decide +kernel)) (by decide +kernel)) (a' := 0) (b' := 30) (by decide +kernel)) ⟨vNl_s xf10.1 (hz10_3).1 xy54 (Or.inl ⟨i39, wf49.trans (by rw [lwBit_x])⟩), vNf_s xf10.2.1 (hz10_3).1 xy54 (Or.inr ⟨i52, rfl⟩), by rw [xy54]; omega⟩ (iv_stepU ey54 (iv_lt (b' := 29) (iv_gt_of c12) hz10_3 yf11 (by decide +kernel)) (by decide +kernel) hN10)
          · have i53 : (0 : Int) < (z10_3.toInt % w) := vq_lt (iv_gt_of c51) (by decide +kernel) xf50
            refine lv_iload_n X.1 X.2.1 dX4_layOut_42 rfl (lv_at hl 2 rfl) ?_
            refine lv_iconst (v := 1) X.1 X.2.1 dX4_layOut_43 (by decide +kernel) ?_
            refine lv_iload_n X.1 X.2.1 dX4_layOut_44 rfl (lv_at hl 3 rfl) ?_
            refine lv_ishl X.1 X.2.1 dX4_layOut_45 ?_
            refine lv_topi (fun f55 ef55 => ?_)
            have wf55 : f55 = ((1 : Int32) <<< (z10_3 &&& 31)) := ef55
            refine lv_ior X.1 X.2.1 dX4_layOut_46 ?_
            refine lv_topi (fun f56 ef56 => ?_)
            have wf56 : f56 = (z10_2 ||| ((1 : Int32) <<< (z10_3 &&& 31))) := ef56.trans (by rw [wf55])
            refine lv_istore_n (lv' := [(2, .int f56), (1, .int f49), (0, .ref a0), (3, .int z10_3)]) X.1 X.2.1 dX4_layOut_47 rfl hl (by decide) rfl (fun ls hl => ?_)
            obtain ⟨y57, ey57⟩ : ∃ y : Int32, y = z10_3 + Int32.ofInt 1 := ⟨_, rfl⟩
            have xy57 : y57.toInt = (z10_3.toInt + 1) := sg_exadd ey57 (iv_lt (b' := 29) (iv_gt_of c12) hz10_3 yf11 (by decide +kernel)) (iv_c _ (a := 1) (b := 1) (by decide +kernel)) (by decide +kernel) rfl (by decide +kernel)
            refine lv_iinc (v := y57) (lv' := [(3, .int y57), (2, .int f56), (1, .int f49), (0, .ref a0)]) X.1 X.2.1 dX4_layOut_48 hl (k := 3) rfl ey57.symm (by decide) rfl (fun ls hl => ?_)
            refine lv_goto (tgt := 6) X.1 X.2.1 dX4_layOut_51 (by decide) ?_
            exact ih10 _ _ f49 f56 y57 hS (lv_sub hl [3, 2, 1, 0] rfl) (iv_of (iv_or 30 ef49 hz10_1 (sg_shl1 ef48 (iv_lt (b' := 29) (iv_gt_of c12) hz10_3 yf11 (by decide +kernel)) (by decide +kernel)) (by decide +kernel)) (a' := 0) (b' := 1073741823) (by decide +kernel)) (iv_of (iv_or 30 ef56 hz10_2 (sg_shl1 ef55 (iv_lt (b' := 29) (iv_gt_of c12) hz10_3 yf11 (by decide +kernel)) (by decide +kernel)) (by decide +kernel)) (a' := 0) (b' := 1073741823) (by decide +kernel)) (iv_of (iv_add (a' := 1) (b' := 30) ey57 (iv_lt (b' := 29) (iv_gt_of c12) hz10_3 yf11 (by decide +kernel)) (iv_c _ (a := 1) (b := 1) (by decide +kernel)) (by decide +kernel)) (a' := 0) (b' := 30) (by decide +kernel)) ⟨vNl_s xf10.1 (hz10_3).1 xy57 (Or.inl ⟨i39, wf49.trans (by rw [lwBit_x])⟩), vNf_s xf10.2.1 (hz10_3).1 xy57 (Or.inl ⟨i53, wf56.trans (by rw [lwBit_x])⟩), by rw [xy57]; omega⟩ (iv_stepU ey57 (iv_lt (b' := 29) (iv_gt_of c12) hz10_3 yf11 (by decide +kernel)) (by decide +kernel) hN10)
  exact B10_6 _ _ _ 0 0 0 hS (lv_sub hl [3, 2, 1, 0] rfl) (iv_of (iv_c 0 (a := 0) (b := 0) (by decide +kernel)) (a' := 0) (b' := 1073741823) (by decide +kernel)) (iv_of (iv_c 0 (a := 0) (b := 0) (by decide +kernel)) (a' := 0) (b' := 1073741823) (by decide +kernel)) (iv_of (iv_c 0 (a := 0) (b := 0) (by decide +kernel)) (a' := 0) (b' := 30) (by decide +kernel)) ⟨by rw [show (0 : Int32).toInt.toNat = 0 from by decide +kernel]; rfl, by rw [show (0 : Int32).toInt.toNat = 0 from by decide +kernel]; rfl, by rw [show (0 : Int32).toInt = 0 from by decide +kernel]; omega⟩ (Nat.le_refl _)

theorem ca_X4_layOut_g  {a w1 w2 w cn L : Int} {z : sgZg}  (X : CallFix p m c cc nL s args sg_tbl own) (hK : va_K D vwCl tys s) (hG : sgG (KG a a w1 w2 z P) D vwCl (fun q : Nat => base ≤ q) tys ad ks H) (hC : sgC base s) (hS : va_S (fun q : Nat => base ≤ q) s.heap H locs) (hb : base ≤ s.heap.size) (a0 : Nat) (h0 : isK ad ks 2 a0) (hl0 : 0 ≤ sgL1 P ∧ sgL1 P ≤ 240) (hav : 0 ≤ a ∧ a ≤ sgL1 P) (hz : z 0 5 = (cn, cn) ∧ z 0 6 = ((vAll cn).toInt, (vAll cn).toInt) ∧ z 0 7 = (w, w) ∧ z 1 2 = (L, L)) (hc : 1 ≤ cn ∧ cn ≤ 30) (hw : 1 ≤ w ∧ w ≤ 6) (hL : 2 ≤ L ∧ L ≤ 5) (hl : Cond.methodLink own index yX4_layOut ∈ sg_tbl) (hsize : ls.size = nL) (hst : st0 = [].reverse ++ .ref a0 :: rest) (hW : (rest.map fun v => v.category).sum ≤ 8) (hR : 2 ≤ R.frames ∧ 48 ≤ R.locals) (hf : cells ≤ R.cells ∧ slots ≤ R.slots) (hdg : decode cc pc = .ok (.invokevirtual index, 3)) (kk : ∀ (t : State) (H1 : Heap) (locs1 : List Loc), t.heap = H1 → ((fun t => ∃ z9 : sgZg, (∀ x y : Nat, x < 2 → z9 x y = z x y) ∧ (∀ k : Nat, k < 4 → z9 2 k = (vSd w k, vSd w k) ∧ z9 4 k = ((vLs w cn L k).toInt, (vLs w cn L k).toInt)) ∧ sgB (KG a a w1 w2 z9 P) D vwCl base tys ad ks t) t) → va_S (fun q : Nat => base ≤ q) s.heap H1 locs1 → W p l e R s m args below meth c H1 locs1 cells slots Q (F0 m (pc + 3) ls rest)) : W p l e R s m args below meth c H locs cells slots Q (F0 m pc ls st0) :=
  sg_callV2v X hK hG hC hS hb (m_X4_layOut_g l a0 h0 hl0 hav hz hc hw hL) h0 (k := 2) (ci := 4) rfl (C := RX4) (T := TX4) (N := 15) rfl wl_3_180 wl_1_7 wl_3_179 wl_0_6 (n := 0) (by decide +kernel) rfl rfl rfl hl hsize hst hW hR hf hdg kk

set_option maxHeartbeats 8000000 in
set_option maxRecDepth 100000 in
theorem m_X4_startsBut_g (l : Launch) {D : va_G} {base : Nat} {tys : List (ClassId × FieldType)} {ad ks : List Nat} {P : sgPm}{a w1 w2 w cn L : Int} {z : sgZg}  {Hx : Heap} (a0 : Nat) (h0 : isK ad ks 2 a0) (x1 : Int32) (h1 : iv (-1) (-1) x1) (x2 : Int32) (h2 : iv 0 3 x2) (x3 : Int32) (hz12 : z 1 2 = (L, L)) (hlst : ∀ k : Nat, k < 4 → z 2 k = (vSd w k, vSd w k) ∧ z 4 k = ((vLs w cn L k).toInt, (vLs w cn L k).toInt)) (hL : 2 ≤ L ∧ L ≤ 5) (hw : 1 ≤ w ∧ w ≤ 6) : sgPi l (KG a a w1 w2 z P) D vwCl base tys ad ks Hx yX4_startsBut cX4_startsBut 6 (some .int) ({ frames := 0, cells := 0, slots := 0, locals := 0 }) [.ref a0, .int x1, .int x2, .int x3] (fun r : Int32 => r = vSb (vLs w cn L x2.toNatClampNeg) (vSd w x2.toNatClampNeg) x3 L.toNat) := by
  refine sg_ofP (Pq := fun Hx => va_Qi (fun r (_ : Unit) => (fun r : Int32 => r = vSb (vLs w cn L x2.toNatClampNeg) (vSd w x2.toNatClampNeg) x3 L.toNat) r) (fun _ t => t.heap = Hx) (fun _ : Nat => False)) (by decide +kernel) (Nat.le_of_ble_eq_true rfl) (fun p e s m below meth c X hr hlk hb hK hC hG ls hl => ?_)
  have hS : va_S (fun _ : Nat => False) s.heap s.heap [] := va_S.rf
  have hl : lv_has ls 6 [(0, .ref a0), (1, .int x1), (2, .int x2), (3, .int x3)] := hl
  refine lv_aload_n X.1 X.2.1 dX4_startsBut_0 rfl (lv_at hl 0 rfl) ?_
  refine gf_X4_4g X hK hG h0 wl_1_216 dX4_startsBut_1 (fun q10 hq10 => ?_)
  refine lv_iload_n X.1 X.2.1 dX4_startsBut_4 rfl (lv_at hl 2 rfl) ?_
  refine al_53g X hK hG hq10 (iv_vpin h2 (by decide +kernel)) dX4_startsBut_5 (fun f11 hf11 => ?_)
  have wf11 : f11 = vLs w cn L x2.toNatClampNeg := Int32.toInt_inj.mp (vq_pin (hlst _ (vq_n4 h2)).2 hf11)
  refine lv_istore (lv' := [(4, .int f11), (0, .ref a0), (1, .int x1), (2, .int x2), (3, .int x3)]) X.1 X.2.1 dX4_startsBut_6 hl (by decide) rfl (fun ls hl => ?_)
  refine lv_iconst (v := 0) X.1 X.2.1 dX4_startsBut_8 (by decide +kernel) ?_
  refine lv_istore (lv' := [(5, .int 0), (4, .int f11), (0, .ref a0), (1, .int x1), (2, .int x2), (3, .int x3)]) X.1 X.2.1 dX4_startsBut_9 hl (by decide) rfl (fun ls hl => ?_)
  have B12_11 : ∀ (N : Nat) (locs : List Loc) (ls : Array Slot) (z12_4 : Int32) (z12_5 : Int32), va_S (fun _ : Nat => False) s.heap s.heap locs → lv_has ls 6 [(0, .ref a0), (1, .int x1), (2, .int x2), (3, .int x3), (4, .int z12_4), (5, .int z12_5)] → iv 0 5 z12_5 → (z12_4 = vSb (vLs w cn L x2.toNatClampNeg) (vSd w x2.toNatClampNeg) x3 (z12_5 : Int32).toInt.toNat ∧ (z12_5 : Int32).toInt ≤ L) → (6 - z12_5.toInt).toNat ≤ N → W p l e (headSpec (Cond.code yX4_startsBut cX4_startsBut 6 (some .int) :: sg_tbl) ({ frames := 0, cells := 0, slots := 0, locals := 0 })).room s m #[.ref a0, .int x1, .int x2, .int x3] below meth c s.heap locs 0 0 (MQ below (va_Qi (fun r (_ : Unit) => (fun r : Int32 => r = vSb (vLs w cn L x2.toNatClampNeg) (vSd w x2.toNatClampNeg) x3 L.toNat) r) (fun _ t => t.heap = s.heap) (fun _ : Nat => False)) #[.ref a0, .int x1, .int x2, .int x3] s 0 0 (fun _ : Nat => False)) (F0 m 11 ls []) := by
    intro N; induction N with
    | zero =>
      intro locs ls z12_4 z12_5 hS hl hz12_5 xf12 hN
      exact absurd hN (by have := iv_up hz12_5; omega)
    | succ N ih12 =>
      intro locs ls z12_4 z12_5 hS hl hz12_5 xf12 hN12
      refine lv_iload X.1 X.2.1 dX4_startsBut_11 (lv_at hl 5 rfl) ?_
      refine lv_aload_n X.1 X.2.1 dX4_startsBut_13 rfl (lv_at hl 0 rfl) ?_
      refine gf_X4_0g X hK hG h0 wl_1_209 dX4_startsBut_14 (fun q13 hq13 => ?_)
      refine lv_iconst (v := 2) X.1 X.2.1 dX4_startsBut_17 (by decide +kernel) ?_
      refine al_50g X hK hG hq13 (iv_vpin (iv_c 2 (a := 2) (b := 2) (by decide +kernel)) (by decide +kernel)) dX4_startsBut_18 (fun f14 hf14 => ?_)
      have xf14 : f14.toInt = L := vq_pin (t := L) hz12 (zk_at (z := z) (a := 1) (sg_cl (iv_c 2 (a := 2) (b := 2) (by decide +kernel)) (by decide)) hf14)
      have yf14 : iv 2 5 f14 := vq_of xf14 hL
      refine lv_icmp_ge (tgt := 55) X.1 X.2.1 dX4_startsBut_19 (by decide) (fun c15 => ?_) (fun c15 => ?_)
      · have i16 : ¬ z12_5.toInt < L := vq_le c15 xf14 rfl
        refine lv_iload X.1 X.2.1 dX4_startsBut_55 (lv_at hl 4 rfl) ?_
        exact sg_iretP X hr hlk hS (xf12.1.trans (by rw [show z12_5.toInt = L from Int.le_antisymm xf12.2 (Int.not_lt.mp i16)])) dX4_startsBut_57
      · have i17 : z12_5.toInt < L := vq_lt (iv_gt_of c15) rfl xf14
        refine lv_iload X.1 X.2.1 dX4_startsBut_22 (lv_at hl 4 rfl) ?_
        refine lv_if_eq (tgt := 55) X.1 X.2.1 dX4_startsBut_24 (by decide) (fun c18 => ?_) (fun c18 => ?_)
        · have i19 : z12_4.toInt = (0 : Int) := vq_eq c18 rfl (by decide +kernel)
          refine lv_iload X.1 X.2.1 dX4_startsBut_55 (lv_at hl 4 rfl) ?_
          exact sg_iretP X hr hlk hS (c18.trans (vSb_z (xf12.1.symm.trans c18) (show z12_5.toInt.toNat ≤ L.toNat from by have := xf12.2; omega)).symm) dX4_startsBut_57
        · have i20 : (z12_4.toInt = (0 : Int)) = False := vq_ne c18 rfl (by decide +kernel)
          refine lv_iload X.1 X.2.1 dX4_startsBut_27 (lv_at hl 5 rfl) ?_
          refine lv_iload_n X.1 X.2.1 dX4_startsBut_29 rfl (lv_at hl 1 rfl) ?_
          refine lv_icmp_eq (tgt := 49) X.1 X.2.1 dX4_startsBut_30 (by decide) (fun c21 => ?_) (fun c21 => ?_)
          · have i22 : z12_5.toInt = x1.toInt := vq_eq c21 rfl rfl
            exact ((iv_no (a := 0) (b := (-1)) (iv_eqm c21 (iv_lt (b' := 4) (iv_gt_of c15) hz12_5 yf14 (by decide +kernel)) h1 (by decide +kernel)) (by decide +kernel))).elim
          · have i23 : (z12_5.toInt = x1.toInt) = False := vq_ne c21 rfl rfl
            refine lv_iload X.1 X.2.1 dX4_startsBut_33 (lv_at hl 4 rfl) ?_
            refine lv_iload_n X.1 X.2.1 dX4_startsBut_35 rfl (lv_at hl 3 rfl) ?_
            refine lv_iload X.1 X.2.1 dX4_startsBut_36 (lv_at hl 5 rfl) ?_
            refine lv_aload_n X.1 X.2.1 dX4_startsBut_38 rfl (lv_at hl 0 rfl) ?_
            refine gf_X4_2g X hK hG h0 wl_1_214 dX4_startsBut_39 (fun q24 hq24 => ?_)
            refine lv_iload_n X.1 X.2.1 dX4_startsBut_42 rfl (lv_at hl 2 rfl) ?_
            refine al_51g X hK hG hq24 (iv_vpin h2 (by decide +kernel)) dX4_startsBut_43 (fun f25 hf25 => ?_)
            have xf25 : f25.toInt = vSd w x2.toNatClampNeg := vq_pin (hlst _ (vq_n4 h2)).1 hf25
            have yf25 : iv 0 7 f25 := vq_of xf25 (vSd_iv hw)
            refine lv_imul X.1 X.2.1 dX4_startsBut_44 ?_
            refine lv_topi (fun f26 ef26 => ?_)
            have xf26 : f26.toInt = (z12_5.toInt * (vSd w x2.toNatClampNeg)) := sg_exmul ef26 (iv_lt (b' := 4) (iv_gt_of c15) hz12_5 yf14 (by decide +kernel)) yf25 (by decide +kernel) rfl xf25
            obtain ⟨f27, ef27⟩ : ∃ y : Int32, y = (x3.toUInt32 >>> ((f26 : Int32).toUInt32 &&& Int32.toUInt32 31)).toInt32 := ⟨_, rfl⟩
            refine lv_iushr (v := f27) X.1 X.2.1 dX4_startsBut_45 ef27.symm ?_
            have wf27 : f27 = (vShr x3 (Int32.ofInt (z12_5.toInt * (vSd w x2.toNatClampNeg)))) := ef27.trans (by rw [(vq_oi (x := f26) xf26)]; rfl)
            refine lv_iand X.1 X.2.1 dX4_startsBut_46 ?_
            refine lv_topi (fun f28 ef28 => ?_)
            have wf28 : f28 = (z12_4 &&& (vShr x3 (Int32.ofInt (z12_5.toInt * (vSd w x2.toNatClampNeg))))) := ef28.trans (by rw [wf27])
            refine lv_istore (lv' := [(4, .int f28), (0, .ref a0), (1, .int x1), (2, .int x2), (3, .int x3), (5, .int z12_5)]) X.1 X.2.1 dX4_startsBut_47 hl (by decide) rfl (fun ls hl => ?_)
            obtain ⟨y29, ey29⟩ : ∃ y : Int32, y = z12_5 + Int32.ofInt 1 := ⟨_, rfl⟩
            have xy29 : y29.toInt = (z12_5.toInt + 1) := sg_exadd ey29 (iv_lt (b' := 4) (iv_gt_of c15) hz12_5 yf14 (by decide +kernel)) (iv_c _ (a := 1) (b := 1) (by decide +kernel)) (by decide +kernel) rfl (by decide +kernel)
            refine lv_iinc (v := y29) (lv' := [(5, .int y29), (4, .int f28), (0, .ref a0), (1, .int x1), (2, .int x2), (3, .int x3)]) X.1 X.2.1 dX4_startsBut_49 hl (k := 5) rfl ey29.symm (by decide) rfl (fun ls hl => ?_)
            refine lv_goto (tgt := 11) X.1 X.2.1 dX4_startsBut_52 (by decide) ?_
            exact ih12 _ _ f28 y29 hS (lv_sub hl [2, 3, 4, 5, 1, 0] rfl) (iv_of (iv_add (a' := 1) (b' := 5) ey29 (iv_lt (b' := 4) (iv_gt_of c15) hz12_5 yf14 (by decide +kernel)) (iv_c _ (a := 1) (b := 1) (by decide +kernel)) (by decide +kernel)) (a' := 0) (b' := 5) (by decide +kernel)) ⟨vSb_s xf12.1 (hz12_5).1 xy29 wf28, by rw [xy29]; omega⟩ (iv_stepU ey29 (iv_lt (b' := 4) (iv_gt_of c15) hz12_5 yf14 (by decide +kernel)) (by decide +kernel) hN12)
  exact B12_11 _ _ _ f11 0 hS (lv_sub hl [2, 3, 4, 5, 1, 0] rfl) (iv_of (iv_c 0 (a := 0) (b := 0) (by decide +kernel)) (a' := 0) (b' := 5) (by decide +kernel)) ⟨wf11.trans (by rw [show (0 : Int32).toInt.toNat = 0 from by decide +kernel]; rfl), by rw [show (0 : Int32).toInt = 0 from by decide +kernel]; omega⟩ (Nat.le_refl _)

theorem ca_X4_startsBut_g  {a w1 w2 w cn L : Int} {z : sgZg}  (X : CallFix p m c cc nL s args sg_tbl own) (hK : va_K D vwCl tys s) (hG : sgG (KG a a w1 w2 z P) D vwCl (fun q : Nat => base ≤ q) tys ad ks H) (hC : sgC base s) (hA : ∀ q : Nat, A q → base ≤ q) (hS : va_S A s.heap H locs) (hb : base ≤ s.heap.size) (a0 : Nat) (h0 : isK ad ks 2 a0) (x1 : Int32) (h1 : iv (-1) (-1) x1) (x2 : Int32) (h2 : iv 0 3 x2) (x3 : Int32) (hz12 : z 1 2 = (L, L)) (hlst : ∀ k : Nat, k < 4 → z 2 k = (vSd w k, vSd w k) ∧ z 4 k = ((vLs w cn L k).toInt, (vLs w cn L k).toInt)) (hL : 2 ≤ L ∧ L ≤ 5) (hw : 1 ≤ w ∧ w ≤ 6) (hl : Cond.methodLink own index yX4_startsBut ∈ sg_tbl) (hsize : ls.size = nL) (hst : st0 = [.int x1, .int x2, .int x3].reverse ++ .ref a0 :: rest) (hW : (rest.map fun v => v.category).sum ≤ 8) (hR : 1 ≤ R.frames ∧ 25 ≤ R.locals) (hf : cells ≤ R.cells ∧ slots ≤ R.slots) (hdg : decode cc pc = .ok (.invokevirtual index, 3)) (kk : ∀ (r : Int32) (locs1 : List Loc), (fun r : Int32 => r = vSb (vLs w cn L x2.toNatClampNeg) (vSd w x2.toNatClampNeg) x3 L.toNat) r → va_S A s.heap H locs1 → W p l e R s m args below meth c H locs1 cells slots Q (F0 m (pc + 3) ls (.int r :: rest))) : W p l e R s m args below meth c H locs cells slots Q (F0 m pc ls st0) :=
  sg_callPVi X hK hG hC hA hS hb (m_X4_startsBut_g l a0 h0 x1 h1 x2 h2 x3 hz12 hlst hL hw) h0 (k := 2) (ci := 4) rfl (C := RX4) (T := TX4) (N := 15) rfl wl_3_200 wl_1_7 wl_3_199 wl_0_9 (n := 3) (by decide +kernel) rfl rfl rfl hl hsize hst hW hR hf hdg kk

set_option maxHeartbeats 8000000 in
set_option maxRecDepth 100000 in
theorem m_X4_hasLine_g (l : Launch) {D : va_G} {base : Nat} {tys : List (ClassId × FieldType)} {ad ks : List Nat} {P : sgPm}{a w1 w2 w cn L : Int} {z : sgZg}  {Hx : Heap} (a0 : Nat) (h0 : isK ad ks 2 a0) (x1 : Int32) (hz12 : z 1 2 = (L, L)) (hlst : ∀ k : Nat, k < 4 → z 2 k = (vSd w k, vSd w k) ∧ z 4 k = ((vLs w cn L k).toInt, (vLs w cn L k).toInt)) (hL : 2 ≤ L ∧ L ≤ 5) (hw : 1 ≤ w ∧ w ≤ 6) : sgPi l (KG a a w1 w2 z P) D vwCl base tys ad ks Hx yX4_hasLine cX4_hasLine 3 (some .boolean) ({ frames := 1, cells := 0, slots := 0, locals := 25 }) [.ref a0, .int x1] (fun r : Int32 => (r = 1 ∧ lnC x1 w cn L) ∨ (r = 0 ∧ ¬ lnC x1 w cn L)) := by
  refine sg_ofP (Pq := fun Hx => va_Qi (fun r (_ : Unit) => (fun r : Int32 => (r = 1 ∧ lnC x1 w cn L) ∨ (r = 0 ∧ ¬ lnC x1 w cn L)) r) (fun _ t => t.heap = Hx) (fun _ : Nat => False)) (by decide +kernel) (Nat.le_of_ble_eq_true rfl) (fun p e s m below meth c X hr hlk hb hK hC hG ls hl => ?_)
  have hS : va_S (fun _ : Nat => False) s.heap s.heap [] := va_S.rf
  have hl : lv_has ls 3 [(0, .ref a0), (1, .int x1)] := hl
  refine lv_iconst (v := 0) X.1 X.2.1 dX4_hasLine_0 (by decide +kernel) ?_
  refine lv_istore_n (lv' := [(2, .int 0), (0, .ref a0), (1, .int x1)]) X.1 X.2.1 dX4_hasLine_1 rfl hl (by decide) rfl (fun ls hl => ?_)
  have B10_2 : ∀ (N : Nat) (locs : List Loc) (ls : Array Slot) (z10_2 : Int32), va_S (fun _ : Nat => False) s.heap s.heap locs → lv_has ls 3 [(0, .ref a0), (1, .int x1), (2, .int z10_2)] → iv 0 4 z10_2 → ((∀ k : Nat, (k : Int) < (z10_2 : Int32).toInt → vSb (vLs w cn L k) (vSd w k) x1 L.toNat = 0)) → (5 - z10_2.toInt).toNat ≤ N → W p l e (headSpec (Cond.code yX4_hasLine cX4_hasLine 3 (some .boolean) :: sg_tbl) ({ frames := 1, cells := 0, slots := 0, locals := 25 })).room s m #[.ref a0, .int x1] below meth c s.heap locs 0 0 (MQ below (va_Qi (fun r (_ : Unit) => (fun r : Int32 => (r = 1 ∧ lnC x1 w cn L) ∨ (r = 0 ∧ ¬ lnC x1 w cn L)) r) (fun _ t => t.heap = s.heap) (fun _ : Nat => False)) #[.ref a0, .int x1] s 0 0 (fun _ : Nat => False)) (F0 m 2 ls []) := by
    intro N; induction N with
    | zero =>
      intro locs ls z10_2 hS hl hz10_2 xf10 hN
      exact absurd hN (by have := iv_up hz10_2; omega)
    | succ N ih10 =>
      intro locs ls z10_2 hS hl hz10_2 xf10 hN10
      refine lv_iload_n X.1 X.2.1 dX4_hasLine_2 rfl (lv_at hl 2 rfl) ?_
      refine lv_iconst (v := 4) X.1 X.2.1 dX4_hasLine_3 (by decide +kernel) ?_
      refine lv_icmp_ge (tgt := 25) X.1 X.2.1 dX4_hasLine_4 (by decide) (fun c11 => ?_) (fun c11 => ?_)
      · have i12 : ¬ z10_2.toInt < (4 : Int) := vq_le c11 (by decide +kernel) rfl
        refine lv_iconst (v := 0) X.1 X.2.1 dX4_hasLine_25 (by decide +kernel) ?_
        exact sg_zretP X hr (sg_zn (iv_of (iv_c 0 (a := 0) (b := 0) (by decide +kernel)) (a' := 0) (b' := 1) (by decide +kernel))) hlk hS (Or.inr ⟨rfl, fun ⟨k, hk, hn⟩ => hn (xf10 k (by omega))⟩) dX4_hasLine_26
      · have i13 : z10_2.toInt < (4 : Int) := vq_lt (iv_gt_of c11) rfl (by decide +kernel)
        refine lv_aload_n X.1 X.2.1 dX4_hasLine_7 rfl (lv_at hl 0 rfl) ?_
        refine lv_iconst (v := (-1)) X.1 X.2.1 dX4_hasLine_8 (by decide +kernel) ?_
        refine lv_iload_n X.1 X.2.1 dX4_hasLine_9 rfl (lv_at hl 2 rfl) ?_
        refine lv_iload_n X.1 X.2.1 dX4_hasLine_10 rfl (lv_at hl 1 rfl) ?_
        refine ca_X4_startsBut_g X hK hG hC (fun _ h => h.elim) hS hb a0 h0 (-1) (iv_c (-1) (a := (-1)) (b := (-1)) (by decide +kernel)) z10_2 (iv_lt (b' := 3) (iv_gt_of c11) hz10_2 (iv_c 4 (a := 4) (b := 4) (by decide +kernel)) (by decide +kernel)) x1 hz12 hlst hL hw wl_3_197 hl.1 (rest := []) rfl (Nat.le_of_ble_eq_true rfl) ⟨Nat.le_of_ble_eq_true rfl, Nat.le_of_ble_eq_true rfl⟩ ⟨Nat.le_of_ble_eq_true rfl, Nat.le_of_ble_eq_true rfl⟩ dX4_hasLine_11 (fun f14 locs hf14 hS => ?_)
        refine lv_if_eq (tgt := 19) X.1 X.2.1 dX4_hasLine_14 (by decide) (fun c15 => ?_) (fun c15 => ?_)
        · obtain ⟨y16, ey16⟩ : ∃ y : Int32, y = z10_2 + Int32.ofInt 1 := ⟨_, rfl⟩
          have xy16 : y16.toInt = (z10_2.toInt + 1) := sg_exadd ey16 (iv_lt (b' := 3) (iv_gt_of c11) hz10_2 (iv_c 4 (a := 4) (b := 4) (by decide +kernel)) (by decide +kernel)) (iv_c _ (a := 1) (b := 1) (by decide +kernel)) (by decide +kernel) rfl (by decide +kernel)
          refine lv_iinc (v := y16) (lv' := [(2, .int y16), (0, .ref a0), (1, .int x1)]) X.1 X.2.1 dX4_hasLine_19 hl (k := 2) rfl ey16.symm (by decide) rfl (fun ls hl => ?_)
          refine lv_goto (tgt := 2) X.1 X.2.1 dX4_hasLine_22 (by decide) ?_
          exact ih10 _ _ y16 hS (lv_sub hl [1, 2, 0] rfl) (iv_of (iv_add (a' := 1) (b' := 4) ey16 (iv_lt (b' := 3) (iv_gt_of c11) hz10_2 (iv_c 4 (a := 4) (b := 4) (by decide +kernel)) (by decide +kernel)) (iv_c _ (a := 1) (b := 1) (by decide +kernel)) (by decide +kernel)) (a' := 0) (b' := 4) (by decide +kernel)) (ln_step xf10 xy16 ((iv_lt (b' := 3) (iv_gt_of c11) hz10_2 (iv_c 4 (a := 4) (b := 4) (by decide +kernel)) (by decide +kernel))).1 (hf14.symm.trans c15)) (iv_stepU ey16 (iv_lt (b' := 3) (iv_gt_of c11) hz10_2 (iv_c 4 (a := 4) (b := 4) (by decide +kernel)) (by decide +kernel)) (by decide +kernel) hN10)
        · refine lv_iconst (v := 1) X.1 X.2.1 dX4_hasLine_17 (by decide +kernel) ?_
          exact sg_zretP X hr (sg_zn (iv_of (iv_c 1 (a := 1) (b := 1) (by decide +kernel)) (a' := 0) (b' := 1) (by decide +kernel))) hlk hS (Or.inl ⟨rfl, z10_2.toNatClampNeg, vq_n4 (iv_lt (b' := 3) (iv_gt_of c11) hz10_2 (iv_c 4 (a := 4) (b := 4) (by decide +kernel)) (by decide +kernel)), fun z => c15 (hf14.trans z)⟩) dX4_hasLine_18
  exact B10_2 _ _ _ 0 hS (lv_sub hl [1, 2, 0] rfl) (iv_of (iv_c 0 (a := 0) (b := 0) (by decide +kernel)) (a' := 0) (b' := 4) (by decide +kernel)) (fun k hk => absurd hk (by rw [show (0 : Int32).toInt = 0 from by decide +kernel]; omega)) (Nat.le_refl _)

theorem ca_X4_hasLine_g  {a w1 w2 w cn L : Int} {z : sgZg}  (X : CallFix p m c cc nL s args sg_tbl own) (hK : va_K D vwCl tys s) (hG : sgG (KG a a w1 w2 z P) D vwCl (fun q : Nat => base ≤ q) tys ad ks H) (hC : sgC base s) (hA : ∀ q : Nat, A q → base ≤ q) (hS : va_S A s.heap H locs) (hb : base ≤ s.heap.size) (a0 : Nat) (h0 : isK ad ks 2 a0) (x1 : Int32) (hz12 : z 1 2 = (L, L)) (hlst : ∀ k : Nat, k < 4 → z 2 k = (vSd w k, vSd w k) ∧ z 4 k = ((vLs w cn L k).toInt, (vLs w cn L k).toInt)) (hL : 2 ≤ L ∧ L ≤ 5) (hw : 1 ≤ w ∧ w ≤ 6) (hl : Cond.methodLink own index yX4_hasLine ∈ sg_tbl) (hsize : ls.size = nL) (hst : st0 = [.int x1].reverse ++ .ref a0 :: rest) (hW : (rest.map fun v => v.category).sum ≤ 8) (hR : 2 ≤ R.frames ∧ 47 ≤ R.locals) (hf : cells ≤ R.cells ∧ slots ≤ R.slots) (hdg : decode cc pc = .ok (.invokevirtual index, 3)) (kk : ∀ (r : Int32) (locs1 : List Loc), (fun r : Int32 => (r = 1 ∧ lnC x1 w cn L) ∨ (r = 0 ∧ ¬ lnC x1 w cn L)) r → va_S A s.heap H locs1 → W p l e R s m args below meth c H locs1 cells slots Q (F0 m (pc + 3) ls (.int r :: rest))) : W p l e R s m args below meth c H locs cells slots Q (F0 m pc ls st0) :=
  sg_callPVi X hK hG hC hA hS hb (m_X4_hasLine_g l a0 h0 x1 hz12 hlst hL hw) h0 (k := 2) (ci := 4) rfl (C := RX4) (T := TX4) (N := 15) rfl wl_3_196 wl_1_7 wl_3_194 wl_3_195 (n := 1) (by decide +kernel) rfl rfl rfl hl hsize hst hW hR hf hdg kk

set_option maxHeartbeats 8000000 in
set_option maxRecDepth 100000 in
theorem m_X4_isWhole_g (l : Launch) {D : va_G} {base : Nat} {tys : List (ClassId × FieldType)} {ad ks : List Nat} {P : sgPm}{a w1 w2 : Int} {q : sgLwn} {o : sgZg}  (a0 : Nat) (h0 : isK ad ks 2 a0) (hl0 : 0 ≤ sgL1 P ∧ sgL1 P ≤ 240) (hav : 0 ≤ a ∧ a ≤ sgL1 P) (hru : ruOk q.1) : Met l yX4_isWhole (Cond.code yX4_isWhole cX4_isWhole 1 (some .boolean) :: sg_tbl) ({ frames := 2, cells := 0, slots := 0, locals := 48 }) (va_Pc [.ref a0] (sgB (KG a a w1 w2 (zG q o) P) D vwCl base tys ad ks)) (va_Qi (fun r (u : Int32) => u = r ∧ (fun r : Int32 => iv 0 1 r) r) (fun u t => (u = 1 ∧ lwOkC q ∧ ∃ z1 : sgZg, (∀ i : Nat, i < 7 → z1 1 i = (q.1 i, q.1 i)) ∧ z1 0 5 = (q.1 0 * q.1 1, q.1 0 * q.1 1) ∧ sgB (KG a a w1 w2 z1 P) D vwCl base tys ad ks t) ∨ (u = 0 ∧ ¬ lwOkC q ∧ ∃ z1 : sgZg, sgB (KG a a w1 w2 z1 P) D vwCl base tys ad ks t)) (fun q : Nat => base ≤ q)) 0 0 (fun q : Nat => base ≤ q) := by
  refine sg_ofW (by decide +kernel) (Nat.le_of_ble_eq_true rfl) (fun p e s m below meth c X hr hlk hb hK hC hG ls hl => ?_)
  have hS : va_S (fun q : Nat => base ≤ q) s.heap s.heap [] := va_S.rf
  have hl : lv_has ls 1 [(0, .ref a0)] := hl
  refine lv_aload_n X.1 X.2.1 dX4_isWhole_0 rfl (lv_at hl 0 rfl) ?_
  refine lv_aload_n X.1 X.2.1 dX4_isWhole_1 rfl (lv_at hl 0 rfl) ?_
  refine gf_X4_0g X hK hG h0 wl_1_209 dX4_isWhole_2 (fun q10 hq10 => ?_)
  refine lv_iconst (v := 0) X.1 X.2.1 dX4_isWhole_5 (by decide +kernel) ?_
  refine al_50g X hK hG hq10 (iv_vpin (iv_c 0 (a := 0) (b := 0) (by decide +kernel)) (by decide +kernel)) dX4_isWhole_6 (fun f11 hf11 => ?_)
  have xf11 : f11.toInt = (q.1 0) := vq_iv (show iv ((q.1 0)) ((q.1 0)) f11 from (zk_at (z := (zG q o)) (a := 1) (sg_cl (iv_c 0 (a := 0) (b := 0) (by decide +kernel)) (by decide)) hf11))
  have yf11 : iv 1 6 f11 := vq_of xf11 (show 1 ≤ q.1 0 ∧ q.1 0 ≤ 6 from hru 0 (by decide))
  refine pf_X4_7G X hK hG hS h0 wl_1_225 dX4_isWhole_7 (fun H locs hG hS => ?_)
  rw [xf11] at hG
  have hG : sgG (KG a a w1 w2 (zSet (zG q o) 0 7 (q.1 0)) P) D vwCl _ tys ad ks _ := hG
  refine lv_aload_n X.1 X.2.1 dX4_isWhole_10 rfl (lv_at hl 0 rfl) ?_
  refine lv_aload_n X.1 X.2.1 dX4_isWhole_11 rfl (lv_at hl 0 rfl) ?_
  refine gf_X4_0g X hK hG h0 wl_1_209 dX4_isWhole_12 (fun q12 hq12 => ?_)
  refine lv_iconst (v := 1) X.1 X.2.1 dX4_isWhole_15 (by decide +kernel) ?_
  refine al_50g X hK hG hq12 (iv_vpin (iv_c 1 (a := 1) (b := 1) (by decide +kernel)) (by decide +kernel)) dX4_isWhole_16 (fun f13 hf13 => ?_)
  have xf13 : f13.toInt = (q.1 1) := vq_iv (show iv ((q.1 1)) ((q.1 1)) f13 from (zk_at (z := (zSet (zG q o) 0 7 (q.1 0))) (a := 1) (sg_cl (iv_c 1 (a := 1) (b := 1) (by decide +kernel)) (by decide)) hf13))
  have yf13 : iv 1 5 f13 := vq_of xf13 (show 1 ≤ q.1 1 ∧ q.1 1 ≤ 5 from hru 1 (by decide))
  refine pf_X4_8G X hK hG hS h0 wl_1_226 dX4_isWhole_17 (fun H locs hG hS => ?_)
  rw [xf13] at hG
  have hG : sgG (KG a a w1 w2 (zSet (zSet (zG q o) 0 7 (q.1 0)) 0 8 (q.1 1)) P) D vwCl _ tys ad ks _ := hG
  refine lv_aload_n X.1 X.2.1 dX4_isWhole_20 rfl (lv_at hl 0 rfl) ?_
  refine lv_aload_n X.1 X.2.1 dX4_isWhole_21 rfl (lv_at hl 0 rfl) ?_
  refine gf_X4_7g X hK hG h0 wl_1_225 dX4_isWhole_22 (fun f14 hf14 => ?_)
  have xf14 : f14.toInt = (q.1 0) := vq_iv (show iv ((q.1 0)) ((q.1 0)) f14 from hf14)
  have yf14 : iv 1 6 f14 := vq_of xf14 (show 1 ≤ q.1 0 ∧ q.1 0 ≤ 6 from hru 0 (by decide))
  refine lv_aload_n X.1 X.2.1 dX4_isWhole_25 rfl (lv_at hl 0 rfl) ?_
  refine gf_X4_8g X hK hG h0 wl_1_226 dX4_isWhole_26 (fun f15 hf15 => ?_)
  have xf15 : f15.toInt = (q.1 1) := vq_iv (show iv ((q.1 1)) ((q.1 1)) f15 from hf15)
  have yf15 : iv 1 5 f15 := vq_of xf15 (show 1 ≤ q.1 1 ∧ q.1 1 ≤ 5 from hru 1 (by decide))
  refine lv_imul X.1 X.2.1 dX4_isWhole_29 ?_
  refine lv_topi (fun f16 ef16 => ?_)
  have xf16 : f16.toInt = ((q.1 0) * (q.1 1)) := sg_exmul ef16 yf14 yf15 (by decide +kernel) xf14 xf15
  refine pf_X4_5G X hK hG hS h0 wl_1_221 dX4_isWhole_30 (fun H locs hG hS => ?_)
  rw [xf16] at hG
  have hG : sgG (KG a a w1 w2 (zSet (zSet (zSet (zG q o) 0 7 (q.1 0)) 0 8 (q.1 1)) 0 5 ((q.1 0) * (q.1 1))) P) D vwCl _ tys ad ks _ := hG
  refine lv_aload_n X.1 X.2.1 dX4_isWhole_33 rfl (lv_at hl 0 rfl) ?_
  refine lv_iconst (v := 1) X.1 X.2.1 dX4_isWhole_34 (by decide +kernel) ?_
  refine lv_aload_n X.1 X.2.1 dX4_isWhole_35 rfl (lv_at hl 0 rfl) ?_
  refine gf_X4_5g X hK hG h0 wl_1_221 dX4_isWhole_36 (fun f17 hf17 => ?_)
  have xf17 : f17.toInt = ((q.1 0) * (q.1 1)) := vq_iv (show iv (((q.1 0) * (q.1 1))) (((q.1 0) * (q.1 1))) f17 from hf17)
  have yf17 : iv 1 30 f17 := vq_of xf17 (vq_c30 (show 1 ≤ q.1 0 ∧ q.1 0 ≤ 6 from hru 0 (by decide)) (show 1 ≤ q.1 1 ∧ q.1 1 ≤ 5 from hru 1 (by decide)))
  refine lv_ishl X.1 X.2.1 dX4_isWhole_39 ?_
  refine lv_topi (fun f18 ef18 => ?_)
  have wf18 : f18 = ((1 : Int32) <<< ((Int32.ofInt ((q.1 0) * (q.1 1))) &&& 31)) := ef18.trans (by rw [(vq_oi (x := f17) xf17)])
  refine lv_iconst (v := 1) X.1 X.2.1 dX4_isWhole_40 (by decide +kernel) ?_
  refine lv_isub X.1 X.2.1 dX4_isWhole_41 ?_
  refine lv_topi (fun f19 ef19 => ?_)
  have wf19 : f19 = (((1 : Int32) <<< ((Int32.ofInt ((q.1 0) * (q.1 1))) &&& 31)) - (1 : Int32)) := ef19.trans (by rw [wf18])
  have hal : f19 = vAll (q.1 0 * q.1 1) := by unfold vAll; exact wf19
  refine pf_X4_6G X hK hG hS h0 wl_1_222 dX4_isWhole_42 (fun H locs hG hS => ?_)
  rw [hal] at hG
  have hG : sgG (KG a a w1 w2 (zSet (zSet (zSet (zSet (zG q o) 0 7 (q.1 0)) 0 8 (q.1 1)) 0 5 ((q.1 0) * (q.1 1))) 0 6 (((vAll (q.1 0 * q.1 1))).toInt)) P) D vwCl _ tys ad ks _ := hG
  refine lv_aload_n X.1 X.2.1 dX4_isWhole_45 rfl (lv_at hl 0 rfl) ?_
  refine gf_X4_12g X hK hG h0 wl_1_235 dX4_isWhole_46 (fun f20 hf20 => ?_)
  rw [show (zSet (zSet (zSet (zSet (zG q o) 0 7 (q.1 0)) 0 8 (q.1 1)) 0 5 ((q.1 0) * (q.1 1))) 0 6 (((vAll (q.1 0 * q.1 1))).toInt)) 0 12 = ((bif q.2.2.2.2.2.2 then 1 else 0), (bif q.2.2.2.2.2.2 then 1 else 0)) from rfl] at hf20
  have zf20 : f20.toInt = (bif q.2.2.2.2.2.2 then 1 else 0) := zgg_bb (b := q.2.2.2.2.2.2) hf20
  refine lv_if_ne (tgt := 86) X.1 X.2.1 dX4_isWhole_49 (by decide) (fun c21 => ?_) (fun c21 => ?_)
  · have k22 : q.2.2.2.2.2.2 = true := zb_t zf20 c21
    refine lv_iconst (v := 0) X.1 X.2.1 dX4_isWhole_86 (by decide +kernel) ?_
    have hG := hG
    exact sg_zret2 X hr (sg_zn (iv_of (iv_c 0 (a := 0) (b := 0) (by decide +kernel)) (a' := 0) (b' := 1) (by decide +kernel))) hlk hS (iv_of (iv_c 0 (a := 0) (b := 0) (by decide +kernel)) (a' := 0) (b' := 1) (by decide +kernel)) (fun t ht hW => (Or.inr ⟨rfl, fun z => absurd (z.1.symm.trans k22) (by decide), _, sg_post hb hK hC hG hS ht hW⟩)) dX4_isWhole_87
  · have k23 : q.2.2.2.2.2.2 = false := zb_f zf20 c21
    refine lv_aload_n X.1 X.2.1 dX4_isWhole_52 rfl (lv_at hl 0 rfl) ?_
    refine gf_X4_9g X hK hG h0 wl_1_227 dX4_isWhole_53 (fun f24 hf24 => ?_)
    have wf24 : f24 = q.2.1 := Int32.toInt_inj.mp (vq_iv (show iv ((q.2.1).toInt) ((q.2.1).toInt) f24 from hf24))
    refine lv_aload_n X.1 X.2.1 dX4_isWhole_56 rfl (lv_at hl 0 rfl) ?_
    refine gf_X4_10g X hK hG h0 wl_1_230 dX4_isWhole_57 (fun f25 hf25 => ?_)
    have wf25 : f25 = q.2.2.1 := Int32.toInt_inj.mp (vq_iv (show iv ((q.2.2.1).toInt) ((q.2.2.1).toInt) f25 from hf25))
    refine lv_ior X.1 X.2.1 dX4_isWhole_60 ?_
    refine lv_topi (fun f26 ef26 => ?_)
    have wf26 : f26 = (q.2.1 ||| q.2.2.1) := ef26.trans (by rw [wf24, wf25])
    refine lv_aload_n X.1 X.2.1 dX4_isWhole_61 rfl (lv_at hl 0 rfl) ?_
    refine gf_X4_6g X hK hG h0 wl_1_222 dX4_isWhole_62 (fun f27 hf27 => ?_)
    have wf27 : f27 = (vAll (q.1 0 * q.1 1)) := Int32.toInt_inj.mp (vq_iv (show iv (((vAll (q.1 0 * q.1 1))).toInt) (((vAll (q.1 0 * q.1 1))).toInt) f27 from hf27))
    refine lv_iconst (v := (-1)) X.1 X.2.1 dX4_isWhole_65 (by decide +kernel) ?_
    refine lv_ixor X.1 X.2.1 dX4_isWhole_66 ?_
    refine lv_topi (fun f28 ef28 => ?_)
    have wf28 : f28 = ((vAll (q.1 0 * q.1 1)) ^^^ ((-1) : Int32)) := ef28.trans (by rw [wf27])
    refine lv_iand X.1 X.2.1 dX4_isWhole_67 ?_
    refine lv_topi (fun f29 ef29 => ?_)
    have wf29 : f29 = ((q.2.1 ||| q.2.2.1) &&& ((vAll (q.1 0 * q.1 1)) ^^^ ((-1) : Int32))) := ef29.trans (by rw [wf26, wf28])
    refine lv_if_ne (tgt := 86) X.1 X.2.1 dX4_isWhole_68 (by decide) (fun c30 => ?_) (fun c30 => ?_)
    · have k31 : ¬ (q.2.1 ||| q.2.2.1) &&& (vAll (q.1 0 * q.1 1) ^^^ (-1)) = 0 := fun z => c30 ((wf29).trans z)
      refine lv_iconst (v := 0) X.1 X.2.1 dX4_isWhole_86 (by decide +kernel) ?_
      have hG := hG
      exact sg_zret2 X hr (sg_zn (iv_of (iv_c 0 (a := 0) (b := 0) (by decide +kernel)) (a' := 0) (b' := 1) (by decide +kernel))) hlk hS (iv_of (iv_c 0 (a := 0) (b := 0) (by decide +kernel)) (a' := 0) (b' := 1) (by decide +kernel)) (fun t ht hW => (Or.inr ⟨rfl, fun z => k31 z.2.1, _, sg_post hb hK hC hG hS ht hW⟩)) dX4_isWhole_87
    · have k32 : (q.2.1 ||| q.2.2.1) &&& (vAll (q.1 0 * q.1 1) ^^^ (-1)) = 0 := (wf29).symm.trans c30
      refine lv_aload_n X.1 X.2.1 dX4_isWhole_71 rfl (lv_at hl 0 rfl) ?_
      refine gf_X4_0g X hK hG h0 wl_1_209 dX4_isWhole_72 (fun q33 hq33 => ?_)
      refine lv_iconst (v := 4) X.1 X.2.1 dX4_isWhole_75 (by decide +kernel) ?_
      refine al_50g X hK hG hq33 (iv_vpin (iv_c 4 (a := 4) (b := 4) (by decide +kernel)) (by decide +kernel)) dX4_isWhole_76 (fun f34 hf34 => ?_)
      have xf34 : f34.toInt = (q.1 4) := vq_iv (show iv ((q.1 4)) ((q.1 4)) f34 from (zk_at (z := (zSet (zSet (zSet (zSet (zG q o) 0 7 (q.1 0)) 0 8 (q.1 1)) 0 5 ((q.1 0) * (q.1 1))) 0 6 (((vAll (q.1 0 * q.1 1))).toInt))) (a := 1) (sg_cl (iv_c 4 (a := 4) (b := 4) (by decide +kernel)) (by decide)) hf34))
      have yf34 : iv 0 8 f34 := vq_of xf34 (show 0 ≤ q.1 4 ∧ q.1 4 ≤ 8 from hru 4 (by decide))
      refine lv_aload_n X.1 X.2.1 dX4_isWhole_77 rfl (lv_at hl 0 rfl) ?_
      refine gf_X4_0g X hK hG h0 wl_1_209 dX4_isWhole_78 (fun q35 hq35 => ?_)
      refine lv_iconst (v := 5) X.1 X.2.1 dX4_isWhole_81 (by decide +kernel) ?_
      refine al_50g X hK hG hq35 (iv_vpin (iv_c 5 (a := 5) (b := 5) (by decide +kernel)) (by decide +kernel)) dX4_isWhole_82 (fun f36 hf36 => ?_)
      have xf36 : f36.toInt = (q.1 5) := vq_iv (show iv ((q.1 5)) ((q.1 5)) f36 from (zk_at (z := (zSet (zSet (zSet (zSet (zG q o) 0 7 (q.1 0)) 0 8 (q.1 1)) 0 5 ((q.1 0) * (q.1 1))) 0 6 (((vAll (q.1 0 * q.1 1))).toInt))) (a := 1) (sg_cl (iv_c 5 (a := 5) (b := 5) (by decide +kernel)) (by decide)) hf36))
      have yf36 : iv 0 8 f36 := vq_of xf36 (show 0 ≤ q.1 5 ∧ q.1 5 ≤ 8 from hru 5 (by decide))
      refine lv_icmp_le (tgt := 88) X.1 X.2.1 dX4_isWhole_83 (by decide) (fun c37 => ?_) (fun c37 => ?_)
      · have i38 : ¬ (q.1 5) < (q.1 4) := vq_le c37 xf34 xf36
        refine lv_aload_n X.1 X.2.1 dX4_isWhole_88 rfl (lv_at hl 0 rfl) ?_
        refine ca_X4_layOut_g X hK hG hC hS hb a0 h0 hl0 hav ⟨rfl, rfl, rfl, rfl⟩ (vq_c30 (show 1 ≤ q.1 0 ∧ q.1 0 ≤ 6 from hru 0 (by decide)) (show 1 ≤ q.1 1 ∧ q.1 1 ≤ 5 from hru 1 (by decide))) (show 1 ≤ q.1 0 ∧ q.1 0 ≤ 6 from hru 0 (by decide)) (show 2 ≤ q.1 2 ∧ q.1 2 ≤ 5 from hru 2 (by decide)) wl_3_177 hl.1 (rest := []) rfl (Nat.le_of_ble_eq_true rfl) ⟨Nat.le_of_ble_eq_true rfl, Nat.le_of_ble_eq_true rfl⟩ ⟨Nat.le_of_ble_eq_true rfl, Nat.le_of_ble_eq_true rfl⟩ dX4_isWhole_89 (fun tg40 H locs htg40 hWg40 hS => ?_)
        obtain ⟨z9, hsm, hlst, hBg40⟩ := hWg40
        have hG := hBg40.2.2.2
        rw [htg40] at hG
        refine lv_aload_n X.1 X.2.1 dX4_isWhole_92 rfl (lv_at hl 0 rfl) ?_
        refine lv_aload_n X.1 X.2.1 dX4_isWhole_93 rfl (lv_at hl 0 rfl) ?_
        refine gf_X4_9g X hK hG h0 wl_1_227 dX4_isWhole_94 (fun f41 hf41 => ?_)
        have wf41 : f41 = q.2.1 := Int32.toInt_inj.mp (vq_pin (t := (q.2.1).toInt) ((hsm 0 9 (by decide)).trans (show (zSet (zSet (zSet (zSet (zG q o) 0 7 (q.1 0)) 0 8 (q.1 1)) 0 5 ((q.1 0) * (q.1 1))) 0 6 (((vAll (q.1 0 * q.1 1))).toInt)) 0 9 = ((q.2.1).toInt, (q.2.1).toInt) from rfl)) hf41)
        refine ca_X4_hasLine_g X hK hG hC (fun _ h => h) hS hb a0 h0 f41 ((hsm 1 2 (by decide)).trans (show (zSet (zSet (zSet (zSet (zG q o) 0 7 (q.1 0)) 0 8 (q.1 1)) 0 5 ((q.1 0) * (q.1 1))) 0 6 (((vAll (q.1 0 * q.1 1))).toInt)) 1 2 = ((q.1 2), (q.1 2)) from rfl)) hlst (show 2 ≤ q.1 2 ∧ q.1 2 ≤ 5 from hru 2 (by decide)) (show 1 ≤ q.1 0 ∧ q.1 0 ≤ 6 from hru 0 (by decide)) wl_3_193 hl.1 (rest := []) rfl (Nat.le_of_ble_eq_true rfl) ⟨Nat.le_of_ble_eq_true rfl, Nat.le_of_ble_eq_true rfl⟩ ⟨Nat.le_of_ble_eq_true rfl, Nat.le_of_ble_eq_true rfl⟩ dX4_isWhole_97 (fun f42 locs hf42 hS => ?_)
        refine lv_if_ne (tgt := 107) X.1 X.2.1 dX4_isWhole_100 (by decide) (fun c43 => ?_) (fun c43 => ?_)
        · have j44 := vq_says1 hf42 c43
          have k45 : lnC q.2.1 (q.1 0) (q.1 0 * q.1 1) (q.1 2) := by have z := j44; rw [wf41] at z; exact z
          refine lv_iconst (v := 0) X.1 X.2.1 dX4_isWhole_107 (by decide +kernel) ?_
          have hG := hG
          exact sg_zret2 X hr (sg_zn (iv_of (iv_c 0 (a := 0) (b := 0) (by decide +kernel)) (a' := 0) (b' := 1) (by decide +kernel))) hlk hS (iv_of (iv_c 0 (a := 0) (b := 0) (by decide +kernel)) (a' := 0) (b' := 1) (by decide +kernel)) (fun t ht hW => (Or.inr ⟨rfl, fun z => z.2.2.2 k45, _, sg_post hb hK hC hG hS ht hW⟩)) dX4_isWhole_108
        · have j46 := vq_says0 hf42 c43
          have k47 : ¬ lnC q.2.1 (q.1 0) (q.1 0 * q.1 1) (q.1 2) := by have z := j46; rw [wf41] at z; exact z
          refine lv_iconst (v := 1) X.1 X.2.1 dX4_isWhole_103 (by decide +kernel) ?_
          refine lv_goto (tgt := 108) X.1 X.2.1 dX4_isWhole_104 (by decide) ?_
          have hG := hG
          exact sg_zret2 X hr (sg_zn (iv_of (iv_c 1 (a := 1) (b := 1) (by decide +kernel)) (a' := 0) (b' := 1) (by decide +kernel))) hlk hS (iv_of (iv_c 1 (a := 1) (b := 1) (by decide +kernel)) (a' := 0) (b' := 1) (by decide +kernel)) (fun t ht hW => (Or.inl ⟨rfl, ⟨k23, k32, i38, k47⟩, _, (fun i hi => by match i, hi with | 0, _ => exact ((hsm 1 0 (by decide)).trans (show (zSet (zSet (zSet (zSet (zG q o) 0 7 (q.1 0)) 0 8 (q.1 1)) 0 5 ((q.1 0) * (q.1 1))) 0 6 (((vAll (q.1 0 * q.1 1))).toInt)) 1 0 = ((q.1 0), (q.1 0)) from rfl)) | 1, _ => exact ((hsm 1 1 (by decide)).trans (show (zSet (zSet (zSet (zSet (zG q o) 0 7 (q.1 0)) 0 8 (q.1 1)) 0 5 ((q.1 0) * (q.1 1))) 0 6 (((vAll (q.1 0 * q.1 1))).toInt)) 1 1 = ((q.1 1), (q.1 1)) from rfl)) | 2, _ => exact ((hsm 1 2 (by decide)).trans (show (zSet (zSet (zSet (zSet (zG q o) 0 7 (q.1 0)) 0 8 (q.1 1)) 0 5 ((q.1 0) * (q.1 1))) 0 6 (((vAll (q.1 0 * q.1 1))).toInt)) 1 2 = ((q.1 2), (q.1 2)) from rfl)) | 3, _ => exact ((hsm 1 3 (by decide)).trans (show (zSet (zSet (zSet (zSet (zG q o) 0 7 (q.1 0)) 0 8 (q.1 1)) 0 5 ((q.1 0) * (q.1 1))) 0 6 (((vAll (q.1 0 * q.1 1))).toInt)) 1 3 = ((q.1 3), (q.1 3)) from rfl)) | 4, _ => exact ((hsm 1 4 (by decide)).trans (show (zSet (zSet (zSet (zSet (zG q o) 0 7 (q.1 0)) 0 8 (q.1 1)) 0 5 ((q.1 0) * (q.1 1))) 0 6 (((vAll (q.1 0 * q.1 1))).toInt)) 1 4 = ((q.1 4), (q.1 4)) from rfl)) | 5, _ => exact ((hsm 1 5 (by decide)).trans (show (zSet (zSet (zSet (zSet (zG q o) 0 7 (q.1 0)) 0 8 (q.1 1)) 0 5 ((q.1 0) * (q.1 1))) 0 6 (((vAll (q.1 0 * q.1 1))).toInt)) 1 5 = ((q.1 5), (q.1 5)) from rfl)) | 6, _ => exact ((hsm 1 6 (by decide)).trans (show (zSet (zSet (zSet (zSet (zG q o) 0 7 (q.1 0)) 0 8 (q.1 1)) 0 5 ((q.1 0) * (q.1 1))) 0 6 (((vAll (q.1 0 * q.1 1))).toInt)) 1 6 = ((q.1 6), (q.1 6)) from rfl)) | i + 7, hi => exact absurd hi (by omega)), ((hsm 0 5 (by decide)).trans (show (zSet (zSet (zSet (zSet (zG q o) 0 7 (q.1 0)) 0 8 (q.1 1)) 0 5 ((q.1 0) * (q.1 1))) 0 6 (((vAll (q.1 0 * q.1 1))).toInt)) 0 5 = (((q.1 0) * (q.1 1)), ((q.1 0) * (q.1 1))) from rfl)), sg_post hb hK hC hG hS ht hW⟩)) dX4_isWhole_108
      · have i39 : (q.1 5) < (q.1 4) := vq_lt (iv_gt_of c37) xf36 xf34
        refine lv_iconst (v := 0) X.1 X.2.1 dX4_isWhole_86 (by decide +kernel) ?_
        have hG := hG
        exact sg_zret2 X hr (sg_zn (iv_of (iv_c 0 (a := 0) (b := 0) (by decide +kernel)) (a' := 0) (b' := 1) (by decide +kernel))) hlk hS (iv_of (iv_c 0 (a := 0) (b := 0) (by decide +kernel)) (a' := 0) (b' := 1) (by decide +kernel)) (fun t ht hW => (Or.inr ⟨rfl, fun z => z.2.2.1 i39, _, sg_post hb hK hC hG hS ht hW⟩)) dX4_isWhole_87

theorem ca_X4_isWhole_g  {a w1 w2 : Int} {q : sgLwn} {o : sgZg}  (X : CallFix p m c cc nL s args sg_tbl own) (hK : va_K D vwCl tys s) (hG : sgG (KG a a w1 w2 (zG q o) P) D vwCl (fun q : Nat => base ≤ q) tys ad ks H) (hC : sgC base s) (hS : va_S (fun q : Nat => base ≤ q) s.heap H locs) (hb : base ≤ s.heap.size) (a0 : Nat) (h0 : isK ad ks 2 a0) (hl0 : 0 ≤ sgL1 P ∧ sgL1 P ≤ 240) (hav : 0 ≤ a ∧ a ≤ sgL1 P) (hru : ruOk q.1) (hl : Cond.methodLink own index yX4_isWhole ∈ sg_tbl) (hsize : ls.size = nL) (hst : st0 = [].reverse ++ .ref a0 :: rest) (hW : (rest.map fun v => v.category).sum ≤ 8) (hR : 3 ≤ R.frames ∧ 68 ≤ R.locals) (hf : cells ≤ R.cells ∧ slots ≤ R.slots) (hdg : decode cc pc = .ok (.invokevirtual index, 3)) (kk : ∀ (r : Int32) (t : State) (H1 : Heap) (locs1 : List Loc), t.heap = H1 → (fun r : Int32 => iv 0 1 r) r → ((r = 1 ∧ lwOkC q ∧ ∃ z1 : sgZg, (∀ i : Nat, i < 7 → z1 1 i = (q.1 i, q.1 i)) ∧ z1 0 5 = (q.1 0 * q.1 1, q.1 0 * q.1 1) ∧ sgB (KG a a w1 w2 z1 P) D vwCl base tys ad ks t) ∨ (r = 0 ∧ ¬ lwOkC q ∧ ∃ z1 : sgZg, sgB (KG a a w1 w2 z1 P) D vwCl base tys ad ks t)) → va_S (fun q : Nat => base ≤ q) s.heap H1 locs1 → W p l e R s m args below meth c H1 locs1 cells slots Q (F0 m (pc + 3) ls (.int r :: rest))) : W p l e R s m args below meth c H locs cells slots Q (F0 m pc ls st0) :=
  sg_callV2i X hK hG hC hS hb (m_X4_isWhole_g l a0 h0 hl0 hav hru) h0 (k := 2) (ci := 4) rfl (C := RX4) (T := TX4) (N := 15) rfl wl_3_176 wl_1_7 wl_3_175 wl_0_5 (n := 0) (by decide +kernel) rfl rfl rfl hl hsize hst hW hR hf hdg kk

set_option maxHeartbeats 8000000 in
set_option maxRecDepth 100000 in
theorem m_X4_read_g (l : Launch) {D : va_G} {base : Nat} {tys : List (ClassId × FieldType)} {ad ks : List Nat} {P : sgPm}{z : sgZg}  (a0 : Nat) (h0 : isK ad ks 2 a0) (a1 : Nat) (h1 : isK ad ks 10 a1) (hl0 : 0 ≤ sgL1 P ∧ sgL1 P ≤ 240) (hby : ∀ j : Nat, (↑j : Int) < sgL1 P → 1 ≤ sgT1 P j ∧ sgT1 P j ≤ 255) : Met l yX4_read (Cond.code yX4_read cX4_read 3 (some .boolean) :: sg_tbl) ({ frames := 6, cells := 0, slots := 0, locals := 138 }) (va_Pc [.ref a0, .ref a1] (sgB (KG 0 240 (-2147483648) 2147483647 z P) D vwCl base tys ad ks)) (va_Qi (fun r (u : Int32) => u = r ∧ (fun r : Int32 => iv 0 1 r) r) (fun u t => (u = 1 ∧ ∃ (a1 : Int) (q1 : sgLwn) (z1 : sgZg), vLnC (sgT1 P) (sgL1 P) lw0 (vX (sgT1 P) (sgL1 P) 0) = (true, a1, q1) ∧ vC (sgT1 P) (sgL1 P) a1 = 0 ∧ lwOkC q1 ∧ (∀ i : Nat, i < 7 → z1 1 i = (q1.1 i, q1.1 i)) ∧ z1 0 5 = (q1.1 0 * q1.1 1, q1.1 0 * q1.1 1) ∧ sgB (KG 0 240 (-1) (-1) z1 P) D vwCl base tys ad ks t) ∨ (u = 0 ∧ ∃ (ok : Bool) (a1 w : Int) (q1 : sgLwn) (z1 : sgZg), vLnC (sgT1 P) (sgL1 P) lw0 (vX (sgT1 P) (sgL1 P) 0) = (ok, a1, q1) ∧ ((ok = false ∧ w = a1) ∨ (ok = true ∧ ¬ vC (sgT1 P) (sgL1 P) a1 = 0 ∧ w = a1) ∨ (ok = true ∧ vC (sgT1 P) (sgL1 P) a1 = 0 ∧ ¬ lwOkC q1 ∧ w = sgL1 P)) ∧ sgB (KG 0 240 w w z1 P) D vwCl base tys ad ks t)) (fun q : Nat => base ≤ q)) 0 0 (fun q : Nat => base ≤ q) := by
  refine sg_ofW (by decide +kernel) (Nat.le_of_ble_eq_true rfl) (fun p e s m below meth c X hr hlk hb hK hC hG ls hl => ?_)
  have hS : va_S (fun q : Nat => base ≤ q) s.heap s.heap [] := va_S.rf
  have hl : lv_has ls 3 [(0, .ref a0), (1, .ref a1)] := hl
  refine lv_aload_n X.1 X.2.1 dX4_read_0 rfl (lv_at hl 1 rfl) ?_
  refine ca_X10_rewind_g X hK hG hC hS hb a1 h1 hl0 wl_3_30 hl.1 (rest := []) rfl (Nat.le_of_ble_eq_true rfl) ⟨Nat.le_of_ble_eq_true rfl, Nat.le_of_ble_eq_true rfl⟩ ⟨Nat.le_of_ble_eq_true rfl, Nat.le_of_ble_eq_true rfl⟩ dX4_read_1 (fun tg10 H locs htg10 hWg10 hS => ?_)
  have hG := hWg10.2.2.2
  rw [htg10] at hG
  refine lv_aload_n X.1 X.2.1 dX4_read_4 rfl (lv_at hl 0 rfl) ?_
  refine ca_X4_clear_g X hK hG hC hS hb a0 h0 wl_3_34 hl.1 (rest := []) rfl (Nat.le_of_ble_eq_true rfl) ⟨Nat.le_of_ble_eq_true rfl, Nat.le_of_ble_eq_true rfl⟩ ⟨Nat.le_of_ble_eq_true rfl, Nat.le_of_ble_eq_true rfl⟩ dX4_read_5 (fun tg11 H locs htg11 hWg11 hS => ?_)
  have hG := hWg11.2.2.2
  rw [htg11] at hG
  have hG : sgG (KG (vX (sgT1 P) (sgL1 P) 0) (vX (sgT1 P) (sgL1 P) 0) (-1) (-1) (zG lw0 z) P) D vwCl _ tys ad ks _ := hG
  refine lv_iconst (v := 0) X.1 X.2.1 dX4_read_8 (by decide +kernel) ?_
  refine lv_istore_n (lv' := [(2, .int 0), (0, .ref a0), (1, .ref a1)]) X.1 X.2.1 dX4_read_9 rfl hl (by decide) rfl (fun ls hl => ?_)
  have B12_10 : ∀ (N : Nat) (H : Heap) (locs : List Loc) (ls : Array Slot) (z12_2 : Int32) (a12 : Int) (q12 : sgLwn), 0 ≤ a12 → a12 ≤ sgL1 P → sgG (KG a12 a12 (-1) (-1) (zG q12 z) P) D vwCl (fun q : Nat => base ≤ q) tys ad ks H → va_S (fun q : Nat => base ≤ q) s.heap H locs → lv_has ls 3 [(0, .ref a0), (1, .ref a1), (2, .int z12_2)] → iv 0 240 z12_2 → (vLnC (sgT1 P) (sgL1 P) lw0 (vX (sgT1 P) (sgL1 P) 0) = vLnC (sgT1 P) (sgL1 P) q12 a12 ∧ ((0 ≤ q12.2.2.2.1 ∧ q12.2.2.2.1 ≤ 12) ∧ (0 ≤ q12.2.2.2.2.1 ∧ q12.2.2.2.2.1 ≤ 8)) ∧ 2 * (z12_2 : Int32).toInt ≤ a12) → (242 - a12).toNat ≤ N → W p l e (headSpec (Cond.code yX4_read cX4_read 3 (some .boolean) :: sg_tbl) ({ frames := 6, cells := 0, slots := 0, locals := 138 })).room s m #[.ref a0, .ref a1] below meth c H locs 0 0 (MQ below (va_Qi (fun r (u : Int32) => u = r ∧ (fun r : Int32 => iv 0 1 r) r) (fun u t => (u = 1 ∧ ∃ (a1 : Int) (q1 : sgLwn) (z1 : sgZg), vLnC (sgT1 P) (sgL1 P) lw0 (vX (sgT1 P) (sgL1 P) 0) = (true, a1, q1) ∧ vC (sgT1 P) (sgL1 P) a1 = 0 ∧ lwOkC q1 ∧ (∀ i : Nat, i < 7 → z1 1 i = (q1.1 i, q1.1 i)) ∧ z1 0 5 = (q1.1 0 * q1.1 1, q1.1 0 * q1.1 1) ∧ sgB (KG 0 240 (-1) (-1) z1 P) D vwCl base tys ad ks t) ∨ (u = 0 ∧ ∃ (ok : Bool) (a1 w : Int) (q1 : sgLwn) (z1 : sgZg), vLnC (sgT1 P) (sgL1 P) lw0 (vX (sgT1 P) (sgL1 P) 0) = (ok, a1, q1) ∧ ((ok = false ∧ w = a1) ∨ (ok = true ∧ ¬ vC (sgT1 P) (sgL1 P) a1 = 0 ∧ w = a1) ∨ (ok = true ∧ vC (sgT1 P) (sgL1 P) a1 = 0 ∧ ¬ lwOkC q1 ∧ w = sgL1 P)) ∧ sgB (KG 0 240 w w z1 P) D vwCl base tys ad ks t)) (fun q : Nat => base ≤ q)) #[.ref a0, .ref a1] s 0 0 (fun q : Nat => base ≤ q)) (F0 m 10 ls []) := by
    intro N; induction N with
    | zero =>
      intro H locs ls z12_2 a12 q12 jl12 jm12 hG hS hl hz12_2 xf12 hN
      exact absurd hN (by have := jm12; omega)
    | succ N ih12 =>
      intro H locs ls z12_2 a12 q12 jl12 jm12 hG hS hl hz12_2 xf12 hN12
      refine lv_iload_n X.1 X.2.1 dX4_read_10 rfl (lv_at hl 2 rfl) ?_
      refine lv_sipush (v := 240) X.1 X.2.1 dX4_read_11 (by decide +kernel) ?_
      refine lv_icmp_ge (tgt := 49) X.1 X.2.1 dX4_read_14 (by decide) (fun c13 => ?_) (fun c13 => ?_)
      · have i14 : ¬ z12_2.toInt < (240 : Int) := vq_le c13 (by decide +kernel) rfl
        exact absurd xf12.2.2 (by have h1 := ((And.intro jl12 jm12)).2; have h2 := hl0.2; have h3 := i14; omega)
      · have i15 : z12_2.toInt < (240 : Int) := vq_lt (iv_gt_of c13) rfl (by decide +kernel)
        refine lv_aload_n X.1 X.2.1 dX4_read_17 rfl (lv_at hl 0 rfl) ?_
        refine lv_aload_n X.1 X.2.1 dX4_read_18 rfl (lv_at hl 1 rfl) ?_
        refine ca_X4_readClause_g X hK hG hC hS hb a0 h0 a1 h1 hl0 (And.intro jl12 jm12) hby xf12.2.1 wl_3_43 hl.1 (rest := []) rfl (Nat.le_of_ble_eq_true rfl) ⟨Nat.le_of_ble_eq_true rfl, Nat.le_of_ble_eq_true rfl⟩ ⟨Nat.le_of_ble_eq_true rfl, Nat.le_of_ble_eq_true rfl⟩ dX4_read_19 (fun f16 tf16 H locs htf16 hf16 hWf16 hS => ?_)
        rcases hWf16 with ⟨rfl, av17, qv17, pv17, hqv17, gav17, gbv17, hBf16⟩ | ⟨rfl, wv17, qv17, zv17, pv17, hBf16⟩
        · have hG := hBf16.2.2.2
          rw [htf16] at hG
          have bv17 := vq_bd2 (k := 1) (And.intro jl12 jm12) (by decide) gav17 gbv17
          have hG : sgG (KG av17 av17 (-1) (-1) (zG qv17 z) P) D vwCl _ tys ad ks _ := hG
          refine lv_if_ne (tgt := 27) X.1 X.2.1 dX4_read_22 (by decide) (fun c18 => ?_) (fun c18 => ?_)
          · refine lv_aload_n X.1 X.2.1 dX4_read_27 rfl (lv_at hl 1 rfl) ?_
            refine ca_X10_sign_g X hK hG hC (fun _ h => h) hS hb a1 h1 hl0 bv17 wl_3_47 hl.1 (rest := []) rfl (Nat.le_of_ble_eq_true rfl) ⟨Nat.le_of_ble_eq_true rfl, Nat.le_of_ble_eq_true rfl⟩ ⟨Nat.le_of_ble_eq_true rfl, Nat.le_of_ble_eq_true rfl⟩ dX4_read_28 (fun f19 locs hf19 hS => ?_)
            have yf19 : iv 0 255 f19 := vq_255 hf19 hby
            refine lv_bipush (v := 59) X.1 X.2.1 dX4_read_31 (by decide +kernel) ?_
            refine lv_icmp_eq (tgt := 39) X.1 X.2.1 dX4_read_33 (by decide) (fun c20 => ?_) (fun c20 => ?_)
            · have i21 : vC (sgT1 P) (sgL1 P) av17 = (59 : Int) := vq_eq c20 hf19 (by decide +kernel)
              refine lv_aload_n X.1 X.2.1 dX4_read_39 rfl (lv_at hl 1 rfl) ?_
              refine ca_X10_step_g X hK hG hC hS hb a1 h1 hl0 (vC_lt (b := sgT1 P) (by rw [i21]; decide)) wl_3_59 hl.1 (rest := []) rfl (Nat.le_of_ble_eq_true rfl) ⟨Nat.le_of_ble_eq_true rfl, Nat.le_of_ble_eq_true rfl⟩ ⟨Nat.le_of_ble_eq_true rfl, Nat.le_of_ble_eq_true rfl⟩ dX4_read_40 (fun tg23 H locs htg23 hWg23 hS => ?_)
              have b24 := vC_lt (b := sgT1 P) (n := sgL1 P) (a := av17) (by rw [i21]; decide)
              have bb24 := vq_bdX (b := sgT1 P) b24
              have qb24 : av17 + 1 ≤ vX (sgT1 P) (sgL1 P) (av17 + 1) := (vX_ge (sgT1 P) (sgL1 P) (av17 + 1)).1
              have hG := hWg23.2.2.2
              rw [htg23] at hG
              obtain ⟨y25, ey25⟩ : ∃ y : Int32, y = z12_2 + Int32.ofInt 1 := ⟨_, rfl⟩
              have xy25 : y25.toInt = (z12_2.toInt + 1) := sg_exadd ey25 (iv_lt (b' := 239) (iv_gt_of c13) hz12_2 (iv_c 240 (a := 240) (b := 240) (by decide +kernel)) (by decide +kernel)) (iv_c _ (a := 1) (b := 1) (by decide +kernel)) (by decide +kernel) rfl (by decide +kernel)
              refine lv_iinc (v := y25) (lv' := [(2, .int y25), (0, .ref a0), (1, .ref a1)]) X.1 X.2.1 dX4_read_43 hl (k := 2) rfl ey25.symm (by decide) rfl (fun ls hl => ?_)
              refine lv_goto (tgt := 10) X.1 X.2.1 dX4_read_46 (by decide) ?_
              exact ih12 H _ _ y25 ((vX (sgT1 P) (sgL1 P) (av17 + 1))) qv17 (bb24).1 (bb24).2 hG hS (lv_sub hl [1, 2, 0] rfl) (iv_of (iv_add (a' := 1) (b' := 240) ey25 (iv_lt (b' := 239) (iv_gt_of c13) hz12_2 (iv_c 240 (a := 240) (b := 240) (by decide +kernel)) (by decide +kernel)) (iv_c _ (a := 1) (b := 1) (by decide +kernel)) (by decide +kernel)) (a' := 0) (b' := 240) (by decide +kernel)) ⟨xf12.1.trans (vLnC_step pv17 i21 (vq_r1 gav17)), hqv17, by rw [xy25]; have h1 := xf12.2.2; have h2 := gav17; have h3 := (vX_ge (sgT1 P) (sgL1 P) (av17 + 1)).1; omega⟩ (by omega)
            · have i22 : (vC (sgT1 P) (sgL1 P) av17 = (59 : Int)) = False := vq_ne c20 hf19 (by decide +kernel)
              refine lv_goto (tgt := 49) X.1 X.2.1 dX4_read_36 (by decide) ?_
              refine lv_aload_n X.1 X.2.1 dX4_read_49 rfl (lv_at hl 1 rfl) ?_
              refine ca_X10_ended_g X hK hG hC hS hb a1 h1 hl0 bv17 wl_3_167 hl.1 (rest := []) rfl (Nat.le_of_ble_eq_true rfl) ⟨Nat.le_of_ble_eq_true rfl, Nat.le_of_ble_eq_true rfl⟩ ⟨Nat.le_of_ble_eq_true rfl, Nat.le_of_ble_eq_true rfl⟩ dX4_read_50 (fun f26 tf26 H locs htf26 hf26 hWf26 hS => ?_)
              rcases hWf26 with ⟨rfl, av27, pv27, gav27, gbv27, hBf26⟩ | ⟨rfl, wv27, pv27, hBf26⟩
              · have hG := hBf26.2.2.2
                rw [htf26] at hG
                have bv27 := vq_bd2 (k := 0) bv17 (by decide) gav27 gbv27
                refine lv_if_eq (tgt := 74) X.1 X.2.1 dX4_read_53 (by decide) (fun c28 => ?_) (fun c28 => ?_)
                · exact ((iv_no (a := 1) (b := 0) (iv_eqm c28 (iv_c 1 (a := 1) (b := 1) (by decide +kernel)) (iv_c 0 (a := 0) (b := 0) (by decide +kernel)) (by decide +kernel)) (by decide +kernel))).elim
                · have hln : vLnC (sgT1 P) (sgL1 P) lw0 (vX (sgT1 P) (sgL1 P) 0) = (true, av17, qv17) := xf12.1.trans (vLnC_end pv17 (Or.inr i22))
                  have hc0 : vC (sgT1 P) (sgL1 P) av17 = 0 := vEn_t pv27
                  have hlm := ((vLn_cm lw0 (vX (sgT1 P) (sgL1 P) 0) (fun _ => rfl) av17 qv17).mp ⟨hln, hc0⟩).1
                  have hrk : ruOk qv17.1 := by have z := vLnM_in (b := sgT1 P) (n := sgL1 P) lw0 (vX (sgT1 P) (sgL1 P) 0) ruOk_us; rw [hlm] at z; exact z
                  refine lv_aload_n X.1 X.2.1 dX4_read_56 rfl (lv_at hl 0 rfl) ?_
                  refine ca_X4_isWhole_g X hK hG hC hS hb a0 h0 hl0 bv27 hrk wl_3_173 hl.1 (rest := []) rfl (Nat.le_of_ble_eq_true rfl) ⟨Nat.le_of_ble_eq_true rfl, Nat.le_of_ble_eq_true rfl⟩ ⟨Nat.le_of_ble_eq_true rfl, Nat.le_of_ble_eq_true rfl⟩ dX4_read_57 (fun f29 tf29 H locs htf29 hf29 hWf29 hS => ?_)
                  rcases hWf29 with ⟨rfl, kv30, zv30, rv30, yv30, hBf29⟩ | ⟨rfl, kv30, zv30, hBf29⟩
                  · have hG := hBf29.2.2.2
                    rw [htf29] at hG
                    refine lv_if_ne (tgt := 70) X.1 X.2.1 dX4_read_60 (by decide) (fun c31 => ?_) (fun c31 => ?_)
                    · refine lv_iconst (v := 1) X.1 X.2.1 dX4_read_70 (by decide +kernel) ?_
                      refine lv_goto (tgt := 75) X.1 X.2.1 dX4_read_71 (by decide) ?_
                      have hG := kg_weak (b1 := 0) (b2 := 240) (c1 := (-1)) (c2 := (-1)) hG (bv27).1 (Int.le_trans (bv27).2 hl0.2) (Int.le_refl _) (Int.le_refl _)
                      exact sg_zret2 X hr (sg_zn (iv_of (iv_c 1 (a := 1) (b := 1) (by decide +kernel)) (a' := 0) (b' := 1) (by decide +kernel))) hlk hS (iv_of (iv_c 1 (a := 1) (b := 1) (by decide +kernel)) (a' := 0) (b' := 1) (by decide +kernel)) (fun t ht hW => (Or.inl ⟨rfl, _, _, _, hln, hc0, kv30, rv30, yv30, sg_post hb hK hC hG hS ht hW⟩)) dX4_read_75
                    · exact ((iv_no (a := 1) (b := 0) (iv_eqm c31 (iv_c 1 (a := 1) (b := 1) (by decide +kernel)) (iv_c 0 (a := 0) (b := 0) (by decide +kernel)) (by decide +kernel)) (by decide +kernel))).elim
                  · have hG := hBf29.2.2.2
                    rw [htf29] at hG
                    refine lv_if_ne (tgt := 70) X.1 X.2.1 dX4_read_60 (by decide) (fun c32 => ?_) (fun c32 => ?_)
                    · exact ((c32 (iv_one (iv_c 0 (a := 0) (b := 0) (by decide +kernel)) (iv_c 0 (a := 0) (b := 0) (by decide +kernel)) (by decide +kernel)))).elim
                    · refine lv_aload_n X.1 X.2.1 dX4_read_63 rfl (lv_at hl 1 rfl) ?_
                      refine ca_X10_wrongAsWhole_g X hK hG hC hS hb a1 h1 hl0 bv27 wl_3_201 hl.1 (rest := []) rfl (Nat.le_of_ble_eq_true rfl) ⟨Nat.le_of_ble_eq_true rfl, Nat.le_of_ble_eq_true rfl⟩ ⟨Nat.le_of_ble_eq_true rfl, Nat.le_of_ble_eq_true rfl⟩ dX4_read_64 (fun f33 tf33 H locs htf33 hf33 hWf33 hS => ?_)
                      have hG := hWf33.2.2.2
                      rw [htf33] at hG
                      obtain rfl : f33 = 0 := sg_is0 hf33
                      refine lv_if_eq (tgt := 74) X.1 X.2.1 dX4_read_67 (by decide) (fun c34 => ?_) (fun c34 => ?_)
                      · refine lv_iconst (v := 0) X.1 X.2.1 dX4_read_74 (by decide +kernel) ?_
                        have hG := kg_weak (b1 := 0) (b2 := 240) (c1 := (sgL1 P)) (c2 := (sgL1 P)) hG (bv27).1 (Int.le_trans (bv27).2 hl0.2) (Int.le_refl _) (Int.le_refl _)
                        exact sg_zret2 X hr (sg_zn (iv_of (iv_c 0 (a := 0) (b := 0) (by decide +kernel)) (a' := 0) (b' := 1) (by decide +kernel))) hlk hS (iv_of (iv_c 0 (a := 0) (b := 0) (by decide +kernel)) (a' := 0) (b' := 1) (by decide +kernel)) (fun t ht hW => (Or.inr ⟨rfl, _, _, _, _, _, hln, Or.inr (Or.inr ⟨rfl, hc0, kv30, rfl⟩), sg_post hb hK hC hG hS ht hW⟩)) dX4_read_75
                      · exact ((c34 (iv_one (iv_c 0 (a := 0) (b := 0) (by decide +kernel)) (iv_c 0 (a := 0) (b := 0) (by decide +kernel)) (by decide +kernel)))).elim
              · have hG := hBf26.2.2.2
                rw [htf26] at hG
                refine lv_if_eq (tgt := 74) X.1 X.2.1 dX4_read_53 (by decide) (fun c35 => ?_) (fun c35 => ?_)
                · refine lv_iconst (v := 0) X.1 X.2.1 dX4_read_74 (by decide +kernel) ?_
                  have hG := kg_weak (b1 := 0) (b2 := 240) (c1 := wv27) (c2 := wv27) hG (Int.le_refl _) (Int.le_refl _) (Int.le_refl _) (Int.le_refl _)
                  have hln : vLnC (sgT1 P) (sgL1 P) lw0 (vX (sgT1 P) (sgL1 P) 0) = (true, av17, qv17) := xf12.1.trans (vLnC_end pv17 (Or.inr i22))
                  have hc0 := vEn_f pv27
                  exact sg_zret2 X hr (sg_zn (iv_of (iv_c 0 (a := 0) (b := 0) (by decide +kernel)) (a' := 0) (b' := 1) (by decide +kernel))) hlk hS (iv_of (iv_c 0 (a := 0) (b := 0) (by decide +kernel)) (a' := 0) (b' := 1) (by decide +kernel)) (fun t ht hW => (Or.inr ⟨rfl, _, _, _, _, _, hln, Or.inr (Or.inl ⟨rfl, hc0.1, hc0.2⟩), sg_post hb hK hC hG hS ht hW⟩)) dX4_read_75
                · exact ((c35 (iv_one (iv_c 0 (a := 0) (b := 0) (by decide +kernel)) (iv_c 0 (a := 0) (b := 0) (by decide +kernel)) (by decide +kernel)))).elim
          · exact ((iv_no (a := 1) (b := 0) (iv_eqm c18 (iv_c 1 (a := 1) (b := 1) (by decide +kernel)) (iv_c 0 (a := 0) (b := 0) (by decide +kernel)) (by decide +kernel)) (by decide +kernel))).elim
        · have hG := hBf16.2.2.2
          rw [htf16] at hG
          refine lv_if_ne (tgt := 27) X.1 X.2.1 dX4_read_22 (by decide) (fun c36 => ?_) (fun c36 => ?_)
          · exact ((c36 (iv_one (iv_c 0 (a := 0) (b := 0) (by decide +kernel)) (iv_c 0 (a := 0) (b := 0) (by decide +kernel)) (by decide +kernel)))).elim
          · refine lv_iconst (v := 0) X.1 X.2.1 dX4_read_25 (by decide +kernel) ?_
            have hG := kg_weak (b1 := 0) (b2 := 240) (c1 := wv17) (c2 := wv17) hG (Int.le_refl _) (Int.le_refl _) (Int.le_refl _) (Int.le_refl _)
            have hln : vLnC (sgT1 P) (sgL1 P) lw0 (vX (sgT1 P) (sgL1 P) 0) = (false, wv17, _) := xf12.1.trans (vLnC_end pv17 (Or.inl rfl))
            exact sg_zret2 X hr (sg_zn (iv_of (iv_c 0 (a := 0) (b := 0) (by decide +kernel)) (a' := 0) (b' := 1) (by decide +kernel))) hlk hS (iv_of (iv_c 0 (a := 0) (b := 0) (by decide +kernel)) (a' := 0) (b' := 1) (by decide +kernel)) (fun t ht hW => (Or.inr ⟨rfl, _, _, _, _, _, hln, Or.inl ⟨rfl, rfl⟩, sg_post hb hK hC hG hS ht hW⟩)) dX4_read_26
  exact B12_10 _ H _ _ 0 ((vX (sgT1 P) (sgL1 P) 0)) lw0 ((vq_bd0 (b := sgT1 P) hl0.1)).1 ((vq_bd0 (b := sgT1 P) hl0.1)).2 hG hS (lv_sub hl [1, 2, 0] rfl) (iv_of (iv_c 0 (a := 0) (b := 0) (by decide +kernel)) (a' := 0) (b' := 240) (by decide +kernel)) ⟨rfl, lw0_hq, vq_y0 (vq_bd0 (b := sgT1 P) hl0.1).1⟩ (Nat.le_refl _)

theorem ca_X4_read_g  {z : sgZg}  (X : CallFix p m c cc nL s args sg_tbl own) (hK : va_K D vwCl tys s) (hG : sgG (KG 0 240 (-2147483648) 2147483647 z P) D vwCl (fun q : Nat => base ≤ q) tys ad ks H) (hC : sgC base s) (hS : va_S (fun q : Nat => base ≤ q) s.heap H locs) (hb : base ≤ s.heap.size) (a0 : Nat) (h0 : isK ad ks 2 a0) (a1 : Nat) (h1 : isK ad ks 10 a1) (hl0 : 0 ≤ sgL1 P ∧ sgL1 P ≤ 240) (hby : ∀ j : Nat, (↑j : Int) < sgL1 P → 1 ≤ sgT1 P j ∧ sgT1 P j ≤ 255) (hl : Cond.methodLink own index yX4_read ∈ sg_tbl) (hsize : ls.size = nL) (hst : st0 = [.ref a1].reverse ++ .ref a0 :: rest) (hW : (rest.map fun v => v.category).sum ≤ 8) (hR : 7 ≤ R.frames ∧ 160 ≤ R.locals) (hf : cells ≤ R.cells ∧ slots ≤ R.slots) (hdg : decode cc pc = .ok (.invokevirtual index, 3)) (kk : ∀ (r : Int32) (t : State) (H1 : Heap) (locs1 : List Loc), t.heap = H1 → (fun r : Int32 => iv 0 1 r) r → ((r = 1 ∧ ∃ (a1 : Int) (q1 : sgLwn) (z1 : sgZg), vLnC (sgT1 P) (sgL1 P) lw0 (vX (sgT1 P) (sgL1 P) 0) = (true, a1, q1) ∧ vC (sgT1 P) (sgL1 P) a1 = 0 ∧ lwOkC q1 ∧ (∀ i : Nat, i < 7 → z1 1 i = (q1.1 i, q1.1 i)) ∧ z1 0 5 = (q1.1 0 * q1.1 1, q1.1 0 * q1.1 1) ∧ sgB (KG 0 240 (-1) (-1) z1 P) D vwCl base tys ad ks t) ∨ (r = 0 ∧ ∃ (ok : Bool) (a1 w : Int) (q1 : sgLwn) (z1 : sgZg), vLnC (sgT1 P) (sgL1 P) lw0 (vX (sgT1 P) (sgL1 P) 0) = (ok, a1, q1) ∧ ((ok = false ∧ w = a1) ∨ (ok = true ∧ ¬ vC (sgT1 P) (sgL1 P) a1 = 0 ∧ w = a1) ∨ (ok = true ∧ vC (sgT1 P) (sgL1 P) a1 = 0 ∧ ¬ lwOkC q1 ∧ w = sgL1 P)) ∧ sgB (KG 0 240 w w z1 P) D vwCl base tys ad ks t)) → va_S (fun q : Nat => base ≤ q) s.heap H1 locs1 → W p l e R s m args below meth c H1 locs1 cells slots Q (F0 m (pc + 3) ls (.int r :: rest))) : W p l e R s m args below meth c H locs cells slots Q (F0 m pc ls st0) :=
  sg_callV2i X hK hG hC hS hb (m_X4_read_g l a0 h0 a1 h1 hl0 hby) h0 (k := 2) (ci := 4) rfl (C := RX4) (T := TX4) (N := 15) rfl wl_3_29 wl_1_7 wl_3_27 wl_3_28 (n := 1) (by decide +kernel) rfl rfl rfl hl hsize hst hW hR hf hdg kk
end
