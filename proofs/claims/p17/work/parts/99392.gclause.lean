
section
variable {p : Program} {l : Launch} {e : Env} {R : Room} {s : State} {m : MethodId} {args : Array Value} {below : List Frame} {meth : Method} {c : Code} {H : Heap} {locs : List Loc} {cells slots : Nat} {Q : State → Prop} {cc : ByteArray} {nL pc : Nat} {ls : Array Slot} {rest : List Value} {own : String} {D : va_G} {A : Nat → Prop} {tys : List (ClassId × FieldType)} {ad ks : List Nat} {P : sgPm} {H0 : Heap} {index : Nat} {base : Nat} {st0 : List Value} {a : Nat}

set_option maxHeartbeats 8000000 in
set_option maxRecDepth 100000 in
theorem m_X4_clear_g (l : Launch) {D : va_G} {base : Nat} {tys : List (ClassId × FieldType)} {ad ks : List Nat} {P : sgPm}{a w1 w2 : Int} {z : sgZg}  (a0 : Nat) (h0 : isK ad ks 2 a0) : Met l yX4_clear (Cond.code yX4_clear cX4_clear 1 none :: sg_tbl) ({ frames := 1, cells := 0, slots := 0, locals := 60 }) (va_Pc [.ref a0] (sgB (KG a a w1 w2 z P) D vwCl base tys ad ks)) (va_Qv (fun (_ : Unit) => True) (fun _ => fun t => sgB (KG a a w1 w2 (zG lw0 z) P) D vwCl base tys ad ks t) (fun q : Nat => base ≤ q)) 0 0 (fun q : Nat => base ≤ q) := by
  refine sg_ofW (by decide +kernel) (Nat.le_of_ble_eq_true rfl) (fun p e s m below meth c X hr hlk hb hK hC hG ls hl => ?_)
  have hS : va_S (fun q : Nat => base ≤ q) s.heap s.heap [] := va_S.rf
  have hl : lv_has ls 1 [(0, .ref a0)] := hl
  obtain ⟨t10, zt10, nt10⟩ := hC.1.2.2.2.2
  refine va_gets (v := .ref t10) X.1 X.2.1 zt10 hS X.2.2.2.1 (X.2.2.2.2 _ wl_3_38) (fun _ h9 => h9) dX4_clear_0 ?_
  refine lv_iconst (v := 0) X.1 X.2.1 dX4_clear_3 (by decide +kernel) ?_
  refine lv_aload_n X.1 X.2.1 dX4_clear_4 rfl (lv_at hl 0 rfl) ?_
  refine gf_X4_0g X hK hG h0 wl_1_209 dX4_clear_5 (fun q11 hq11 => ?_)
  refine lv_iconst (v := 0) X.1 X.2.1 dX4_clear_8 (by decide +kernel) ?_
  refine lv_bipush (v := 7) X.1 X.2.1 dX4_clear_9 (by decide +kernel) ?_
  refine sg_copyT1 (kt' := KG a a w1 w2 (zUs z) P) X hl.1 hK hG hS nt10 hq11 (k := 50) (by decide) rfl rfl zg_usk zg_uso (by decide +kernel) (by decide +kernel) wl_3_40 wl_3_42 wl_3_41 wl_1_14 (Nat.le_of_ble_eq_true rfl) (Nat.le_of_ble_eq_true rfl) dX4_clear_11 (fun H locs hG hS => ?_)
  refine lv_aload_n X.1 X.2.1 dX4_clear_14 rfl (lv_at hl 0 rfl) ?_
  refine lv_iconst (v := 0) X.1 X.2.1 dX4_clear_15 (by decide +kernel) ?_
  refine pf_X4_9G X hK hG hS h0 wl_1_227 dX4_clear_16 (fun H locs hG hS => ?_)
  rw [show (0 : Int32).toInt = 0 from by decide +kernel] at hG
  have hG : sgG (KG a a w1 w2 (zSet (zUs z) 0 9 0) P) D vwCl _ tys ad ks _ := hG
  refine lv_aload_n X.1 X.2.1 dX4_clear_19 rfl (lv_at hl 0 rfl) ?_
  refine lv_iconst (v := 0) X.1 X.2.1 dX4_clear_20 (by decide +kernel) ?_
  refine pf_X4_10G X hK hG hS h0 wl_1_230 dX4_clear_21 (fun H locs hG hS => ?_)
  rw [show (0 : Int32).toInt = 0 from by decide +kernel] at hG
  have hG : sgG (KG a a w1 w2 (zSet (zSet (zUs z) 0 9 0) 0 10 0) P) D vwCl _ tys ad ks _ := hG
  refine lv_aload_n X.1 X.2.1 dX4_clear_24 rfl (lv_at hl 0 rfl) ?_
  refine lv_iconst (v := 0) X.1 X.2.1 dX4_clear_25 (by decide +kernel) ?_
  refine pf_X4_11G X hK hG hS h0 wl_1_234 (iv_of (iv_c 0 (a := 0) (b := 0) (by decide +kernel)) (a' := 0) (b' := 1) (by decide +kernel)) dX4_clear_26 (fun H locs hG hS => ?_)
  rw [show (0 : Int32).toInt = 0 from by decide +kernel] at hG
  have hG : sgG (KG a a w1 w2 (zSet (zSet (zSet (zUs z) 0 9 0) 0 10 0) 0 11 0) P) D vwCl _ tys ad ks _ := hG
  refine lv_aload_n X.1 X.2.1 dX4_clear_29 rfl (lv_at hl 0 rfl) ?_
  refine lv_iconst (v := 0) X.1 X.2.1 dX4_clear_30 (by decide +kernel) ?_
  refine pf_X4_12G X hK hG hS h0 wl_1_235 (iv_of (iv_c 0 (a := 0) (b := 0) (by decide +kernel)) (a' := 0) (b' := 1) (by decide +kernel)) dX4_clear_31 (fun H locs hG hS => ?_)
  rw [show (0 : Int32).toInt = 0 from by decide +kernel] at hG
  have hG : sgG (KG a a w1 w2 (zSet (zSet (zSet (zSet (zUs z) 0 9 0) 0 10 0) 0 11 0) 0 12 0) P) D vwCl _ tys ad ks _ := hG
  refine lv_aload_n X.1 X.2.1 dX4_clear_34 rfl (lv_at hl 0 rfl) ?_
  refine lv_iconst (v := 0) X.1 X.2.1 dX4_clear_35 (by decide +kernel) ?_
  refine pf_X4_13G X hK hG hS h0 wl_1_236 dX4_clear_36 (fun H locs hG hS => ?_)
  rw [show (0 : Int32).toInt = 0 from by decide +kernel] at hG
  have hG : sgG (KG a a w1 w2 (zSet (zSet (zSet (zSet (zSet (zUs z) 0 9 0) 0 10 0) 0 11 0) 0 12 0) 0 13 0) P) D vwCl _ tys ad ks _ := hG
  refine lv_aload_n X.1 X.2.1 dX4_clear_39 rfl (lv_at hl 0 rfl) ?_
  refine lv_iconst (v := 0) X.1 X.2.1 dX4_clear_40 (by decide +kernel) ?_
  refine pf_X4_14G X hK hG hS h0 wl_1_237 dX4_clear_41 (fun H locs hG hS => ?_)
  rw [show (0 : Int32).toInt = 0 from by decide +kernel] at hG
  have hG : sgG (KG a a w1 w2 (zSet (zSet (zSet (zSet (zSet (zSet (zUs z) 0 9 0) 0 10 0) 0 11 0) 0 12 0) 0 13 0) 0 14 0) P) D vwCl _ tys ad ks _ := hG
  rw [zg_start] at hG
  exact sg_vret2 X hr hlk hS (fun t ht hW => sg_post hb hK hC hG hS ht hW) dX4_clear_44

theorem ca_X4_clear_g  {a w1 w2 : Int} {z : sgZg}  (X : CallFix p m c cc nL s args sg_tbl own) (hK : va_K D vwCl tys s) (hG : sgG (KG a a w1 w2 z P) D vwCl (fun q : Nat => base ≤ q) tys ad ks H) (hC : sgC base s) (hS : va_S (fun q : Nat => base ≤ q) s.heap H locs) (hb : base ≤ s.heap.size) (a0 : Nat) (h0 : isK ad ks 2 a0) (hl : Cond.methodLink own index yX4_clear ∈ sg_tbl) (hsize : ls.size = nL) (hst : st0 = [].reverse ++ .ref a0 :: rest) (hW : (rest.map fun v => v.category).sum ≤ 8) (hR : 2 ≤ R.frames ∧ 80 ≤ R.locals) (hf : cells ≤ R.cells ∧ slots ≤ R.slots) (hdg : decode cc pc = .ok (.invokevirtual index, 3)) (kk : ∀ (t : State) (H1 : Heap) (locs1 : List Loc), t.heap = H1 → ((fun t => sgB (KG a a w1 w2 (zG lw0 z) P) D vwCl base tys ad ks t) t) → va_S (fun q : Nat => base ≤ q) s.heap H1 locs1 → W p l e R s m args below meth c H1 locs1 cells slots Q (F0 m (pc + 3) ls rest)) : W p l e R s m args below meth c H locs cells slots Q (F0 m pc ls st0) :=
  sg_callV2v X hK hG hC hS hb (m_X4_clear_g l a0 h0) h0 (k := 2) (ci := 4) rfl (C := RX4) (T := TX4) (N := 15) rfl wl_3_37 wl_1_7 wl_3_36 wl_0_0 (n := 0) (by decide +kernel) rfl rfl rfl hl hsize hst hW hR hf hdg kk

set_option maxHeartbeats 8000000 in
set_option maxRecDepth 100000 in
theorem m_X4_mayCome_g (l : Launch) {D : va_G} {base : Nat} {tys : List (ClassId × FieldType)} {ad ks : List Nat} {P : sgPm}{a w1 w2 : Int} {q : sgLwn} {o : sgZg}  {Hx : Heap} (a0 : Nat) (h0 : isK ad ks 2 a0) (x1 : Int32) (hq0 : (0 ≤ q.2.2.2.1 ∧ q.2.2.2.1 ≤ 12) ∧ (0 ≤ q.2.2.2.2.1 ∧ q.2.2.2.2.1 ≤ 8)) : sgPi l (KG a a w1 w2 (zG q o) P) D vwCl base tys ad ks Hx yX4_mayCome cX4_mayCome 2 (some .boolean) ({ frames := 0, cells := 0, slots := 0, locals := 0 }) [.ref a0, .int x1] (fun r : Int32 => (r = 1 ∧ lwMay x1.toInt q) ∨ (r = 0 ∧ ¬ lwMay x1.toInt q)) := by
  refine sg_ofP (Pq := fun Hx => va_Qi (fun r (_ : Unit) => (fun r : Int32 => (r = 1 ∧ lwMay x1.toInt q) ∨ (r = 0 ∧ ¬ lwMay x1.toInt q)) r) (fun _ t => t.heap = Hx) (fun _ : Nat => False)) (by decide +kernel) (Nat.le_of_ble_eq_true rfl) (fun p e s m below meth c X hr hlk hb hK hC hG ls hl => ?_)
  have hS : va_S (fun _ : Nat => False) s.heap s.heap [] := va_S.rf
  have hl : lv_has ls 2 [(0, .ref a0), (1, .int x1)] := hl
  refine lv_iload_n X.1 X.2.1 dX4_mayCome_0 rfl (lv_at hl 1 rfl) ?_
  refine lv_bipush (v := 115) X.1 X.2.1 dX4_mayCome_1 (by decide +kernel) ?_
  refine lv_icmp_ne (tgt := 13) X.1 X.2.1 dX4_mayCome_3 (by decide) (fun c10 => ?_) (fun c10 => ?_)
  · have i11 : (x1.toInt = (115 : Int)) = False := vq_ne c10 rfl (by decide +kernel)
    refine lv_iload_n X.1 X.2.1 dX4_mayCome_13 rfl (lv_at hl 1 rfl) ?_
    refine lv_bipush (v := 116) X.1 X.2.1 dX4_mayCome_14 (by decide +kernel) ?_
    refine lv_icmp_ne (tgt := 28) X.1 X.2.1 dX4_mayCome_16 (by decide) (fun c13 => ?_) (fun c13 => ?_)
    · have i14 : (x1.toInt = (116 : Int)) = False := vq_ne c13 rfl (by decide +kernel)
      refine lv_iload_n X.1 X.2.1 dX4_mayCome_28 rfl (lv_at hl 1 rfl) ?_
      refine lv_bipush (v := 98) X.1 X.2.1 dX4_mayCome_29 (by decide +kernel) ?_
      refine lv_icmp_ne (tgt := 47) X.1 X.2.1 dX4_mayCome_31 (by decide) (fun c16 => ?_) (fun c16 => ?_)
      · have i17 : (x1.toInt = (98 : Int)) = False := vq_ne c16 rfl (by decide +kernel)
        refine lv_iconst (v := 0) X.1 X.2.1 dX4_mayCome_47 (by decide +kernel) ?_
        exact sg_zretP X hr (sg_zn (iv_of (iv_c 0 (a := 0) (b := 0) (by decide +kernel)) (a' := 0) (b' := 1) (by decide +kernel))) hlk hS (Or.inr ⟨rfl, fun z => z.elim (fun z => of_eq_false i11 z.1) (fun z => z.elim (fun z => of_eq_false i14 z.1) (fun z => of_eq_false i17 z.1))⟩) dX4_mayCome_48
      · have i18 : x1.toInt = (98 : Int) := vq_eq c16 rfl (by decide +kernel)
        refine lv_aload_n X.1 X.2.1 dX4_mayCome_34 rfl (lv_at hl 0 rfl) ?_
        refine gf_X4_14g X hK hG h0 wl_1_237 dX4_mayCome_35 (fun f19 hf19 => ?_)
        have xf19 : f19.toInt = q.2.2.2.2.1 := zgg_14 (q := q) (o := o) hf19
        have yf19 : iv 0 8 f19 := vq_of xf19 hq0.2
        refine lv_bipush (v := 8) X.1 X.2.1 dX4_mayCome_38 (by decide +kernel) ?_
        refine lv_icmp_ge (tgt := 47) X.1 X.2.1 dX4_mayCome_40 (by decide) (fun c20 => ?_) (fun c20 => ?_)
        · have i21 : ¬ q.2.2.2.2.1 < (8 : Int) := vq_le c20 (by decide +kernel) xf19
          refine lv_iconst (v := 0) X.1 X.2.1 dX4_mayCome_47 (by decide +kernel) ?_
          exact sg_zretP X hr (sg_zn (iv_of (iv_c 0 (a := 0) (b := 0) (by decide +kernel)) (a' := 0) (b' := 1) (by decide +kernel))) hlk hS (Or.inr ⟨rfl, fun z => z.elim (fun z => of_eq_false i11 z.1) (fun z => z.elim (fun z => of_eq_false i14 z.1) (fun z => absurd z.2 i21))⟩) dX4_mayCome_48
        · have i22 : q.2.2.2.2.1 < (8 : Int) := vq_lt (iv_gt_of c20) xf19 (by decide +kernel)
          refine lv_iconst (v := 1) X.1 X.2.1 dX4_mayCome_43 (by decide +kernel) ?_
          refine lv_goto (tgt := 48) X.1 X.2.1 dX4_mayCome_44 (by decide) ?_
          exact sg_zretP X hr (sg_zn (iv_of (iv_c 1 (a := 1) (b := 1) (by decide +kernel)) (a' := 0) (b' := 1) (by decide +kernel))) hlk hS (Or.inl ⟨rfl, Or.inr (Or.inr ⟨i18, i22⟩)⟩) dX4_mayCome_48
    · have i15 : x1.toInt = (116 : Int) := vq_eq c13 rfl (by decide +kernel)
      refine lv_aload_n X.1 X.2.1 dX4_mayCome_19 rfl (lv_at hl 0 rfl) ?_
      refine gf_X4_13g X hK hG h0 wl_1_236 dX4_mayCome_20 (fun f23 hf23 => ?_)
      have xf23 : f23.toInt = q.2.2.2.1 := zgg_13 (q := q) (o := o) hf23
      have yf23 : iv 0 12 f23 := vq_of xf23 hq0.1
      refine lv_bipush (v := 12) X.1 X.2.1 dX4_mayCome_23 (by decide +kernel) ?_
      refine lv_icmp_lt (tgt := 43) X.1 X.2.1 dX4_mayCome_25 (by decide) (fun c24 => ?_) (fun c24 => ?_)
      · have i25 : q.2.2.2.1 < (12 : Int) := vq_lt c24 xf23 (by decide +kernel)
        refine lv_iconst (v := 1) X.1 X.2.1 dX4_mayCome_43 (by decide +kernel) ?_
        refine lv_goto (tgt := 48) X.1 X.2.1 dX4_mayCome_44 (by decide) ?_
        exact sg_zretP X hr (sg_zn (iv_of (iv_c 1 (a := 1) (b := 1) (by decide +kernel)) (a' := 0) (b' := 1) (by decide +kernel))) hlk hS (Or.inl ⟨rfl, Or.inr (Or.inl ⟨i15, i25⟩)⟩) dX4_mayCome_48
      · have i26 : ¬ q.2.2.2.1 < (12 : Int) := vq_le (iv_ge_of c24) (by decide +kernel) xf23
        refine lv_iload_n X.1 X.2.1 dX4_mayCome_28 rfl (lv_at hl 1 rfl) ?_
        refine lv_bipush (v := 98) X.1 X.2.1 dX4_mayCome_29 (by decide +kernel) ?_
        refine lv_icmp_ne (tgt := 47) X.1 X.2.1 dX4_mayCome_31 (by decide) (fun c27 => ?_) (fun c27 => ?_)
        · have i28 : (x1.toInt = (98 : Int)) = False := vq_ne c27 rfl (by decide +kernel)
          refine lv_iconst (v := 0) X.1 X.2.1 dX4_mayCome_47 (by decide +kernel) ?_
          exact sg_zretP X hr (sg_zn (iv_of (iv_c 0 (a := 0) (b := 0) (by decide +kernel)) (a' := 0) (b' := 1) (by decide +kernel))) hlk hS (Or.inr ⟨rfl, fun z => z.elim (fun z => of_eq_false i11 z.1) (fun z => z.elim (fun z => absurd z.2 i26) (fun z => of_eq_false i28 z.1))⟩) dX4_mayCome_48
        · have i29 : x1.toInt = (98 : Int) := vq_eq c27 rfl (by decide +kernel)
          exact ((iv_no (a := 116) (b := 98) (iv_eqm c27 (iv_eqm (a' := 116) (b' := 116) c13 (iv_top x1) (iv_c 116 (a := 116) (b := 116) (by decide +kernel)) (by decide +kernel)) (iv_c 98 (a := 98) (b := 98) (by decide +kernel)) (by decide +kernel)) (by decide +kernel))).elim
  · have i12 : x1.toInt = (115 : Int) := vq_eq c10 rfl (by decide +kernel)
    refine lv_aload_n X.1 X.2.1 dX4_mayCome_6 rfl (lv_at hl 0 rfl) ?_
    refine gf_X4_11g X hK hG h0 wl_1_234 dX4_mayCome_7 (fun f30 hf30 => ?_)
    have zf30 : f30.toInt = (bif q.2.2.2.2.2.1 then 1 else 0) := zgg_11 (q := q) (o := o) hf30
    refine lv_if_eq (tgt := 43) X.1 X.2.1 dX4_mayCome_10 (by decide) (fun c31 => ?_) (fun c31 => ?_)
    · have k32 : q.2.2.2.2.2.1 = false := zb_f zf30 c31
      refine lv_iconst (v := 1) X.1 X.2.1 dX4_mayCome_43 (by decide +kernel) ?_
      refine lv_goto (tgt := 48) X.1 X.2.1 dX4_mayCome_44 (by decide) ?_
      exact sg_zretP X hr (sg_zn (iv_of (iv_c 1 (a := 1) (b := 1) (by decide +kernel)) (a' := 0) (b' := 1) (by decide +kernel))) hlk hS (Or.inl ⟨rfl, Or.inl ⟨i12, k32⟩⟩) dX4_mayCome_48
    · have k33 : q.2.2.2.2.2.1 = true := zb_t zf30 c31
      refine lv_iload_n X.1 X.2.1 dX4_mayCome_13 rfl (lv_at hl 1 rfl) ?_
      refine lv_bipush (v := 116) X.1 X.2.1 dX4_mayCome_14 (by decide +kernel) ?_
      refine lv_icmp_ne (tgt := 28) X.1 X.2.1 dX4_mayCome_16 (by decide) (fun c34 => ?_) (fun c34 => ?_)
      · have i35 : (x1.toInt = (116 : Int)) = False := vq_ne c34 rfl (by decide +kernel)
        refine lv_iload_n X.1 X.2.1 dX4_mayCome_28 rfl (lv_at hl 1 rfl) ?_
        refine lv_bipush (v := 98) X.1 X.2.1 dX4_mayCome_29 (by decide +kernel) ?_
        refine lv_icmp_ne (tgt := 47) X.1 X.2.1 dX4_mayCome_31 (by decide) (fun c37 => ?_) (fun c37 => ?_)
        · have i38 : (x1.toInt = (98 : Int)) = False := vq_ne c37 rfl (by decide +kernel)
          refine lv_iconst (v := 0) X.1 X.2.1 dX4_mayCome_47 (by decide +kernel) ?_
          exact sg_zretP X hr (sg_zn (iv_of (iv_c 0 (a := 0) (b := 0) (by decide +kernel)) (a' := 0) (b' := 1) (by decide +kernel))) hlk hS (Or.inr ⟨rfl, fun z => z.elim (fun z => absurd (z.2.symm.trans k33) (by decide)) (fun z => z.elim (fun z => of_eq_false i35 z.1) (fun z => of_eq_false i38 z.1))⟩) dX4_mayCome_48
        · have i39 : x1.toInt = (98 : Int) := vq_eq c37 rfl (by decide +kernel)
          exact ((iv_no (a := 115) (b := 98) (iv_eqm c37 (iv_eqm (a' := 115) (b' := 115) c10 (iv_top x1) (iv_c 115 (a := 115) (b := 115) (by decide +kernel)) (by decide +kernel)) (iv_c 98 (a := 98) (b := 98) (by decide +kernel)) (by decide +kernel)) (by decide +kernel))).elim
      · have i36 : x1.toInt = (116 : Int) := vq_eq c34 rfl (by decide +kernel)
        exact ((iv_no (a := 116) (b := 115) (iv_eqm c34 (iv_eqm (a' := 115) (b' := 115) c10 (iv_top x1) (iv_c 115 (a := 115) (b := 115) (by decide +kernel)) (by decide +kernel)) (iv_c 116 (a := 116) (b := 116) (by decide +kernel)) (by decide +kernel)) (by decide +kernel))).elim

theorem ca_X4_mayCome_g  {a w1 w2 : Int} {q : sgLwn} {o : sgZg}  (X : CallFix p m c cc nL s args sg_tbl own) (hK : va_K D vwCl tys s) (hG : sgG (KG a a w1 w2 (zG q o) P) D vwCl (fun q : Nat => base ≤ q) tys ad ks H) (hC : sgC base s) (hA : ∀ q : Nat, A q → base ≤ q) (hS : va_S A s.heap H locs) (hb : base ≤ s.heap.size) (a0 : Nat) (h0 : isK ad ks 2 a0) (x1 : Int32) (hq0 : (0 ≤ q.2.2.2.1 ∧ q.2.2.2.1 ≤ 12) ∧ (0 ≤ q.2.2.2.2.1 ∧ q.2.2.2.2.1 ≤ 8)) (hl : Cond.methodLink own index yX4_mayCome ∈ sg_tbl) (hsize : ls.size = nL) (hst : st0 = [.int x1].reverse ++ .ref a0 :: rest) (hW : (rest.map fun v => v.category).sum ≤ 8) (hR : 1 ≤ R.frames ∧ 21 ≤ R.locals) (hf : cells ≤ R.cells ∧ slots ≤ R.slots) (hdg : decode cc pc = .ok (.invokevirtual index, 3)) (kk : ∀ (r : Int32) (locs1 : List Loc), (fun r : Int32 => (r = 1 ∧ lwMay x1.toInt q) ∨ (r = 0 ∧ ¬ lwMay x1.toInt q)) r → va_S A s.heap H locs1 → W p l e R s m args below meth c H locs1 cells slots Q (F0 m (pc + 3) ls (.int r :: rest))) : W p l e R s m args below meth c H locs cells slots Q (F0 m pc ls st0) :=
  sg_callPVi X hK hG hC hA hS hb (m_X4_mayCome_g l a0 h0 x1 hq0) h0 (k := 2) (ci := 4) rfl (C := RX4) (T := TX4) (N := 15) rfl wl_3_54 wl_1_7 wl_3_53 wl_0_2 (n := 1) (by decide +kernel) rfl rfl rfl hl hsize hst hW hR hf hdg kk

set_option maxHeartbeats 8000000 in
set_option maxRecDepth 100000 in
theorem m_X4_readRules_g (l : Launch) {D : va_G} {base : Nat} {tys : List (ClassId × FieldType)} {ad ks : List Nat} {P : sgPm}{a w1 w2 : Int} {q : sgLwn} {o : sgZg}  (a0 : Nat) (h0 : isK ad ks 2 a0) (a1 : Nat) (h1 : isK ad ks 10 a1) (hl0 : 0 ≤ sgL1 P ∧ sgL1 P ≤ 240) (hav : 0 ≤ a ∧ a ≤ sgL1 P) (hby : ∀ j : Nat, (↑j : Int) < sgL1 P → 1 ≤ sgT1 P j ∧ sgT1 P j ≤ 255) : Met l yX4_readRules (Cond.code yX4_readRules cX4_readRules 6 (some .boolean) :: sg_tbl) ({ frames := 4, cells := 0, slots := 0, locals := 91 }) (va_Pc [.ref a0, .ref a1] (sgB (KG a a w1 w2 (zG q o) P) D vwCl base tys ad ks)) (va_Qi (fun r (u : Int32) => u = r ∧ (fun r : Int32 => iv 0 1 r) r) (fun u t => (u = 1 ∧ ∃ (a1 : Int) (f1 : Nat → Int), vRuM (sgT1 P) (sgL1 P) 0 q.1 a = (true, a1, f1) ∧ a + 0 ≤ a1 ∧ a1 ≤ sgL1 P ∧ sgB (KG a1 a1 w1 w2 (zG (f1, q.2.1, q.2.2.1, q.2.2.2.1, q.2.2.2.2.1, true, q.2.2.2.2.2.2) o) P) D vwCl base tys ad ks t) ∨ (u = 0 ∧ ∃ (w : Int) (f1 : Nat → Int) (z1 : sgZg), vRuM (sgT1 P) (sgL1 P) 0 q.1 a = (false, w, f1) ∧ sgB (KG 0 240 w w z1 P) D vwCl base tys ad ks t)) (fun q : Nat => base ≤ q)) 0 0 (fun q : Nat => base ≤ q) := by
  refine sg_ofW (by decide +kernel) (Nat.le_of_ble_eq_true rfl) (fun p e s m below meth c X hr hlk hb hK hC hG ls hl => ?_)
  have hS : va_S (fun q : Nat => base ≤ q) s.heap s.heap [] := va_S.rf
  have hl : lv_has ls 6 [(0, .ref a0), (1, .ref a1)] := hl
  refine lv_aload_n X.1 X.2.1 dX4_readRules_0 rfl (lv_at hl 0 rfl) ?_
  refine lv_iconst (v := 1) X.1 X.2.1 dX4_readRules_1 (by decide +kernel) ?_
  refine pf_X4_11G X hK hG hS h0 wl_1_234 (iv_of (iv_c 1 (a := 1) (b := 1) (by decide +kernel)) (a' := 0) (b' := 1) (by decide +kernel)) dX4_readRules_2 (fun H locs hG hS => ?_)
  rw [show (1 : Int32).toInt = (bif true then 1 else 0) from by decide +kernel, zgq_11] at hG
  have hG : sgG (KG a a w1 w2 (zG (q.1, q.2.1, q.2.2.1, q.2.2.2.1, q.2.2.2.2.1, true, q.2.2.2.2.2.2) o) P) D vwCl _ tys ad ks _ := hG
  refine lv_iconst (v := 0) X.1 X.2.1 dX4_readRules_5 (by decide +kernel) ?_
  refine lv_istore_n (lv' := [(2, .int 0), (0, .ref a0), (1, .ref a1)]) X.1 X.2.1 dX4_readRules_6 rfl hl (by decide) rfl (fun ls hl => ?_)
  refine lv_iconst (v := 0) X.1 X.2.1 dX4_readRules_7 (by decide +kernel) ?_
  refine lv_istore_n (lv' := [(3, .int 0), (2, .int 0), (0, .ref a0), (1, .ref a1)]) X.1 X.2.1 dX4_readRules_8 rfl hl (by decide) rfl (fun ls hl => ?_)
  have B10_9 : ∀ (N : Nat) (H : Heap) (locs : List Loc) (ls : Array Slot) (z10_2 : Int32) (z10_3 : Int32) (a10 : Int) (ru10 : Nat → Int), 0 ≤ a10 → a10 ≤ sgL1 P → a + 0 ≤ a10 → sgG (KG a10 a10 w1 w2 (zG (ru10, q.2.1, q.2.2.1, q.2.2.2.1, q.2.2.2.2.1, true, q.2.2.2.2.2.2) o) P) D vwCl (fun q : Nat => base ≤ q) tys ad ks H → va_S (fun q : Nat => base ≤ q) s.heap H locs → lv_has ls 6 [(0, .ref a0), (1, .ref a1), (2, .int z10_2), (3, .int z10_3)] → iv 0 127 z10_2 → iv 0 8 z10_3 → (vRuM (sgT1 P) (sgL1 P) 0 q.1 a = vRuM (sgT1 P) (sgL1 P) z10_2 ru10 a10 ∧ vCnt z10_2 = (z10_3 : Int32).toInt) → (242 - a10).toNat ≤ N → W p l e (headSpec (Cond.code yX4_readRules cX4_readRules 6 (some .boolean) :: sg_tbl) ({ frames := 4, cells := 0, slots := 0, locals := 91 })).room s m #[.ref a0, .ref a1] below meth c H locs 0 0 (MQ below (va_Qi (fun r (u : Int32) => u = r ∧ (fun r : Int32 => iv 0 1 r) r) (fun u t => (u = 1 ∧ ∃ (a1 : Int) (f1 : Nat → Int), vRuM (sgT1 P) (sgL1 P) 0 q.1 a = (true, a1, f1) ∧ a + 0 ≤ a1 ∧ a1 ≤ sgL1 P ∧ sgB (KG a1 a1 w1 w2 (zG (f1, q.2.1, q.2.2.1, q.2.2.2.1, q.2.2.2.2.1, true, q.2.2.2.2.2.2) o) P) D vwCl base tys ad ks t) ∨ (u = 0 ∧ ∃ (w : Int) (f1 : Nat → Int) (z1 : sgZg), vRuM (sgT1 P) (sgL1 P) 0 q.1 a = (false, w, f1) ∧ sgB (KG 0 240 w w z1 P) D vwCl base tys ad ks t)) (fun q : Nat => base ≤ q)) #[.ref a0, .ref a1] s 0 0 (fun q : Nat => base ≤ q)) (F0 m 9 ls []) := by
    intro N; induction N with
    | zero =>
      intro H locs ls z10_2 z10_3 a10 ru10 jl10 jm10 jk10 hG hS hl hz10_2 hz10_3 xf10 hN
      exact absurd hN (by have := jm10; omega)
    | succ N ih10 =>
      intro H locs ls z10_2 z10_3 a10 ru10 jl10 jm10 jk10 hG hS hl hz10_2 hz10_3 xf10 hN10
      refine lv_iload_n X.1 X.2.1 dX4_readRules_9 rfl (lv_at hl 3 rfl) ?_
      refine lv_bipush (v := 7) X.1 X.2.1 dX4_readRules_10 (by decide +kernel) ?_
      refine lv_icmp_gt (tgt := 108) X.1 X.2.1 dX4_readRules_12 (by decide) (fun c11 => ?_) (fun c11 => ?_)
      · have i12 : (7 : Int) < z10_3.toInt := vq_lt c11 (by decide +kernel) rfl
        exact absurd (vCnt_le z10_2) (by rw [xf10.2]; omega)
      · have i13 : ¬ (7 : Int) < z10_3.toInt := vq_le (iv_ge_of c11) rfl (by decide +kernel)
        obtain ⟨t14, vt14, pt14, rt14⟩ := hC.1.1
        refine va_ldcS X.1 X.2.1 X.2.2.2.1 rt14 dX4_readRules_15 ?_
        refine lv_aload_n X.1 X.2.1 dX4_readRules_17 rfl (lv_at hl 1 rfl) ?_
        refine ca_X10_sign_g X hK hG hC (fun _ h => h) hS hb a1 h1 hl0 (And.intro jl10 jm10) wl_3_47 hl.1 (rest := [.ref t14]) rfl (Nat.le_of_ble_eq_true rfl) ⟨Nat.le_of_ble_eq_true rfl, Nat.le_of_ble_eq_true rfl⟩ ⟨Nat.le_of_ble_eq_true rfl, Nat.le_of_ble_eq_true rfl⟩ dX4_readRules_18 (fun f15 locs hf15 hS => ?_)
        have yf15 : iv 0 255 f15 := vq_255 hf15 hby
        obtain ⟨f16, ef16⟩ : ∃ y : Int32, y = ((f15 : Int32).toUInt32 % 65536).toInt32 := ⟨_, rfl⟩
        refine lv_i2c (v := f16) X.1 X.2.1 dX4_readRules_21 ef16.symm ?_
        have zf16 : f16 = f15 := vq_i2c ef16 yf15
        have xf16 : f16.toInt = vC (sgT1 P) (sgL1 P) a10 := by rw [zf16]; exact hf15
        refine ca_J0_indexOf_0f7a4_v7 X hK (sg_emp (kt := KT P)) hC (fun _ h => h) hS hb pt14 f16 (by rw [zf16]; exact yf15) (sg_htb (by decide +kernel)) wl_3_71 hl.1 (rest := []) rfl (Nat.le_of_ble_eq_true rfl) ⟨Nat.le_of_ble_eq_true rfl, Nat.le_of_ble_eq_true rfl⟩ ⟨Nat.le_of_ble_eq_true rfl, Nat.le_of_ble_eq_true rfl⟩ dX4_readRules_22 (fun f17 locs hf17 hS => ?_)
        have xf17 : f17.toInt = vRul (vC (sgT1 P) (sgL1 P) a10) := hf17.trans (by rw [xf16]; rfl)
        refine lv_istore (lv' := [(4, .int f17), (0, .ref a0), (1, .ref a1), (2, .int z10_2), (3, .int z10_3)]) X.1 X.2.1 dX4_readRules_25 hl (by decide) rfl (fun ls hl => ?_)
        refine lv_iload X.1 X.2.1 dX4_readRules_27 (lv_at hl 0 rfl) ?_
        have y18 := vq_rul xf17
        refine lv_if_lt (tgt := 39) X.1 X.2.1 dX4_readRules_29 (by decide) (fun c19 => ?_) (fun c19 => ?_)
        · have i20 : vRul (vC (sgT1 P) (sgL1 P) a10) < (0 : Int) := vq_lt c19 xf17 (by decide +kernel)
          refine lv_iconst (v := 1) X.1 X.2.1 dX4_readRules_39 (by decide +kernel) ?_
          have spr : vRuM (sgT1 P) (sgL1 P) 0 q.1 a = (true, a10, ru10) := xf10.1.trans (vRuM_no i20)
          exact sg_zret2 X hr (sg_zn (iv_of (iv_c 1 (a := 1) (b := 1) (by decide +kernel)) (a' := 0) (b' := 1) (by decide +kernel))) hlk hS (iv_of (iv_c 1 (a := 1) (b := 1) (by decide +kernel)) (a' := 0) (b' := 1) (by decide +kernel)) (fun t ht hW => (Or.inl ⟨rfl, _, _, spr, vq_pgw jk10 (by decide), ((And.intro jl10 jm10)).2, sg_post hb hK hC hG hS ht hW⟩)) dX4_readRules_40
        · have i21 : ¬ vRul (vC (sgT1 P) (sgL1 P) a10) < (0 : Int) := vq_le (iv_ge_of c19) (by decide +kernel) xf17
          refine lv_iload X.1 X.2.1 dX4_readRules_32 (lv_at hl 0 rfl) ?_
          refine lv_bipush (v := 7) X.1 X.2.1 dX4_readRules_34 (by decide +kernel) ?_
          refine lv_icmp_lt (tgt := 41) X.1 X.2.1 dX4_readRules_36 (by decide) (fun c22 => ?_) (fun c22 => ?_)
          · have i23 : vRul (vC (sgT1 P) (sgL1 P) a10) < (7 : Int) := vq_lt c22 xf17 (by decide +kernel)
            have y25 := vq_rul0 xf17 i21
            have ny25 := vq_neg xf17 y25
            refine lv_iload_n X.1 X.2.1 dX4_readRules_41 rfl (lv_at hl 3 rfl) ?_
            refine lv_iload X.1 X.2.1 dX4_readRules_42 (lv_at hl 0 rfl) ?_
            refine lv_ishr X.1 X.2.1 dX4_readRules_44 ?_
            refine lv_topi (fun f26 ef26 => ?_)
            have wf26 : f26 = (z10_2 >>> ((Int32.ofInt (vRul (vC (sgT1 P) (sgL1 P) a10))) &&& 31)) := ef26.trans (by rw [(vq_oi (x := f17) xf17)])
            refine lv_iconst (v := 1) X.1 X.2.1 dX4_readRules_45 (by decide +kernel) ?_
            refine lv_iand X.1 X.2.1 dX4_readRules_46 ?_
            refine lv_topi (fun f27 ef27 => ?_)
            have wf27 : f27 = ((z10_2 >>> ((Int32.ofInt (vRul (vC (sgT1 P) (sgL1 P) a10))) &&& 31)) &&& (1 : Int32)) := ef27.trans (by rw [wf26])
            refine lv_if_eq (tgt := 55) X.1 X.2.1 dX4_readRules_47 (by decide) (fun c28 => ?_) (fun c28 => ?_)
            · refine lv_iload_n X.1 X.2.1 dX4_readRules_55 rfl (lv_at hl 3 rfl) ?_
              refine lv_iconst (v := 1) X.1 X.2.1 dX4_readRules_56 (by decide +kernel) ?_
              refine lv_iload X.1 X.2.1 dX4_readRules_57 (lv_at hl 0 rfl) ?_
              refine lv_ishl X.1 X.2.1 dX4_readRules_59 ?_
              refine lv_topi (fun f29 ef29 => ?_)
              have wf29 : f29 = ((1 : Int32) <<< ((Int32.ofInt (vRul (vC (sgT1 P) (sgL1 P) a10))) &&& 31)) := ef29.trans (by rw [(vq_oi (x := f17) xf17)])
              refine lv_ior X.1 X.2.1 dX4_readRules_60 ?_
              refine lv_topi (fun f30 ef30 => ?_)
              have wf30 : f30 = (z10_2 ||| ((1 : Int32) <<< ((Int32.ofInt (vRul (vC (sgT1 P) (sgL1 P) a10))) &&& 31))) := ef30.trans (by rw [wf29])
              refine lv_istore_n (lv' := [(2, .int f30), (4, .int f17), (0, .ref a0), (1, .ref a1), (3, .int z10_3)]) X.1 X.2.1 dX4_readRules_61 rfl hl (by decide) rfl (fun ls hl => ?_)
              refine lv_aload_n X.1 X.2.1 dX4_readRules_62 rfl (lv_at hl 3 rfl) ?_
              refine ca_X10_step_g X hK hG hC hS hb a1 h1 hl0 (vC_lt (b := sgT1 P) (vRul_ne i21)) wl_3_59 hl.1 (rest := []) rfl (Nat.le_of_ble_eq_true rfl) ⟨Nat.le_of_ble_eq_true rfl, Nat.le_of_ble_eq_true rfl⟩ ⟨Nat.le_of_ble_eq_true rfl, Nat.le_of_ble_eq_true rfl⟩ dX4_readRules_63 (fun tg31 H locs htg31 hWg31 hS => ?_)
              have b32 := vC_lt (b := sgT1 P) (n := sgL1 P) (a := a10) (vRul_ne i21)
              have bb32 := vq_bdX (b := sgT1 P) b32
              have qb32 : a10 + 1 ≤ vX (sgT1 P) (sgL1 P) (a10 + 1) := (vX_ge (sgT1 P) (sgL1 P) (a10 + 1)).1
              have pb32 : a + 1 ≤ vX (sgT1 P) (sgL1 P) (a10 + 1) := vq_pg jk10 (m := 1) (vX_ge (sgT1 P) (sgL1 P) (a10 + 1)).1 (by decide)
              have hG := hWg31.2.2.2
              rw [htg31] at hG
              refine lv_aload_n X.1 X.2.1 dX4_readRules_66 rfl (lv_at hl 3 rfl) ?_
              refine lv_iconst (v := 2) X.1 X.2.1 dX4_readRules_67 (by decide +kernel) ?_
              obtain ⟨t33, zt33, nt33⟩ := hC.1.2.2.1
              refine va_gets (v := .ref t33) X.1 X.2.1 zt33 hS X.2.2.2.1 (X.2.2.2.2 _ wl_3_155) (fun _ h9 => h9) dX4_readRules_68 ?_
              refine lv_iload X.1 X.2.1 dX4_readRules_71 (lv_at hl 1 rfl) ?_
              refine va_ti X.1 X.2.1 nt33 hS (i := f17) (iv_vpin y25 (by decide +kernel)) rfl dX4_readRules_73 ?_
              refine lv_topi (fun f34 ef34 => ?_)
              have xf34 : f34.toInt = (vLst (vRul (vC (sgT1 P) (sgL1 P) a10)).toNat) := vq_tabL ef34 xf17 ny25
              obtain ⟨t35, zt35, nt35⟩ := hC.1.2.2.2.1
              refine va_gets (v := .ref t35) X.1 X.2.1 zt35 hS X.2.2.2.1 (X.2.2.2.2 _ wl_3_157) (fun _ h9 => h9) dX4_readRules_74 ?_
              refine lv_iload X.1 X.2.1 dX4_readRules_77 (lv_at hl 1 rfl) ?_
              refine va_ti X.1 X.2.1 nt35 hS (i := f17) (iv_vpin y25 (by decide +kernel)) rfl dX4_readRules_79 ?_
              refine lv_topi (fun f36 ef36 => ?_)
              have xf36 : f36.toInt = (vMst (vRul (vC (sgT1 P) (sgL1 P) a10)).toNat) := vq_tabM ef36 xf17 ny25
              refine ca_X10_number_g2 X hK hG hC hS hb a1 h1 2 (iv_c 2 (a := 2) (b := 2) (by decide +kernel)) f34 f36 hl0 bb32 (show (f34 : Int32).toInt = (vLst (vRul (vC (sgT1 P) (sgL1 P) a10)).toNat) ∧ (f36 : Int32).toInt = (vMst (vRul (vC (sgT1 P) (sgL1 P) a10)).toNat) from ⟨xf34, xf36⟩) wl_3_159 hl.1 (rest := []) rfl (Nat.le_of_ble_eq_true rfl) ⟨Nat.le_of_ble_eq_true rfl, Nat.le_of_ble_eq_true rfl⟩ ⟨Nat.le_of_ble_eq_true rfl, Nat.le_of_ble_eq_true rfl⟩ dX4_readRules_80 (fun f37 tf37 H locs htf37 hf37 hWf37 hS => ?_)
              rcases hWf37 with ⟨av38, nv38, pv38, xv38, g1v38, g2v38, g3v38, g4v38, gav38, gbv38, hBf37⟩ | ⟨rfl, wv38, pv38, hBf37⟩
              · have hG := hBf37.2.2.2
                rw [htf37] at hG
                have bv38 := vq_bd2 (k := 1) bb32 (by decide) gav38 gbv38
                have p2v38 : a + 2 ≤ av38 := vq_pg pb32 gav38 (by decide)
                have yv38 : iv 0 99 f37 := ⟨by omega, by omega⟩
                refine lv_istore (lv' := [(5, .int f37), (2, .int f30), (4, .int f17), (0, .ref a0), (1, .ref a1), (3, .int z10_3)]) X.1 X.2.1 dX4_readRules_83 hl (by decide) rfl (fun ls hl => ?_)
                refine lv_iload X.1 X.2.1 dX4_readRules_85 (lv_at hl 0 rfl) ?_
                refine lv_iconst (v := (-1)) X.1 X.2.1 dX4_readRules_87 (by decide +kernel) ?_
                refine lv_icmp_ne (tgt := 93) X.1 X.2.1 dX4_readRules_88 (by decide) (fun c39 => ?_) (fun c39 => ?_)
                · have i40 : (nv38 = ((-1) : Int)) = False := vq_ne c39 xv38 (by decide +kernel)
                  refine lv_aload_n X.1 X.2.1 dX4_readRules_93 rfl (lv_at hl 3 rfl) ?_
                  refine gf_X4_0g X hK hG h0 wl_1_209 dX4_readRules_94 (fun q42 hq42 => ?_)
                  refine lv_iload X.1 X.2.1 dX4_readRules_97 (lv_at hl 2 rfl) ?_
                  refine lv_iload X.1 X.2.1 dX4_readRules_99 (lv_at hl 0 rfl) ?_
                  refine as_50G X hK hG hS hq42 (iv_vpin y25 (by decide +kernel)) dX4_readRules_101 (fun H locs hG hS => ?_)
                  rw [vq_ix7 (x := f17) xf17, xv38, zgq_r] at hG
                  have hG : sgG (KG av38 av38 w1 w2 (zG ((fnUp ru10 (vRul (vC (sgT1 P) (sgL1 P) a10)).toNat nv38), q.2.1, q.2.2.1, q.2.2.2.1, q.2.2.2.2.1, true, q.2.2.2.2.2.2) o) P) D vwCl _ tys ad ks _ := hG
                  obtain ⟨y43, ey43⟩ : ∃ y : Int32, y = z10_3 + Int32.ofInt 1 := ⟨_, rfl⟩
                  have xy43 : y43.toInt = (z10_3.toInt + 1) := sg_exadd ey43 (iv_le (b' := 7) (iv_ge_of c11) hz10_3 (iv_c 7 (a := 7) (b := 7) (by decide +kernel)) (by decide +kernel)) (iv_c _ (a := 1) (b := 1) (by decide +kernel)) (by decide +kernel) rfl (by decide +kernel)
                  refine lv_iinc (v := y43) (lv' := [(3, .int y43), (5, .int f37), (2, .int f30), (4, .int f17), (0, .ref a0), (1, .ref a1)]) X.1 X.2.1 dX4_readRules_102 hl (k := 5) rfl ey43.symm (by decide) rfl (fun ls hl => ?_)
                  refine lv_goto (tgt := 9) X.1 X.2.1 dX4_readRules_105 (by decide) ?_
                  exact ih10 H _ _ f30 y43 (av38) (fnUp ru10 (vRul (vC (sgT1 P) (sgL1 P) a10)).toNat nv38) (bv38).1 (bv38).2 (vq_pgw p2v38 (by decide)) hG hS (lv_sub hl [4, 5, 2, 0] rfl) (iv_of (iv_or 7 ef30 hz10_2 (sg_shl1 ef29 y25 (by decide +kernel)) (by decide +kernel)) (a' := 0) (b' := 127) (by decide +kernel)) (iv_of (iv_add (a' := 1) (b' := 8) ey43 (iv_le (b' := 7) (iv_ge_of c11) hz10_3 (iv_c 7 (a := 7) (b := 7) (by decide +kernel)) (by decide +kernel)) (iv_c _ (a := 1) (b := 1) (by decide +kernel)) (by decide +kernel)) (a' := 0) (b' := 8) (by decide +kernel)) ⟨by rw [wf30]; exact xf10.1.trans (vRuM_step2 (ny25).1 (lwHas_z ((wf27).symm.trans c28)) pv38 (vq_l3 (vX_ge (sgT1 P) (sgL1 P) (a10 + 1)).1 gav38) (vC_lt (b := sgT1 P) (n := sgL1 P) (vRul_ne (ny25).1)).2), by rw [wf30, xy43]; exact (vCnt_s ⟨(ny25).1, (vRul_lt _).2⟩ (lwHas_z ((wf27).symm.trans c28))).trans (congrArg (· + 1) xf10.2)⟩ (by omega)
                · have i41 : nv38 = ((-1) : Int) := vq_eq c39 xv38 (by decide +kernel)
                  exact ((iv_no (a := 0) (b := (-1)) (iv_eqm c39 yv38 (iv_c (-1) (a := (-1)) (b := (-1)) (by decide +kernel)) (by decide +kernel)) (by decide +kernel))).elim
              · have hG := hBf37.2.2.2
                rw [htf37] at hG
                refine lv_istore (lv' := [(5, .int (-1)), (2, .int f30), (4, .int f17), (0, .ref a0), (1, .ref a1), (3, .int z10_3)]) X.1 X.2.1 dX4_readRules_83 hl (by decide) rfl (fun ls hl => ?_)
                refine lv_iload X.1 X.2.1 dX4_readRules_85 (lv_at hl 0 rfl) ?_
                refine lv_iconst (v := (-1)) X.1 X.2.1 dX4_readRules_87 (by decide +kernel) ?_
                refine lv_icmp_ne (tgt := 93) X.1 X.2.1 dX4_readRules_88 (by decide) (fun c44 => ?_) (fun c44 => ?_)
                · exact ((c44 (iv_one (iv_c (-1) (a := (-1)) (b := (-1)) (by decide +kernel)) (iv_c (-1) (a := (-1)) (b := (-1)) (by decide +kernel)) (by decide +kernel)))).elim
                · refine lv_iconst (v := 0) X.1 X.2.1 dX4_readRules_91 (by decide +kernel) ?_
                  have spr : vRuM (sgT1 P) (sgL1 P) 0 q.1 a = (false, wv38, _) := xf10.1.trans (vRuM_bad2 (ny25).1 (lwHas_z ((wf27).symm.trans c28)) pv38)
                  have hG := kg_weak (b1 := 0) (b2 := 240) (c1 := wv38) (c2 := wv38) hG (Int.le_refl _) (Int.le_refl _) (Int.le_refl _) (Int.le_refl _)
                  exact sg_zret2 X hr (sg_zn (iv_of (iv_c 0 (a := 0) (b := 0) (by decide +kernel)) (a' := 0) (b' := 1) (by decide +kernel))) hlk hS (iv_of (iv_c 0 (a := 0) (b := 0) (by decide +kernel)) (a' := 0) (b' := 1) (by decide +kernel)) (fun t ht hW => (Or.inr ⟨rfl, _, _, _, spr, sg_post hb hK hC hG hS ht hW⟩)) dX4_readRules_92
            · refine lv_aload_n X.1 X.2.1 dX4_readRules_50 rfl (lv_at hl 2 rfl) ?_
              refine ca_X10_wrong_g X hK hG hC hS hb a1 h1 hl0 (And.intro jl10 jm10) wl_3_55 hl.1 (rest := []) rfl (Nat.le_of_ble_eq_true rfl) ⟨Nat.le_of_ble_eq_true rfl, Nat.le_of_ble_eq_true rfl⟩ ⟨Nat.le_of_ble_eq_true rfl, Nat.le_of_ble_eq_true rfl⟩ dX4_readRules_51 (fun f45 tf45 H locs htf45 hf45 hWf45 hS => ?_)
              have hG := hWf45.2.2.2
              rw [htf45] at hG
              obtain rfl : f45 = 0 := sg_is0 hf45
              have spr : vRuM (sgT1 P) (sgL1 P) 0 q.1 a = (false, a10, _) := xf10.1.trans (vRuM_dup (ny25).1 (lwHas_n (fun z => c28 ((wf27).trans z))))
              have hG := kg_weak (b1 := 0) (b2 := 240) (c1 := a10) (c2 := a10) hG ((And.intro jl10 jm10)).1 (Int.le_trans ((And.intro jl10 jm10)).2 hl0.2) (Int.le_refl _) (Int.le_refl _)
              exact sg_zret2 X hr (sg_zn (iv_of (iv_c 0 (a := 0) (b := 0) (by decide +kernel)) (a' := 0) (b' := 1) (by decide +kernel))) hlk hS (iv_of (iv_c 0 (a := 0) (b := 0) (by decide +kernel)) (a' := 0) (b' := 1) (by decide +kernel)) (fun t ht hW => (Or.inr ⟨rfl, _, _, _, spr, sg_post hb hK hC hG hS ht hW⟩)) dX4_readRules_54
          · have i24 : ¬ vRul (vC (sgT1 P) (sgL1 P) a10) < (7 : Int) := vq_le (iv_ge_of c22) (by decide +kernel) xf17
            exact ((iv_no (iv_le (b' := 6) (iv_ge_of c22) (iv_c 7 (a := 7) (b := 7) (by decide +kernel)) (iv_ler (c' := 0) (iv_ge_of c19) (iv_c 0 (a := 0) (b := 0) (by decide +kernel)) y18 (by decide +kernel)) (by decide +kernel)) (by decide +kernel))).elim
  exact B10_9 _ H _ _ 0 0 (a) q.1 (hav).1 (hav).2 (vq_pgw (vq_pg0 a) (by decide)) hG hS (lv_sub hl [2, 3, 1, 0] rfl) (iv_of (iv_c 0 (a := 0) (b := 0) (by decide +kernel)) (a' := 0) (b' := 127) (by decide +kernel)) (iv_of (iv_c 0 (a := 0) (b := 0) (by decide +kernel)) (a' := 0) (b' := 8) (by decide +kernel)) ⟨rfl, vCnt_0.trans (by decide +kernel)⟩ (Nat.le_refl _)

theorem ca_X4_readRules_g  {a w1 w2 : Int} {q : sgLwn} {o : sgZg}  (X : CallFix p m c cc nL s args sg_tbl own) (hK : va_K D vwCl tys s) (hG : sgG (KG a a w1 w2 (zG q o) P) D vwCl (fun q : Nat => base ≤ q) tys ad ks H) (hC : sgC base s) (hS : va_S (fun q : Nat => base ≤ q) s.heap H locs) (hb : base ≤ s.heap.size) (a0 : Nat) (h0 : isK ad ks 2 a0) (a1 : Nat) (h1 : isK ad ks 10 a1) (hl0 : 0 ≤ sgL1 P ∧ sgL1 P ≤ 240) (hav : 0 ≤ a ∧ a ≤ sgL1 P) (hby : ∀ j : Nat, (↑j : Int) < sgL1 P → 1 ≤ sgT1 P j ∧ sgT1 P j ≤ 255) (hl : Cond.methodLink own index yX4_readRules ∈ sg_tbl) (hsize : ls.size = nL) (hst : st0 = [.ref a1].reverse ++ .ref a0 :: rest) (hW : (rest.map fun v => v.category).sum ≤ 8) (hR : 5 ≤ R.frames ∧ 116 ≤ R.locals) (hf : cells ≤ R.cells ∧ slots ≤ R.slots) (hdg : decode cc pc = .ok (.invokevirtual index, 3)) (kk : ∀ (r : Int32) (t : State) (H1 : Heap) (locs1 : List Loc), t.heap = H1 → (fun r : Int32 => iv 0 1 r) r → ((r = 1 ∧ ∃ (a1 : Int) (f1 : Nat → Int), vRuM (sgT1 P) (sgL1 P) 0 q.1 a = (true, a1, f1) ∧ a + 0 ≤ a1 ∧ a1 ≤ sgL1 P ∧ sgB (KG a1 a1 w1 w2 (zG (f1, q.2.1, q.2.2.1, q.2.2.2.1, q.2.2.2.2.1, true, q.2.2.2.2.2.2) o) P) D vwCl base tys ad ks t) ∨ (r = 0 ∧ ∃ (w : Int) (f1 : Nat → Int) (z1 : sgZg), vRuM (sgT1 P) (sgL1 P) 0 q.1 a = (false, w, f1) ∧ sgB (KG 0 240 w w z1 P) D vwCl base tys ad ks t)) → va_S (fun q : Nat => base ≤ q) s.heap H1 locs1 → W p l e R s m args below meth c H1 locs1 cells slots Q (F0 m (pc + 3) ls (.int r :: rest))) : W p l e R s m args below meth c H locs cells slots Q (F0 m pc ls st0) :=
  sg_callV2i X hK hG hC hS hb (m_X4_readRules_g l a0 h0 a1 h1 hl0 hav hby) h0 (k := 2) (ci := 4) rfl (C := RX4) (T := TX4) (N := 15) rfl wl_3_69 wl_1_7 wl_3_68 wl_0_3 (n := 1) (by decide +kernel) rfl rfl rfl hl hsize hst hW hR hf hdg kk

set_option maxHeartbeats 8000000 in
set_option maxRecDepth 100000 in
theorem m_X4_readSpot_g1 (l : Launch) {D : va_G} {base : Nat} {tys : List (ClassId × FieldType)} {ad ks : List Nat} {P : sgPm}{a w1 w2 : Int} {q : sgLwn} {o : sgZg}  (a0 : Nat) (h0 : isK ad ks 2 a0) (a1 : Nat) (h1 : isK ad ks 10 a1) (x2 : Int32) (h2 : iv 1 1 x2) (hl0 : 0 ≤ sgL1 P ∧ sgL1 P ≤ 240) (hav : 0 ≤ a ∧ a ≤ sgL1 P) (hby : ∀ j : Nat, (↑j : Int) < sgL1 P → 1 ≤ sgT1 P j ∧ sgT1 P j ≤ 255) (hq0 : (0 ≤ q.2.2.2.1 ∧ q.2.2.2.1 ≤ 12) ∧ (0 ≤ q.2.2.2.2.1 ∧ q.2.2.2.2.1 ≤ 8)) : Met l yX4_readSpot (Cond.code yX4_readSpot cX4_readSpot 5 (some .boolean) :: sg_tbl) ({ frames := 2, cells := 0, slots := 0, locals := 34 }) (va_Pc [.ref a0, .ref a1, .int x2] (sgB (KG a a w1 w2 (zG q o) P) D vwCl base tys ad ks)) (va_Qi (fun r (u : Int32) => u = r ∧ (fun r : Int32 => iv 0 1 r) r) (fun u t => (u = 1 ∧ ∃ (a1 v1 : Int), vSpC (sgT1 P) (sgL1 P) a = (true, a1, v1) ∧ a + 0 ≤ a1 ∧ a1 ≤ sgL1 P ∧ sgB (KG a1 a1 w1 w2 (zG (lwPut true v1 q) o) P) D vwCl base tys ad ks t) ∨ (u = 0 ∧ ∃ (w v1 : Int) (z1 : sgZg), vSpC (sgT1 P) (sgL1 P) a = (false, w, v1) ∧ sgB (KG 0 240 w w z1 P) D vwCl base tys ad ks t)) (fun q : Nat => base ≤ q)) 0 0 (fun q : Nat => base ≤ q) := by
  refine sg_ofW (by decide +kernel) (Nat.le_of_ble_eq_true rfl) (fun p e s m below meth c X hr hlk hb hK hC hG ls hl => ?_)
  have hS : va_S (fun q : Nat => base ≤ q) s.heap s.heap [] := va_S.rf
  have hl : lv_has ls 5 [(0, .ref a0), (1, .ref a1), (2, .int x2)] := hl
  refine lv_iconst (v := 0) X.1 X.2.1 dX4_readSpot_0 (by decide +kernel) ?_
  refine lv_istore_n (lv' := [(3, .int 0), (0, .ref a0), (1, .ref a1), (2, .int x2)]) X.1 X.2.1 dX4_readSpot_1 rfl hl (by decide) rfl (fun ls hl => ?_)
  refine lv_aload_n X.1 X.2.1 dX4_readSpot_2 rfl (lv_at hl 2 rfl) ?_
  refine ca_X10_sign_g X hK hG hC (fun _ h => h) hS hb a1 h1 hl0 hav wl_3_47 hl.1 (rest := []) rfl (Nat.le_of_ble_eq_true rfl) ⟨Nat.le_of_ble_eq_true rfl, Nat.le_of_ble_eq_true rfl⟩ ⟨Nat.le_of_ble_eq_true rfl, Nat.le_of_ble_eq_true rfl⟩ dX4_readSpot_3 (fun f10 locs hf10 hS => ?_)
  have yf10 : iv 0 255 f10 := vq_255 hf10 hby
  refine lv_bipush (v := 99) X.1 X.2.1 dX4_readSpot_6 (by decide +kernel) ?_
  refine lv_icmp_ne (tgt := 31) X.1 X.2.1 dX4_readSpot_8 (by decide) (fun c11 => ?_) (fun c11 => ?_)
  · have i12 : (vC (sgT1 P) (sgL1 P) a = (99 : Int)) = False := vq_ne c11 hf10 (by decide +kernel)
    refine lv_iconst (v := 1) X.1 X.2.1 dX4_readSpot_31 (by decide +kernel) ?_
    refine lv_iload_n X.1 X.2.1 dX4_readSpot_32 rfl (lv_at hl 0 rfl) ?_
    refine lv_ishl X.1 X.2.1 dX4_readSpot_33 ?_
    refine lv_topi (fun f14 ef14 => ?_)
    have wf14 : f14 = ((1 : Int32) <<< ((Int32.ofInt 0) &&& 31)) := ef14.trans (by rw [(show (0 : Int32) = Int32.ofInt 0 from by decide +kernel)])
    refine lv_istore (lv' := [(4, .int f14), (3, .int 0), (0, .ref a0), (1, .ref a1), (2, .int x2)]) X.1 X.2.1 dX4_readSpot_34 hl (by decide) rfl (fun ls hl => ?_)
    refine lv_aload_n X.1 X.2.1 dX4_readSpot_36 rfl (lv_at hl 2 rfl) ?_
    refine lv_dup X.1 X.2.1 dX4_readSpot_37 rfl ?_
    refine gf_X4_12g X hK hG h0 wl_1_235 dX4_readSpot_38 (fun f15 hf15 => ?_)
    have zf15 : f15.toInt = (bif q.2.2.2.2.2.2 then 1 else 0) := zgg_12 (q := q) (o := o) hf15
    refine lv_aload_n X.1 X.2.1 dX4_readSpot_41 rfl (lv_at hl 2 rfl) ?_
    refine gf_X4_9g X hK hG h0 wl_1_227 dX4_readSpot_42 (fun f16 hf16 => ?_)
    have wf16 : f16 = q.2.1 := zgg_9 (q := q) (o := o) hf16
    refine lv_aload_n X.1 X.2.1 dX4_readSpot_45 rfl (lv_at hl 2 rfl) ?_
    refine gf_X4_10g X hK hG h0 wl_1_230 dX4_readSpot_46 (fun f17 hf17 => ?_)
    have wf17 : f17 = q.2.2.1 := zgg_10 (q := q) (o := o) hf17
    refine lv_ior X.1 X.2.1 dX4_readSpot_49 ?_
    refine lv_topi (fun f18 ef18 => ?_)
    have wf18 : f18 = (q.2.1 ||| q.2.2.1) := ef18.trans (by rw [wf16, wf17])
    refine lv_iload X.1 X.2.1 dX4_readSpot_50 (lv_at hl 0 rfl) ?_
    refine lv_iand X.1 X.2.1 dX4_readSpot_52 ?_
    refine lv_topi (fun f19 ef19 => ?_)
    have wf19 : f19 = ((q.2.1 ||| q.2.2.1) &&& ((1 : Int32) <<< ((Int32.ofInt 0) &&& 31))) := ef19.trans (by rw [wf18, wf14])
    have g20 := (show (0 : Int) ≤ 0 ∧ (0 : Int) ≤ 31 from by have h1 := ((iv_c 0 (a := 0) (b := 0) (by decide +kernel))).1; have h2 := ((iv_c 0 (a := 0) (b := 0) (by decide +kernel))).2; have h3 := (show (0 : Int32).toInt = 0 from (by decide +kernel)); omega)
    refine lv_if_eq (tgt := 60) X.1 X.2.1 dX4_readSpot_53 (by decide) (fun c21 => ?_) (fun c21 => ?_)
    · refine lv_iconst (v := 0) X.1 X.2.1 dX4_readSpot_60 (by decide +kernel) ?_
      refine lv_ior X.1 X.2.1 dX4_readSpot_61 ?_
      refine lv_topi (fun f22 ef22 => ?_)
      refine pf_X4_12G X hK hG hS h0 wl_1_235 (iv_of (iv_or 1 ef22 (zb_01 zf15) (iv_c 0 (a := 0) (b := 0) (by decide +kernel)) (by decide +kernel)) (a' := 0) (b' := 1) (by decide +kernel)) dX4_readSpot_62 (fun H locs hG hS => ?_)
      rw [show (f22 : Int32).toInt = (bif q.2.2.2.2.2.2 then 1 else 0) from zb_or0 ef22 zf15, zgq_12] at hG
      have hG : sgG (KG a a w1 w2 (zG q o) P) D vwCl _ tys ad ks _ := hG
      refine lv_iload_n X.1 X.2.1 dX4_readSpot_65 rfl (lv_at hl 4 rfl) ?_
      refine lv_if_eq (tgt := 93) X.1 X.2.1 dX4_readSpot_66 (by decide) (fun c23 => ?_) (fun c23 => ?_)
      · have i24 : x2.toInt = (0 : Int) := vq_eq c23 rfl (by decide +kernel)
        exact ((iv_no (a := 1) (b := 0) (iv_eqm c23 h2 (iv_c 0 (a := 0) (b := 0) (by decide +kernel)) (by decide +kernel)) (by decide +kernel))).elim
      · have i25 : (x2.toInt = (0 : Int)) = False := vq_ne c23 rfl (by decide +kernel)
        refine lv_aload_n X.1 X.2.1 dX4_readSpot_69 rfl (lv_at hl 2 rfl) ?_
        refine lv_dup X.1 X.2.1 dX4_readSpot_70 rfl ?_
        refine gf_X4_9g X hK hG h0 wl_1_227 dX4_readSpot_71 (fun f26 hf26 => ?_)
        have wf26 : f26 = q.2.1 := zgg_9 (q := q) (o := o) hf26
        refine lv_iload X.1 X.2.1 dX4_readSpot_74 (lv_at hl 0 rfl) ?_
        refine lv_ior X.1 X.2.1 dX4_readSpot_76 ?_
        refine lv_topi (fun f27 ef27 => ?_)
        have wf27 : f27 = (q.2.1 ||| ((1 : Int32) <<< ((Int32.ofInt 0) &&& 31))) := ef27.trans (by rw [wf26, wf14])
        refine pf_X4_9G X hK hG hS h0 wl_1_227 dX4_readSpot_77 (fun H locs hG hS => ?_)
        rw [zgq_9, wf27] at hG
        have hG : sgG (KG a a w1 w2 (zG (q.1, (q.2.1 ||| ((1 : Int32) <<< ((Int32.ofInt 0) &&& 31))), q.2.2.1, q.2.2.2.1, q.2.2.2.2.1, q.2.2.2.2.2.1, q.2.2.2.2.2.2) o) P) D vwCl _ tys ad ks _ := hG
        refine lv_aload_n X.1 X.2.1 dX4_readSpot_80 rfl (lv_at hl 2 rfl) ?_
        refine lv_dup X.1 X.2.1 dX4_readSpot_81 rfl ?_
        refine gf_X4_13g X hK hG h0 wl_1_236 dX4_readSpot_82 (fun f28 hf28 => ?_)
        have xf28 : f28.toInt = q.2.2.2.1 := zgg_13 (q := (q.1, (q.2.1 ||| ((1 : Int32) <<< ((Int32.ofInt 0) &&& 31))), q.2.2.1, q.2.2.2.1, q.2.2.2.2.1, q.2.2.2.2.2.1, q.2.2.2.2.2.2)) (o := o) hf28
        have yf28 : iv 0 12 f28 := vq_of xf28 hq0.1
        refine lv_iconst (v := 1) X.1 X.2.1 dX4_readSpot_85 (by decide +kernel) ?_
        refine lv_iadd X.1 X.2.1 dX4_readSpot_86 ?_
        refine lv_topi (fun f29 ef29 => ?_)
        have xf29 : f29.toInt = (q.2.2.2.1 + 1) := sg_exadd ef29 yf28 (iv_c 1 (a := 1) (b := 1) (by decide +kernel)) (by decide +kernel) xf28 (by decide +kernel)
        refine pf_X4_13G X hK hG hS h0 wl_1_236 dX4_readSpot_87 (fun H locs hG hS => ?_)
        rw [xf29, zgq_13] at hG
        have hG : sgG (KG a a w1 w2 (zG (q.1, (q.2.1 ||| ((1 : Int32) <<< ((Int32.ofInt 0) &&& 31))), q.2.2.1, (q.2.2.2.1 + 1), q.2.2.2.2.1, q.2.2.2.2.2.1, q.2.2.2.2.2.2) o) P) D vwCl _ tys ad ks _ := hG
        refine lv_goto (tgt := 114) X.1 X.2.1 dX4_readSpot_90 (by decide) ?_
        refine lv_iconst (v := 1) X.1 X.2.1 dX4_readSpot_114 (by decide +kernel) ?_
        have spr : vSpC (sgT1 P) (sgL1 P) a = (true, a, 0) := vSpC_0 i12
        have hpq : lwPut true 0 q = (q.1, (q.2.1 ||| ((1 : Int32) <<< ((Int32.ofInt 0) &&& 31))), q.2.2.1, (q.2.2.2.1 + 1), q.2.2.2.2.1, q.2.2.2.2.2.1, q.2.2.2.2.2.2) := by unfold lwPut; rw [(show (q.2.2.2.2.2.2 || lwHas (q.2.1 ||| q.2.2.1) 0) = q.2.2.2.2.2.2 from by rw [(lw_and_z (s := q.2.1 ||| q.2.2.1) g20 ((wf19).symm.trans c21)), Bool.or_false])]; rfl
        rw [← hpq] at hG
        exact sg_zret2 X hr (sg_zn (iv_of (iv_c 1 (a := 1) (b := 1) (by decide +kernel)) (a' := 0) (b' := 1) (by decide +kernel))) hlk hS (iv_of (iv_c 1 (a := 1) (b := 1) (by decide +kernel)) (a' := 0) (b' := 1) (by decide +kernel)) (fun t ht hW => (Or.inl ⟨rfl, _, _, spr, vq_pgw (vq_pg0 a) (by decide), (hav).2, sg_post hb hK hC hG hS ht hW⟩)) dX4_readSpot_115
    · refine lv_iconst (v := 1) X.1 X.2.1 dX4_readSpot_56 (by decide +kernel) ?_
      refine lv_goto (tgt := 61) X.1 X.2.1 dX4_readSpot_57 (by decide) ?_
      refine lv_ior X.1 X.2.1 dX4_readSpot_61 ?_
      refine lv_topi (fun f30 ef30 => ?_)
      refine pf_X4_12G X hK hG hS h0 wl_1_235 (iv_of (iv_or 1 ef30 (zb_01 zf15) (iv_c 1 (a := 1) (b := 1) (by decide +kernel)) (by decide +kernel)) (a' := 0) (b' := 1) (by decide +kernel)) dX4_readSpot_62 (fun H locs hG hS => ?_)
      rw [show (f30 : Int32).toInt = (bif true then 1 else 0) from zb_or1 ef30 zf15, zgq_12] at hG
      have hG : sgG (KG a a w1 w2 (zG (q.1, q.2.1, q.2.2.1, q.2.2.2.1, q.2.2.2.2.1, q.2.2.2.2.2.1, true) o) P) D vwCl _ tys ad ks _ := hG
      refine lv_iload_n X.1 X.2.1 dX4_readSpot_65 rfl (lv_at hl 4 rfl) ?_
      refine lv_if_eq (tgt := 93) X.1 X.2.1 dX4_readSpot_66 (by decide) (fun c31 => ?_) (fun c31 => ?_)
      · have i32 : x2.toInt = (0 : Int) := vq_eq c31 rfl (by decide +kernel)
        exact ((iv_no (a := 1) (b := 0) (iv_eqm c31 h2 (iv_c 0 (a := 0) (b := 0) (by decide +kernel)) (by decide +kernel)) (by decide +kernel))).elim
      · have i33 : (x2.toInt = (0 : Int)) = False := vq_ne c31 rfl (by decide +kernel)
        refine lv_aload_n X.1 X.2.1 dX4_readSpot_69 rfl (lv_at hl 2 rfl) ?_
        refine lv_dup X.1 X.2.1 dX4_readSpot_70 rfl ?_
        refine gf_X4_9g X hK hG h0 wl_1_227 dX4_readSpot_71 (fun f34 hf34 => ?_)
        have wf34 : f34 = q.2.1 := zgg_9 (q := (q.1, q.2.1, q.2.2.1, q.2.2.2.1, q.2.2.2.2.1, q.2.2.2.2.2.1, true)) (o := o) hf34
        refine lv_iload X.1 X.2.1 dX4_readSpot_74 (lv_at hl 0 rfl) ?_
        refine lv_ior X.1 X.2.1 dX4_readSpot_76 ?_
        refine lv_topi (fun f35 ef35 => ?_)
        have wf35 : f35 = (q.2.1 ||| ((1 : Int32) <<< ((Int32.ofInt 0) &&& 31))) := ef35.trans (by rw [wf34, wf14])
        refine pf_X4_9G X hK hG hS h0 wl_1_227 dX4_readSpot_77 (fun H locs hG hS => ?_)
        rw [zgq_9, wf35] at hG
        have hG : sgG (KG a a w1 w2 (zG (q.1, (q.2.1 ||| ((1 : Int32) <<< ((Int32.ofInt 0) &&& 31))), q.2.2.1, q.2.2.2.1, q.2.2.2.2.1, q.2.2.2.2.2.1, true) o) P) D vwCl _ tys ad ks _ := hG
        refine lv_aload_n X.1 X.2.1 dX4_readSpot_80 rfl (lv_at hl 2 rfl) ?_
        refine lv_dup X.1 X.2.1 dX4_readSpot_81 rfl ?_
        refine gf_X4_13g X hK hG h0 wl_1_236 dX4_readSpot_82 (fun f36 hf36 => ?_)
        have xf36 : f36.toInt = q.2.2.2.1 := zgg_13 (q := (q.1, (q.2.1 ||| ((1 : Int32) <<< ((Int32.ofInt 0) &&& 31))), q.2.2.1, q.2.2.2.1, q.2.2.2.2.1, q.2.2.2.2.2.1, true)) (o := o) hf36
        have yf36 : iv 0 12 f36 := vq_of xf36 hq0.1
        refine lv_iconst (v := 1) X.1 X.2.1 dX4_readSpot_85 (by decide +kernel) ?_
        refine lv_iadd X.1 X.2.1 dX4_readSpot_86 ?_
        refine lv_topi (fun f37 ef37 => ?_)
        have xf37 : f37.toInt = (q.2.2.2.1 + 1) := sg_exadd ef37 yf36 (iv_c 1 (a := 1) (b := 1) (by decide +kernel)) (by decide +kernel) xf36 (by decide +kernel)
        refine pf_X4_13G X hK hG hS h0 wl_1_236 dX4_readSpot_87 (fun H locs hG hS => ?_)
        rw [xf37, zgq_13] at hG
        have hG : sgG (KG a a w1 w2 (zG (q.1, (q.2.1 ||| ((1 : Int32) <<< ((Int32.ofInt 0) &&& 31))), q.2.2.1, (q.2.2.2.1 + 1), q.2.2.2.2.1, q.2.2.2.2.2.1, true) o) P) D vwCl _ tys ad ks _ := hG
        refine lv_goto (tgt := 114) X.1 X.2.1 dX4_readSpot_90 (by decide) ?_
        refine lv_iconst (v := 1) X.1 X.2.1 dX4_readSpot_114 (by decide +kernel) ?_
        have spr : vSpC (sgT1 P) (sgL1 P) a = (true, a, 0) := vSpC_0 i12
        have hpq : lwPut true 0 q = (q.1, (q.2.1 ||| ((1 : Int32) <<< ((Int32.ofInt 0) &&& 31))), q.2.2.1, (q.2.2.2.1 + 1), q.2.2.2.2.1, q.2.2.2.2.2.1, true) := by unfold lwPut; rw [(show (q.2.2.2.2.2.2 || lwHas (q.2.1 ||| q.2.2.1) 0) = true from lw_d2 (lw_and_n (s := q.2.1 ||| q.2.2.1) g20 (fun z => c21 ((wf19).trans z))))]; rfl
        rw [← hpq] at hG
        exact sg_zret2 X hr (sg_zn (iv_of (iv_c 1 (a := 1) (b := 1) (by decide +kernel)) (a' := 0) (b' := 1) (by decide +kernel))) hlk hS (iv_of (iv_c 1 (a := 1) (b := 1) (by decide +kernel)) (a' := 0) (b' := 1) (by decide +kernel)) (fun t ht hW => (Or.inl ⟨rfl, _, _, spr, vq_pgw (vq_pg0 a) (by decide), (hav).2, sg_post hb hK hC hG hS ht hW⟩)) dX4_readSpot_115
  · have i13 : vC (sgT1 P) (sgL1 P) a = (99 : Int) := vq_eq c11 hf10 (by decide +kernel)
    refine lv_aload_n X.1 X.2.1 dX4_readSpot_11 rfl (lv_at hl 2 rfl) ?_
    refine ca_X10_step_g X hK hG hC hS hb a1 h1 hl0 (vC_lt (b := sgT1 P) (by rw [i13]; decide)) wl_3_59 hl.1 (rest := []) rfl (Nat.le_of_ble_eq_true rfl) ⟨Nat.le_of_ble_eq_true rfl, Nat.le_of_ble_eq_true rfl⟩ ⟨Nat.le_of_ble_eq_true rfl, Nat.le_of_ble_eq_true rfl⟩ dX4_readSpot_12 (fun tg38 H locs htg38 hWg38 hS => ?_)
    have b39 := vC_lt (b := sgT1 P) (n := sgL1 P) (a := a) (by rw [i13]; decide)
    have bb39 := vq_bdX (b := sgT1 P) b39
    have qb39 : a + 1 ≤ vX (sgT1 P) (sgL1 P) (a + 1) := (vX_ge (sgT1 P) (sgL1 P) (a + 1)).1
    have pb39 : a + 1 ≤ vX (sgT1 P) (sgL1 P) (a + 1) := vq_pg (vq_pg0 a) (m := 1) (vX_ge (sgT1 P) (sgL1 P) (a + 1)).1 (by decide)
    have hG := hWg38.2.2.2
    rw [htg38] at hG
    refine lv_aload_n X.1 X.2.1 dX4_readSpot_15 rfl (lv_at hl 2 rfl) ?_
    refine lv_iconst (v := 2) X.1 X.2.1 dX4_readSpot_16 (by decide +kernel) ?_
    refine lv_iconst (v := 0) X.1 X.2.1 dX4_readSpot_17 (by decide +kernel) ?_
    refine lv_bipush (v := 29) X.1 X.2.1 dX4_readSpot_18 (by decide +kernel) ?_
    refine ca_X10_number_g2 X hK hG hC hS hb a1 h1 2 (iv_c 2 (a := 2) (b := 2) (by decide +kernel)) 0 29 hl0 bb39 (show (0 : Int32).toInt = (0 : Int) ∧ (29 : Int32).toInt = (29 : Int) from ⟨(by decide +kernel), (by decide +kernel)⟩) wl_3_159 hl.1 (rest := []) rfl (Nat.le_of_ble_eq_true rfl) ⟨Nat.le_of_ble_eq_true rfl, Nat.le_of_ble_eq_true rfl⟩ ⟨Nat.le_of_ble_eq_true rfl, Nat.le_of_ble_eq_true rfl⟩ dX4_readSpot_20 (fun f40 tf40 H locs htf40 hf40 hWf40 hS => ?_)
    rcases hWf40 with ⟨av41, nv41, pv41, xv41, g1v41, g2v41, g3v41, g4v41, gav41, gbv41, hBf40⟩ | ⟨rfl, wv41, pv41, hBf40⟩
    · have hG := hBf40.2.2.2
      rw [htf40] at hG
      have bv41 := vq_bd2 (k := 1) bb39 (by decide) gav41 gbv41
      have p2v41 : a + 2 ≤ av41 := vq_pg pb39 gav41 (by decide)
      have yv41 : iv 0 29 f40 := ⟨by omega, by omega⟩
      refine lv_istore_n (lv' := [(3, .int f40), (0, .ref a0), (1, .ref a1), (2, .int x2)]) X.1 X.2.1 dX4_readSpot_23 rfl hl (by decide) rfl (fun ls hl => ?_)
      refine lv_iload_n X.1 X.2.1 dX4_readSpot_24 rfl (lv_at hl 0 rfl) ?_
      refine lv_iconst (v := (-1)) X.1 X.2.1 dX4_readSpot_25 (by decide +kernel) ?_
      refine lv_icmp_ne (tgt := 31) X.1 X.2.1 dX4_readSpot_26 (by decide) (fun c42 => ?_) (fun c42 => ?_)
      · have i43 : (nv41 = ((-1) : Int)) = False := vq_ne c42 xv41 (by decide +kernel)
        refine lv_iconst (v := 1) X.1 X.2.1 dX4_readSpot_31 (by decide +kernel) ?_
        refine lv_iload_n X.1 X.2.1 dX4_readSpot_32 rfl (lv_at hl 0 rfl) ?_
        refine lv_ishl X.1 X.2.1 dX4_readSpot_33 ?_
        refine lv_topi (fun f45 ef45 => ?_)
        have wf45 : f45 = ((1 : Int32) <<< ((Int32.ofInt nv41) &&& 31)) := ef45.trans (by rw [(vq_oi (x := f40) xv41)])
        refine lv_istore (lv' := [(4, .int f45), (3, .int f40), (0, .ref a0), (1, .ref a1), (2, .int x2)]) X.1 X.2.1 dX4_readSpot_34 hl (by decide) rfl (fun ls hl => ?_)
        refine lv_aload_n X.1 X.2.1 dX4_readSpot_36 rfl (lv_at hl 2 rfl) ?_
        refine lv_dup X.1 X.2.1 dX4_readSpot_37 rfl ?_
        refine gf_X4_12g X hK hG h0 wl_1_235 dX4_readSpot_38 (fun f46 hf46 => ?_)
        have zf46 : f46.toInt = (bif q.2.2.2.2.2.2 then 1 else 0) := zgg_12 (q := q) (o := o) hf46
        refine lv_aload_n X.1 X.2.1 dX4_readSpot_41 rfl (lv_at hl 2 rfl) ?_
        refine gf_X4_9g X hK hG h0 wl_1_227 dX4_readSpot_42 (fun f47 hf47 => ?_)
        have wf47 : f47 = q.2.1 := zgg_9 (q := q) (o := o) hf47
        refine lv_aload_n X.1 X.2.1 dX4_readSpot_45 rfl (lv_at hl 2 rfl) ?_
        refine gf_X4_10g X hK hG h0 wl_1_230 dX4_readSpot_46 (fun f48 hf48 => ?_)
        have wf48 : f48 = q.2.2.1 := zgg_10 (q := q) (o := o) hf48
        refine lv_ior X.1 X.2.1 dX4_readSpot_49 ?_
        refine lv_topi (fun f49 ef49 => ?_)
        have wf49 : f49 = (q.2.1 ||| q.2.2.1) := ef49.trans (by rw [wf47, wf48])
        refine lv_iload X.1 X.2.1 dX4_readSpot_50 (lv_at hl 0 rfl) ?_
        refine lv_iand X.1 X.2.1 dX4_readSpot_52 ?_
        refine lv_topi (fun f50 ef50 => ?_)
        have wf50 : f50 = ((q.2.1 ||| q.2.2.1) &&& ((1 : Int32) <<< ((Int32.ofInt nv41) &&& 31))) := ef50.trans (by rw [wf49, wf45])
        have g51 := (show (0 : Int) ≤ nv41 ∧ (nv41 : Int) ≤ 31 from by have h1 := (yv41).1; have h2 := (yv41).2; have h3 := (show (f40 : Int32).toInt = nv41 from xv41); omega)
        refine lv_if_eq (tgt := 60) X.1 X.2.1 dX4_readSpot_53 (by decide) (fun c52 => ?_) (fun c52 => ?_)
        · refine lv_iconst (v := 0) X.1 X.2.1 dX4_readSpot_60 (by decide +kernel) ?_
          refine lv_ior X.1 X.2.1 dX4_readSpot_61 ?_
          refine lv_topi (fun f53 ef53 => ?_)
          refine pf_X4_12G X hK hG hS h0 wl_1_235 (iv_of (iv_or 1 ef53 (zb_01 zf46) (iv_c 0 (a := 0) (b := 0) (by decide +kernel)) (by decide +kernel)) (a' := 0) (b' := 1) (by decide +kernel)) dX4_readSpot_62 (fun H locs hG hS => ?_)
          rw [show (f53 : Int32).toInt = (bif q.2.2.2.2.2.2 then 1 else 0) from zb_or0 ef53 zf46, zgq_12] at hG
          have hG : sgG (KG av41 av41 w1 w2 (zG q o) P) D vwCl _ tys ad ks _ := hG
          refine lv_iload_n X.1 X.2.1 dX4_readSpot_65 rfl (lv_at hl 4 rfl) ?_
          refine lv_if_eq (tgt := 93) X.1 X.2.1 dX4_readSpot_66 (by decide) (fun c54 => ?_) (fun c54 => ?_)
          · have i55 : x2.toInt = (0 : Int) := vq_eq c54 rfl (by decide +kernel)
            exact ((iv_no (a := 1) (b := 0) (iv_eqm c54 h2 (iv_c 0 (a := 0) (b := 0) (by decide +kernel)) (by decide +kernel)) (by decide +kernel))).elim
          · have i56 : (x2.toInt = (0 : Int)) = False := vq_ne c54 rfl (by decide +kernel)
            refine lv_aload_n X.1 X.2.1 dX4_readSpot_69 rfl (lv_at hl 2 rfl) ?_
            refine lv_dup X.1 X.2.1 dX4_readSpot_70 rfl ?_
            refine gf_X4_9g X hK hG h0 wl_1_227 dX4_readSpot_71 (fun f57 hf57 => ?_)
            have wf57 : f57 = q.2.1 := zgg_9 (q := q) (o := o) hf57
            refine lv_iload X.1 X.2.1 dX4_readSpot_74 (lv_at hl 0 rfl) ?_
            refine lv_ior X.1 X.2.1 dX4_readSpot_76 ?_
            refine lv_topi (fun f58 ef58 => ?_)
            have wf58 : f58 = (q.2.1 ||| ((1 : Int32) <<< ((Int32.ofInt nv41) &&& 31))) := ef58.trans (by rw [wf57, wf45])
            refine pf_X4_9G X hK hG hS h0 wl_1_227 dX4_readSpot_77 (fun H locs hG hS => ?_)
            rw [zgq_9, wf58] at hG
            have hG : sgG (KG av41 av41 w1 w2 (zG (q.1, (q.2.1 ||| ((1 : Int32) <<< ((Int32.ofInt nv41) &&& 31))), q.2.2.1, q.2.2.2.1, q.2.2.2.2.1, q.2.2.2.2.2.1, q.2.2.2.2.2.2) o) P) D vwCl _ tys ad ks _ := hG
            refine lv_aload_n X.1 X.2.1 dX4_readSpot_80 rfl (lv_at hl 2 rfl) ?_
            refine lv_dup X.1 X.2.1 dX4_readSpot_81 rfl ?_
            refine gf_X4_13g X hK hG h0 wl_1_236 dX4_readSpot_82 (fun f59 hf59 => ?_)
            have xf59 : f59.toInt = q.2.2.2.1 := zgg_13 (q := (q.1, (q.2.1 ||| ((1 : Int32) <<< ((Int32.ofInt nv41) &&& 31))), q.2.2.1, q.2.2.2.1, q.2.2.2.2.1, q.2.2.2.2.2.1, q.2.2.2.2.2.2)) (o := o) hf59
            have yf59 : iv 0 12 f59 := vq_of xf59 hq0.1
            refine lv_iconst (v := 1) X.1 X.2.1 dX4_readSpot_85 (by decide +kernel) ?_
            refine lv_iadd X.1 X.2.1 dX4_readSpot_86 ?_
            refine lv_topi (fun f60 ef60 => ?_)
            have xf60 : f60.toInt = (q.2.2.2.1 + 1) := sg_exadd ef60 yf59 (iv_c 1 (a := 1) (b := 1) (by decide +kernel)) (by decide +kernel) xf59 (by decide +kernel)
            refine pf_X4_13G X hK hG hS h0 wl_1_236 dX4_readSpot_87 (fun H locs hG hS => ?_)
            rw [xf60, zgq_13] at hG
            have hG : sgG (KG av41 av41 w1 w2 (zG (q.1, (q.2.1 ||| ((1 : Int32) <<< ((Int32.ofInt nv41) &&& 31))), q.2.2.1, (q.2.2.2.1 + 1), q.2.2.2.2.1, q.2.2.2.2.2.1, q.2.2.2.2.2.2) o) P) D vwCl _ tys ad ks _ := hG
            refine lv_goto (tgt := 114) X.1 X.2.1 dX4_readSpot_90 (by decide) ?_
            refine lv_iconst (v := 1) X.1 X.2.1 dX4_readSpot_114 (by decide +kernel) ?_
            have spr : vSpC (sgT1 P) (sgL1 P) a = (true, av41, nv41) := vSpC_t i13 pv41
            have hpq : lwPut true nv41 q = (q.1, (q.2.1 ||| ((1 : Int32) <<< ((Int32.ofInt nv41) &&& 31))), q.2.2.1, (q.2.2.2.1 + 1), q.2.2.2.2.1, q.2.2.2.2.2.1, q.2.2.2.2.2.2) := by unfold lwPut; rw [(show (q.2.2.2.2.2.2 || lwHas (q.2.1 ||| q.2.2.1) nv41) = q.2.2.2.2.2.2 from by rw [(lw_and_z (s := q.2.1 ||| q.2.2.1) g51 ((wf50).symm.trans c52)), Bool.or_false])]; rfl
            rw [← hpq] at hG
            exact sg_zret2 X hr (sg_zn (iv_of (iv_c 1 (a := 1) (b := 1) (by decide +kernel)) (a' := 0) (b' := 1) (by decide +kernel))) hlk hS (iv_of (iv_c 1 (a := 1) (b := 1) (by decide +kernel)) (a' := 0) (b' := 1) (by decide +kernel)) (fun t ht hW => (Or.inl ⟨rfl, _, _, spr, vq_pgw p2v41 (by decide), (bv41).2, sg_post hb hK hC hG hS ht hW⟩)) dX4_readSpot_115
        · refine lv_iconst (v := 1) X.1 X.2.1 dX4_readSpot_56 (by decide +kernel) ?_
          refine lv_goto (tgt := 61) X.1 X.2.1 dX4_readSpot_57 (by decide) ?_
          refine lv_ior X.1 X.2.1 dX4_readSpot_61 ?_
          refine lv_topi (fun f61 ef61 => ?_)
          refine pf_X4_12G X hK hG hS h0 wl_1_235 (iv_of (iv_or 1 ef61 (zb_01 zf46) (iv_c 1 (a := 1) (b := 1) (by decide +kernel)) (by decide +kernel)) (a' := 0) (b' := 1) (by decide +kernel)) dX4_readSpot_62 (fun H locs hG hS => ?_)
          rw [show (f61 : Int32).toInt = (bif true then 1 else 0) from zb_or1 ef61 zf46, zgq_12] at hG
          have hG : sgG (KG av41 av41 w1 w2 (zG (q.1, q.2.1, q.2.2.1, q.2.2.2.1, q.2.2.2.2.1, q.2.2.2.2.2.1, true) o) P) D vwCl _ tys ad ks _ := hG
          refine lv_iload_n X.1 X.2.1 dX4_readSpot_65 rfl (lv_at hl 4 rfl) ?_
          refine lv_if_eq (tgt := 93) X.1 X.2.1 dX4_readSpot_66 (by decide) (fun c62 => ?_) (fun c62 => ?_)
          · have i63 : x2.toInt = (0 : Int) := vq_eq c62 rfl (by decide +kernel)
            exact ((iv_no (a := 1) (b := 0) (iv_eqm c62 h2 (iv_c 0 (a := 0) (b := 0) (by decide +kernel)) (by decide +kernel)) (by decide +kernel))).elim
          · have i64 : (x2.toInt = (0 : Int)) = False := vq_ne c62 rfl (by decide +kernel)
            refine lv_aload_n X.1 X.2.1 dX4_readSpot_69 rfl (lv_at hl 2 rfl) ?_
            refine lv_dup X.1 X.2.1 dX4_readSpot_70 rfl ?_
            refine gf_X4_9g X hK hG h0 wl_1_227 dX4_readSpot_71 (fun f65 hf65 => ?_)
            have wf65 : f65 = q.2.1 := zgg_9 (q := (q.1, q.2.1, q.2.2.1, q.2.2.2.1, q.2.2.2.2.1, q.2.2.2.2.2.1, true)) (o := o) hf65
            refine lv_iload X.1 X.2.1 dX4_readSpot_74 (lv_at hl 0 rfl) ?_
            refine lv_ior X.1 X.2.1 dX4_readSpot_76 ?_
            refine lv_topi (fun f66 ef66 => ?_)
            have wf66 : f66 = (q.2.1 ||| ((1 : Int32) <<< ((Int32.ofInt nv41) &&& 31))) := ef66.trans (by rw [wf65, wf45])
            refine pf_X4_9G X hK hG hS h0 wl_1_227 dX4_readSpot_77 (fun H locs hG hS => ?_)
            rw [zgq_9, wf66] at hG
            have hG : sgG (KG av41 av41 w1 w2 (zG (q.1, (q.2.1 ||| ((1 : Int32) <<< ((Int32.ofInt nv41) &&& 31))), q.2.2.1, q.2.2.2.1, q.2.2.2.2.1, q.2.2.2.2.2.1, true) o) P) D vwCl _ tys ad ks _ := hG
            refine lv_aload_n X.1 X.2.1 dX4_readSpot_80 rfl (lv_at hl 2 rfl) ?_
            refine lv_dup X.1 X.2.1 dX4_readSpot_81 rfl ?_
            refine gf_X4_13g X hK hG h0 wl_1_236 dX4_readSpot_82 (fun f67 hf67 => ?_)
            have xf67 : f67.toInt = q.2.2.2.1 := zgg_13 (q := (q.1, (q.2.1 ||| ((1 : Int32) <<< ((Int32.ofInt nv41) &&& 31))), q.2.2.1, q.2.2.2.1, q.2.2.2.2.1, q.2.2.2.2.2.1, true)) (o := o) hf67
            have yf67 : iv 0 12 f67 := vq_of xf67 hq0.1
            refine lv_iconst (v := 1) X.1 X.2.1 dX4_readSpot_85 (by decide +kernel) ?_
            refine lv_iadd X.1 X.2.1 dX4_readSpot_86 ?_
            refine lv_topi (fun f68 ef68 => ?_)
            have xf68 : f68.toInt = (q.2.2.2.1 + 1) := sg_exadd ef68 yf67 (iv_c 1 (a := 1) (b := 1) (by decide +kernel)) (by decide +kernel) xf67 (by decide +kernel)
            refine pf_X4_13G X hK hG hS h0 wl_1_236 dX4_readSpot_87 (fun H locs hG hS => ?_)
            rw [xf68, zgq_13] at hG
            have hG : sgG (KG av41 av41 w1 w2 (zG (q.1, (q.2.1 ||| ((1 : Int32) <<< ((Int32.ofInt nv41) &&& 31))), q.2.2.1, (q.2.2.2.1 + 1), q.2.2.2.2.1, q.2.2.2.2.2.1, true) o) P) D vwCl _ tys ad ks _ := hG
            refine lv_goto (tgt := 114) X.1 X.2.1 dX4_readSpot_90 (by decide) ?_
            refine lv_iconst (v := 1) X.1 X.2.1 dX4_readSpot_114 (by decide +kernel) ?_
            have spr : vSpC (sgT1 P) (sgL1 P) a = (true, av41, nv41) := vSpC_t i13 pv41
            have hpq : lwPut true nv41 q = (q.1, (q.2.1 ||| ((1 : Int32) <<< ((Int32.ofInt nv41) &&& 31))), q.2.2.1, (q.2.2.2.1 + 1), q.2.2.2.2.1, q.2.2.2.2.2.1, true) := by unfold lwPut; rw [(show (q.2.2.2.2.2.2 || lwHas (q.2.1 ||| q.2.2.1) nv41) = true from lw_d2 (lw_and_n (s := q.2.1 ||| q.2.2.1) g51 (fun z => c52 ((wf50).trans z))))]; rfl
            rw [← hpq] at hG
            exact sg_zret2 X hr (sg_zn (iv_of (iv_c 1 (a := 1) (b := 1) (by decide +kernel)) (a' := 0) (b' := 1) (by decide +kernel))) hlk hS (iv_of (iv_c 1 (a := 1) (b := 1) (by decide +kernel)) (a' := 0) (b' := 1) (by decide +kernel)) (fun t ht hW => (Or.inl ⟨rfl, _, _, spr, vq_pgw p2v41 (by decide), (bv41).2, sg_post hb hK hC hG hS ht hW⟩)) dX4_readSpot_115
      · have i44 : nv41 = ((-1) : Int) := vq_eq c42 xv41 (by decide +kernel)
        exact ((iv_no (a := 0) (b := (-1)) (iv_eqm c42 yv41 (iv_c (-1) (a := (-1)) (b := (-1)) (by decide +kernel)) (by decide +kernel)) (by decide +kernel))).elim
    · have hG := hBf40.2.2.2
      rw [htf40] at hG
      refine lv_istore_n (lv' := [(3, .int (-1)), (0, .ref a0), (1, .ref a1), (2, .int x2)]) X.1 X.2.1 dX4_readSpot_23 rfl hl (by decide) rfl (fun ls hl => ?_)
      refine lv_iload_n X.1 X.2.1 dX4_readSpot_24 rfl (lv_at hl 0 rfl) ?_
      refine lv_iconst (v := (-1)) X.1 X.2.1 dX4_readSpot_25 (by decide +kernel) ?_
      refine lv_icmp_ne (tgt := 31) X.1 X.2.1 dX4_readSpot_26 (by decide) (fun c69 => ?_) (fun c69 => ?_)
      · exact ((c69 (iv_one (iv_c (-1) (a := (-1)) (b := (-1)) (by decide +kernel)) (iv_c (-1) (a := (-1)) (b := (-1)) (by decide +kernel)) (by decide +kernel)))).elim
      · refine lv_iconst (v := 0) X.1 X.2.1 dX4_readSpot_29 (by decide +kernel) ?_
        have spr : vSpC (sgT1 P) (sgL1 P) a = (false, wv41, 0) := vSpC_b i13 pv41
        have hG := kg_weak (b1 := 0) (b2 := 240) (c1 := wv41) (c2 := wv41) hG (Int.le_refl _) (Int.le_refl _) (Int.le_refl _) (Int.le_refl _)
        exact sg_zret2 X hr (sg_zn (iv_of (iv_c 0 (a := 0) (b := 0) (by decide +kernel)) (a' := 0) (b' := 1) (by decide +kernel))) hlk hS (iv_of (iv_c 0 (a := 0) (b := 0) (by decide +kernel)) (a' := 0) (b' := 1) (by decide +kernel)) (fun t ht hW => (Or.inr ⟨rfl, _, _, _, spr, sg_post hb hK hC hG hS ht hW⟩)) dX4_readSpot_30

theorem ca_X4_readSpot_g1  {a w1 w2 : Int} {q : sgLwn} {o : sgZg}  (X : CallFix p m c cc nL s args sg_tbl own) (hK : va_K D vwCl tys s) (hG : sgG (KG a a w1 w2 (zG q o) P) D vwCl (fun q : Nat => base ≤ q) tys ad ks H) (hC : sgC base s) (hS : va_S (fun q : Nat => base ≤ q) s.heap H locs) (hb : base ≤ s.heap.size) (a0 : Nat) (h0 : isK ad ks 2 a0) (a1 : Nat) (h1 : isK ad ks 10 a1) (x2 : Int32) (h2 : iv 1 1 x2) (hl0 : 0 ≤ sgL1 P ∧ sgL1 P ≤ 240) (hav : 0 ≤ a ∧ a ≤ sgL1 P) (hby : ∀ j : Nat, (↑j : Int) < sgL1 P → 1 ≤ sgT1 P j ∧ sgT1 P j ≤ 255) (hq0 : (0 ≤ q.2.2.2.1 ∧ q.2.2.2.1 ≤ 12) ∧ (0 ≤ q.2.2.2.2.1 ∧ q.2.2.2.2.1 ≤ 8)) (hl : Cond.methodLink own index yX4_readSpot ∈ sg_tbl) (hsize : ls.size = nL) (hst : st0 = [.ref a1, .int x2].reverse ++ .ref a0 :: rest) (hW : (rest.map fun v => v.category).sum ≤ 8) (hR : 3 ≤ R.frames ∧ 58 ≤ R.locals) (hf : cells ≤ R.cells ∧ slots ≤ R.slots) (hdg : decode cc pc = .ok (.invokevirtual index, 3)) (kk : ∀ (r : Int32) (t : State) (H1 : Heap) (locs1 : List Loc), t.heap = H1 → (fun r : Int32 => iv 0 1 r) r → ((r = 1 ∧ ∃ (a1 v1 : Int), vSpC (sgT1 P) (sgL1 P) a = (true, a1, v1) ∧ a + 0 ≤ a1 ∧ a1 ≤ sgL1 P ∧ sgB (KG a1 a1 w1 w2 (zG (lwPut true v1 q) o) P) D vwCl base tys ad ks t) ∨ (r = 0 ∧ ∃ (w v1 : Int) (z1 : sgZg), vSpC (sgT1 P) (sgL1 P) a = (false, w, v1) ∧ sgB (KG 0 240 w w z1 P) D vwCl base tys ad ks t)) → va_S (fun q : Nat => base ≤ q) s.heap H1 locs1 → W p l e R s m args below meth c H1 locs1 cells slots Q (F0 m (pc + 3) ls (.int r :: rest))) : W p l e R s m args below meth c H locs cells slots Q (F0 m pc ls st0) :=
  sg_callV2i X hK hG hC hS hb (m_X4_readSpot_g1 l a0 h0 a1 h1 x2 h2 hl0 hav hby hq0) h0 (k := 2) (ci := 4) rfl (C := RX4) (T := TX4) (N := 15) rfl wl_3_166 wl_1_7 wl_3_165 wl_0_4 (n := 2) (by decide +kernel) rfl rfl rfl hl hsize hst hW hR hf hdg kk

set_option maxHeartbeats 8000000 in
set_option maxRecDepth 100000 in
theorem m_X4_readSpot_g0 (l : Launch) {D : va_G} {base : Nat} {tys : List (ClassId × FieldType)} {ad ks : List Nat} {P : sgPm}{a w1 w2 : Int} {q : sgLwn} {o : sgZg}  (a0 : Nat) (h0 : isK ad ks 2 a0) (a1 : Nat) (h1 : isK ad ks 10 a1) (x2 : Int32) (h2 : iv 0 0 x2) (hl0 : 0 ≤ sgL1 P ∧ sgL1 P ≤ 240) (hav : 0 ≤ a ∧ a ≤ sgL1 P) (hby : ∀ j : Nat, (↑j : Int) < sgL1 P → 1 ≤ sgT1 P j ∧ sgT1 P j ≤ 255) (hq0 : (0 ≤ q.2.2.2.1 ∧ q.2.2.2.1 ≤ 12) ∧ (0 ≤ q.2.2.2.2.1 ∧ q.2.2.2.2.1 ≤ 8)) : Met l yX4_readSpot (Cond.code yX4_readSpot cX4_readSpot 5 (some .boolean) :: sg_tbl) ({ frames := 2, cells := 0, slots := 0, locals := 34 }) (va_Pc [.ref a0, .ref a1, .int x2] (sgB (KG a a w1 w2 (zG q o) P) D vwCl base tys ad ks)) (va_Qi (fun r (u : Int32) => u = r ∧ (fun r : Int32 => iv 0 1 r) r) (fun u t => (u = 1 ∧ ∃ (a1 v1 : Int), vSpC (sgT1 P) (sgL1 P) a = (true, a1, v1) ∧ a + 0 ≤ a1 ∧ a1 ≤ sgL1 P ∧ sgB (KG a1 a1 w1 w2 (zG (lwPut false v1 q) o) P) D vwCl base tys ad ks t) ∨ (u = 0 ∧ ∃ (w v1 : Int) (z1 : sgZg), vSpC (sgT1 P) (sgL1 P) a = (false, w, v1) ∧ sgB (KG 0 240 w w z1 P) D vwCl base tys ad ks t)) (fun q : Nat => base ≤ q)) 0 0 (fun q : Nat => base ≤ q) := by
  refine sg_ofW (by decide +kernel) (Nat.le_of_ble_eq_true rfl) (fun p e s m below meth c X hr hlk hb hK hC hG ls hl => ?_)
  have hS : va_S (fun q : Nat => base ≤ q) s.heap s.heap [] := va_S.rf
  have hl : lv_has ls 5 [(0, .ref a0), (1, .ref a1), (2, .int x2)] := hl
  refine lv_iconst (v := 0) X.1 X.2.1 dX4_readSpot_0 (by decide +kernel) ?_
  refine lv_istore_n (lv' := [(3, .int 0), (0, .ref a0), (1, .ref a1), (2, .int x2)]) X.1 X.2.1 dX4_readSpot_1 rfl hl (by decide) rfl (fun ls hl => ?_)
  refine lv_aload_n X.1 X.2.1 dX4_readSpot_2 rfl (lv_at hl 2 rfl) ?_
  refine ca_X10_sign_g X hK hG hC (fun _ h => h) hS hb a1 h1 hl0 hav wl_3_47 hl.1 (rest := []) rfl (Nat.le_of_ble_eq_true rfl) ⟨Nat.le_of_ble_eq_true rfl, Nat.le_of_ble_eq_true rfl⟩ ⟨Nat.le_of_ble_eq_true rfl, Nat.le_of_ble_eq_true rfl⟩ dX4_readSpot_3 (fun f10 locs hf10 hS => ?_)
  have yf10 : iv 0 255 f10 := vq_255 hf10 hby
  refine lv_bipush (v := 99) X.1 X.2.1 dX4_readSpot_6 (by decide +kernel) ?_
  refine lv_icmp_ne (tgt := 31) X.1 X.2.1 dX4_readSpot_8 (by decide) (fun c11 => ?_) (fun c11 => ?_)
  · have i12 : (vC (sgT1 P) (sgL1 P) a = (99 : Int)) = False := vq_ne c11 hf10 (by decide +kernel)
    refine lv_iconst (v := 1) X.1 X.2.1 dX4_readSpot_31 (by decide +kernel) ?_
    refine lv_iload_n X.1 X.2.1 dX4_readSpot_32 rfl (lv_at hl 0 rfl) ?_
    refine lv_ishl X.1 X.2.1 dX4_readSpot_33 ?_
    refine lv_topi (fun f14 ef14 => ?_)
    have wf14 : f14 = ((1 : Int32) <<< ((Int32.ofInt 0) &&& 31)) := ef14.trans (by rw [(show (0 : Int32) = Int32.ofInt 0 from by decide +kernel)])
    refine lv_istore (lv' := [(4, .int f14), (3, .int 0), (0, .ref a0), (1, .ref a1), (2, .int x2)]) X.1 X.2.1 dX4_readSpot_34 hl (by decide) rfl (fun ls hl => ?_)
    refine lv_aload_n X.1 X.2.1 dX4_readSpot_36 rfl (lv_at hl 2 rfl) ?_
    refine lv_dup X.1 X.2.1 dX4_readSpot_37 rfl ?_
    refine gf_X4_12g X hK hG h0 wl_1_235 dX4_readSpot_38 (fun f15 hf15 => ?_)
    have zf15 : f15.toInt = (bif q.2.2.2.2.2.2 then 1 else 0) := zgg_12 (q := q) (o := o) hf15
    refine lv_aload_n X.1 X.2.1 dX4_readSpot_41 rfl (lv_at hl 2 rfl) ?_
    refine gf_X4_9g X hK hG h0 wl_1_227 dX4_readSpot_42 (fun f16 hf16 => ?_)
    have wf16 : f16 = q.2.1 := zgg_9 (q := q) (o := o) hf16
    refine lv_aload_n X.1 X.2.1 dX4_readSpot_45 rfl (lv_at hl 2 rfl) ?_
    refine gf_X4_10g X hK hG h0 wl_1_230 dX4_readSpot_46 (fun f17 hf17 => ?_)
    have wf17 : f17 = q.2.2.1 := zgg_10 (q := q) (o := o) hf17
    refine lv_ior X.1 X.2.1 dX4_readSpot_49 ?_
    refine lv_topi (fun f18 ef18 => ?_)
    have wf18 : f18 = (q.2.1 ||| q.2.2.1) := ef18.trans (by rw [wf16, wf17])
    refine lv_iload X.1 X.2.1 dX4_readSpot_50 (lv_at hl 0 rfl) ?_
    refine lv_iand X.1 X.2.1 dX4_readSpot_52 ?_
    refine lv_topi (fun f19 ef19 => ?_)
    have wf19 : f19 = ((q.2.1 ||| q.2.2.1) &&& ((1 : Int32) <<< ((Int32.ofInt 0) &&& 31))) := ef19.trans (by rw [wf18, wf14])
    have g20 := (show (0 : Int) ≤ 0 ∧ (0 : Int) ≤ 31 from by have h1 := ((iv_c 0 (a := 0) (b := 0) (by decide +kernel))).1; have h2 := ((iv_c 0 (a := 0) (b := 0) (by decide +kernel))).2; have h3 := (show (0 : Int32).toInt = 0 from (by decide +kernel)); omega)
    refine lv_if_eq (tgt := 60) X.1 X.2.1 dX4_readSpot_53 (by decide) (fun c21 => ?_) (fun c21 => ?_)
    · refine lv_iconst (v := 0) X.1 X.2.1 dX4_readSpot_60 (by decide +kernel) ?_
      refine lv_ior X.1 X.2.1 dX4_readSpot_61 ?_
      refine lv_topi (fun f22 ef22 => ?_)
      refine pf_X4_12G X hK hG hS h0 wl_1_235 (iv_of (iv_or 1 ef22 (zb_01 zf15) (iv_c 0 (a := 0) (b := 0) (by decide +kernel)) (by decide +kernel)) (a' := 0) (b' := 1) (by decide +kernel)) dX4_readSpot_62 (fun H locs hG hS => ?_)
      rw [show (f22 : Int32).toInt = (bif q.2.2.2.2.2.2 then 1 else 0) from zb_or0 ef22 zf15, zgq_12] at hG
      have hG : sgG (KG a a w1 w2 (zG q o) P) D vwCl _ tys ad ks _ := hG
      refine lv_iload_n X.1 X.2.1 dX4_readSpot_65 rfl (lv_at hl 4 rfl) ?_
      refine lv_if_eq (tgt := 93) X.1 X.2.1 dX4_readSpot_66 (by decide) (fun c23 => ?_) (fun c23 => ?_)
      · have i24 : x2.toInt = (0 : Int) := vq_eq c23 rfl (by decide +kernel)
        refine lv_aload_n X.1 X.2.1 dX4_readSpot_93 rfl (lv_at hl 2 rfl) ?_
        refine lv_dup X.1 X.2.1 dX4_readSpot_94 rfl ?_
        refine gf_X4_10g X hK hG h0 wl_1_230 dX4_readSpot_95 (fun f26 hf26 => ?_)
        have wf26 : f26 = q.2.2.1 := zgg_10 (q := q) (o := o) hf26
        refine lv_iload X.1 X.2.1 dX4_readSpot_98 (lv_at hl 0 rfl) ?_
        refine lv_ior X.1 X.2.1 dX4_readSpot_100 ?_
        refine lv_topi (fun f27 ef27 => ?_)
        have wf27 : f27 = (q.2.2.1 ||| ((1 : Int32) <<< ((Int32.ofInt 0) &&& 31))) := ef27.trans (by rw [wf26, wf14])
        refine pf_X4_10G X hK hG hS h0 wl_1_230 dX4_readSpot_101 (fun H locs hG hS => ?_)
        rw [zgq_10, wf27] at hG
        have hG : sgG (KG a a w1 w2 (zG (q.1, q.2.1, (q.2.2.1 ||| ((1 : Int32) <<< ((Int32.ofInt 0) &&& 31))), q.2.2.2.1, q.2.2.2.2.1, q.2.2.2.2.2.1, q.2.2.2.2.2.2) o) P) D vwCl _ tys ad ks _ := hG
        refine lv_aload_n X.1 X.2.1 dX4_readSpot_104 rfl (lv_at hl 2 rfl) ?_
        refine lv_dup X.1 X.2.1 dX4_readSpot_105 rfl ?_
        refine gf_X4_14g X hK hG h0 wl_1_237 dX4_readSpot_106 (fun f28 hf28 => ?_)
        have xf28 : f28.toInt = q.2.2.2.2.1 := zgg_14 (q := (q.1, q.2.1, (q.2.2.1 ||| ((1 : Int32) <<< ((Int32.ofInt 0) &&& 31))), q.2.2.2.1, q.2.2.2.2.1, q.2.2.2.2.2.1, q.2.2.2.2.2.2)) (o := o) hf28
        have yf28 : iv 0 8 f28 := vq_of xf28 hq0.2
        refine lv_iconst (v := 1) X.1 X.2.1 dX4_readSpot_109 (by decide +kernel) ?_
        refine lv_iadd X.1 X.2.1 dX4_readSpot_110 ?_
        refine lv_topi (fun f29 ef29 => ?_)
        have xf29 : f29.toInt = (q.2.2.2.2.1 + 1) := sg_exadd ef29 yf28 (iv_c 1 (a := 1) (b := 1) (by decide +kernel)) (by decide +kernel) xf28 (by decide +kernel)
        refine pf_X4_14G X hK hG hS h0 wl_1_237 dX4_readSpot_111 (fun H locs hG hS => ?_)
        rw [xf29, zgq_14] at hG
        have hG : sgG (KG a a w1 w2 (zG (q.1, q.2.1, (q.2.2.1 ||| ((1 : Int32) <<< ((Int32.ofInt 0) &&& 31))), q.2.2.2.1, (q.2.2.2.2.1 + 1), q.2.2.2.2.2.1, q.2.2.2.2.2.2) o) P) D vwCl _ tys ad ks _ := hG
        refine lv_iconst (v := 1) X.1 X.2.1 dX4_readSpot_114 (by decide +kernel) ?_
        have spr : vSpC (sgT1 P) (sgL1 P) a = (true, a, 0) := vSpC_0 i12
        have hpq : lwPut false 0 q = (q.1, q.2.1, (q.2.2.1 ||| ((1 : Int32) <<< ((Int32.ofInt 0) &&& 31))), q.2.2.2.1, (q.2.2.2.2.1 + 1), q.2.2.2.2.2.1, q.2.2.2.2.2.2) := by unfold lwPut; rw [(show (q.2.2.2.2.2.2 || lwHas (q.2.1 ||| q.2.2.1) 0) = q.2.2.2.2.2.2 from by rw [(lw_and_z (s := q.2.1 ||| q.2.2.1) g20 ((wf19).symm.trans c21)), Bool.or_false])]; rfl
        rw [← hpq] at hG
        exact sg_zret2 X hr (sg_zn (iv_of (iv_c 1 (a := 1) (b := 1) (by decide +kernel)) (a' := 0) (b' := 1) (by decide +kernel))) hlk hS (iv_of (iv_c 1 (a := 1) (b := 1) (by decide +kernel)) (a' := 0) (b' := 1) (by decide +kernel)) (fun t ht hW => (Or.inl ⟨rfl, _, _, spr, vq_pgw (vq_pg0 a) (by decide), (hav).2, sg_post hb hK hC hG hS ht hW⟩)) dX4_readSpot_115
      · have i25 : (x2.toInt = (0 : Int)) = False := vq_ne c23 rfl (by decide +kernel)
        exact ((c23 (iv_one h2 (iv_c 0 (a := 0) (b := 0) (by decide +kernel)) (by decide +kernel)))).elim
    · refine lv_iconst (v := 1) X.1 X.2.1 dX4_readSpot_56 (by decide +kernel) ?_
      refine lv_goto (tgt := 61) X.1 X.2.1 dX4_readSpot_57 (by decide) ?_
      refine lv_ior X.1 X.2.1 dX4_readSpot_61 ?_
      refine lv_topi (fun f30 ef30 => ?_)
      refine pf_X4_12G X hK hG hS h0 wl_1_235 (iv_of (iv_or 1 ef30 (zb_01 zf15) (iv_c 1 (a := 1) (b := 1) (by decide +kernel)) (by decide +kernel)) (a' := 0) (b' := 1) (by decide +kernel)) dX4_readSpot_62 (fun H locs hG hS => ?_)
      rw [show (f30 : Int32).toInt = (bif true then 1 else 0) from zb_or1 ef30 zf15, zgq_12] at hG
      have hG : sgG (KG a a w1 w2 (zG (q.1, q.2.1, q.2.2.1, q.2.2.2.1, q.2.2.2.2.1, q.2.2.2.2.2.1, true) o) P) D vwCl _ tys ad ks _ := hG
      refine lv_iload_n X.1 X.2.1 dX4_readSpot_65 rfl (lv_at hl 4 rfl) ?_
      refine lv_if_eq (tgt := 93) X.1 X.2.1 dX4_readSpot_66 (by decide) (fun c31 => ?_) (fun c31 => ?_)
      · have i32 : x2.toInt = (0 : Int) := vq_eq c31 rfl (by decide +kernel)
        refine lv_aload_n X.1 X.2.1 dX4_readSpot_93 rfl (lv_at hl 2 rfl) ?_
        refine lv_dup X.1 X.2.1 dX4_readSpot_94 rfl ?_
        refine gf_X4_10g X hK hG h0 wl_1_230 dX4_readSpot_95 (fun f34 hf34 => ?_)
        have wf34 : f34 = q.2.2.1 := zgg_10 (q := (q.1, q.2.1, q.2.2.1, q.2.2.2.1, q.2.2.2.2.1, q.2.2.2.2.2.1, true)) (o := o) hf34
        refine lv_iload X.1 X.2.1 dX4_readSpot_98 (lv_at hl 0 rfl) ?_
        refine lv_ior X.1 X.2.1 dX4_readSpot_100 ?_
        refine lv_topi (fun f35 ef35 => ?_)
        have wf35 : f35 = (q.2.2.1 ||| ((1 : Int32) <<< ((Int32.ofInt 0) &&& 31))) := ef35.trans (by rw [wf34, wf14])
        refine pf_X4_10G X hK hG hS h0 wl_1_230 dX4_readSpot_101 (fun H locs hG hS => ?_)
        rw [zgq_10, wf35] at hG
        have hG : sgG (KG a a w1 w2 (zG (q.1, q.2.1, (q.2.2.1 ||| ((1 : Int32) <<< ((Int32.ofInt 0) &&& 31))), q.2.2.2.1, q.2.2.2.2.1, q.2.2.2.2.2.1, true) o) P) D vwCl _ tys ad ks _ := hG
        refine lv_aload_n X.1 X.2.1 dX4_readSpot_104 rfl (lv_at hl 2 rfl) ?_
        refine lv_dup X.1 X.2.1 dX4_readSpot_105 rfl ?_
        refine gf_X4_14g X hK hG h0 wl_1_237 dX4_readSpot_106 (fun f36 hf36 => ?_)
        have xf36 : f36.toInt = q.2.2.2.2.1 := zgg_14 (q := (q.1, q.2.1, (q.2.2.1 ||| ((1 : Int32) <<< ((Int32.ofInt 0) &&& 31))), q.2.2.2.1, q.2.2.2.2.1, q.2.2.2.2.2.1, true)) (o := o) hf36
        have yf36 : iv 0 8 f36 := vq_of xf36 hq0.2
        refine lv_iconst (v := 1) X.1 X.2.1 dX4_readSpot_109 (by decide +kernel) ?_
        refine lv_iadd X.1 X.2.1 dX4_readSpot_110 ?_
        refine lv_topi (fun f37 ef37 => ?_)
        have xf37 : f37.toInt = (q.2.2.2.2.1 + 1) := sg_exadd ef37 yf36 (iv_c 1 (a := 1) (b := 1) (by decide +kernel)) (by decide +kernel) xf36 (by decide +kernel)
        refine pf_X4_14G X hK hG hS h0 wl_1_237 dX4_readSpot_111 (fun H locs hG hS => ?_)
        rw [xf37, zgq_14] at hG
        have hG : sgG (KG a a w1 w2 (zG (q.1, q.2.1, (q.2.2.1 ||| ((1 : Int32) <<< ((Int32.ofInt 0) &&& 31))), q.2.2.2.1, (q.2.2.2.2.1 + 1), q.2.2.2.2.2.1, true) o) P) D vwCl _ tys ad ks _ := hG
        refine lv_iconst (v := 1) X.1 X.2.1 dX4_readSpot_114 (by decide +kernel) ?_
        have spr : vSpC (sgT1 P) (sgL1 P) a = (true, a, 0) := vSpC_0 i12
        have hpq : lwPut false 0 q = (q.1, q.2.1, (q.2.2.1 ||| ((1 : Int32) <<< ((Int32.ofInt 0) &&& 31))), q.2.2.2.1, (q.2.2.2.2.1 + 1), q.2.2.2.2.2.1, true) := by unfold lwPut; rw [(show (q.2.2.2.2.2.2 || lwHas (q.2.1 ||| q.2.2.1) 0) = true from lw_d2 (lw_and_n (s := q.2.1 ||| q.2.2.1) g20 (fun z => c21 ((wf19).trans z))))]; rfl
        rw [← hpq] at hG
        exact sg_zret2 X hr (sg_zn (iv_of (iv_c 1 (a := 1) (b := 1) (by decide +kernel)) (a' := 0) (b' := 1) (by decide +kernel))) hlk hS (iv_of (iv_c 1 (a := 1) (b := 1) (by decide +kernel)) (a' := 0) (b' := 1) (by decide +kernel)) (fun t ht hW => (Or.inl ⟨rfl, _, _, spr, vq_pgw (vq_pg0 a) (by decide), (hav).2, sg_post hb hK hC hG hS ht hW⟩)) dX4_readSpot_115
      · have i33 : (x2.toInt = (0 : Int)) = False := vq_ne c31 rfl (by decide +kernel)
        exact ((c31 (iv_one h2 (iv_c 0 (a := 0) (b := 0) (by decide +kernel)) (by decide +kernel)))).elim
  · have i13 : vC (sgT1 P) (sgL1 P) a = (99 : Int) := vq_eq c11 hf10 (by decide +kernel)
    refine lv_aload_n X.1 X.2.1 dX4_readSpot_11 rfl (lv_at hl 2 rfl) ?_
    refine ca_X10_step_g X hK hG hC hS hb a1 h1 hl0 (vC_lt (b := sgT1 P) (by rw [i13]; decide)) wl_3_59 hl.1 (rest := []) rfl (Nat.le_of_ble_eq_true rfl) ⟨Nat.le_of_ble_eq_true rfl, Nat.le_of_ble_eq_true rfl⟩ ⟨Nat.le_of_ble_eq_true rfl, Nat.le_of_ble_eq_true rfl⟩ dX4_readSpot_12 (fun tg38 H locs htg38 hWg38 hS => ?_)
    have b39 := vC_lt (b := sgT1 P) (n := sgL1 P) (a := a) (by rw [i13]; decide)
    have bb39 := vq_bdX (b := sgT1 P) b39
    have qb39 : a + 1 ≤ vX (sgT1 P) (sgL1 P) (a + 1) := (vX_ge (sgT1 P) (sgL1 P) (a + 1)).1
    have pb39 : a + 1 ≤ vX (sgT1 P) (sgL1 P) (a + 1) := vq_pg (vq_pg0 a) (m := 1) (vX_ge (sgT1 P) (sgL1 P) (a + 1)).1 (by decide)
    have hG := hWg38.2.2.2
    rw [htg38] at hG
    refine lv_aload_n X.1 X.2.1 dX4_readSpot_15 rfl (lv_at hl 2 rfl) ?_
    refine lv_iconst (v := 2) X.1 X.2.1 dX4_readSpot_16 (by decide +kernel) ?_
    refine lv_iconst (v := 0) X.1 X.2.1 dX4_readSpot_17 (by decide +kernel) ?_
    refine lv_bipush (v := 29) X.1 X.2.1 dX4_readSpot_18 (by decide +kernel) ?_
    refine ca_X10_number_g2 X hK hG hC hS hb a1 h1 2 (iv_c 2 (a := 2) (b := 2) (by decide +kernel)) 0 29 hl0 bb39 (show (0 : Int32).toInt = (0 : Int) ∧ (29 : Int32).toInt = (29 : Int) from ⟨(by decide +kernel), (by decide +kernel)⟩) wl_3_159 hl.1 (rest := []) rfl (Nat.le_of_ble_eq_true rfl) ⟨Nat.le_of_ble_eq_true rfl, Nat.le_of_ble_eq_true rfl⟩ ⟨Nat.le_of_ble_eq_true rfl, Nat.le_of_ble_eq_true rfl⟩ dX4_readSpot_20 (fun f40 tf40 H locs htf40 hf40 hWf40 hS => ?_)
    rcases hWf40 with ⟨av41, nv41, pv41, xv41, g1v41, g2v41, g3v41, g4v41, gav41, gbv41, hBf40⟩ | ⟨rfl, wv41, pv41, hBf40⟩
    · have hG := hBf40.2.2.2
      rw [htf40] at hG
      have bv41 := vq_bd2 (k := 1) bb39 (by decide) gav41 gbv41
      have p2v41 : a + 2 ≤ av41 := vq_pg pb39 gav41 (by decide)
      have yv41 : iv 0 29 f40 := ⟨by omega, by omega⟩
      refine lv_istore_n (lv' := [(3, .int f40), (0, .ref a0), (1, .ref a1), (2, .int x2)]) X.1 X.2.1 dX4_readSpot_23 rfl hl (by decide) rfl (fun ls hl => ?_)
      refine lv_iload_n X.1 X.2.1 dX4_readSpot_24 rfl (lv_at hl 0 rfl) ?_
      refine lv_iconst (v := (-1)) X.1 X.2.1 dX4_readSpot_25 (by decide +kernel) ?_
      refine lv_icmp_ne (tgt := 31) X.1 X.2.1 dX4_readSpot_26 (by decide) (fun c42 => ?_) (fun c42 => ?_)
      · have i43 : (nv41 = ((-1) : Int)) = False := vq_ne c42 xv41 (by decide +kernel)
        refine lv_iconst (v := 1) X.1 X.2.1 dX4_readSpot_31 (by decide +kernel) ?_
        refine lv_iload_n X.1 X.2.1 dX4_readSpot_32 rfl (lv_at hl 0 rfl) ?_
        refine lv_ishl X.1 X.2.1 dX4_readSpot_33 ?_
        refine lv_topi (fun f45 ef45 => ?_)
        have wf45 : f45 = ((1 : Int32) <<< ((Int32.ofInt nv41) &&& 31)) := ef45.trans (by rw [(vq_oi (x := f40) xv41)])
        refine lv_istore (lv' := [(4, .int f45), (3, .int f40), (0, .ref a0), (1, .ref a1), (2, .int x2)]) X.1 X.2.1 dX4_readSpot_34 hl (by decide) rfl (fun ls hl => ?_)
        refine lv_aload_n X.1 X.2.1 dX4_readSpot_36 rfl (lv_at hl 2 rfl) ?_
        refine lv_dup X.1 X.2.1 dX4_readSpot_37 rfl ?_
        refine gf_X4_12g X hK hG h0 wl_1_235 dX4_readSpot_38 (fun f46 hf46 => ?_)
        have zf46 : f46.toInt = (bif q.2.2.2.2.2.2 then 1 else 0) := zgg_12 (q := q) (o := o) hf46
        refine lv_aload_n X.1 X.2.1 dX4_readSpot_41 rfl (lv_at hl 2 rfl) ?_
        refine gf_X4_9g X hK hG h0 wl_1_227 dX4_readSpot_42 (fun f47 hf47 => ?_)
        have wf47 : f47 = q.2.1 := zgg_9 (q := q) (o := o) hf47
        refine lv_aload_n X.1 X.2.1 dX4_readSpot_45 rfl (lv_at hl 2 rfl) ?_
        refine gf_X4_10g X hK hG h0 wl_1_230 dX4_readSpot_46 (fun f48 hf48 => ?_)
        have wf48 : f48 = q.2.2.1 := zgg_10 (q := q) (o := o) hf48
        refine lv_ior X.1 X.2.1 dX4_readSpot_49 ?_
        refine lv_topi (fun f49 ef49 => ?_)
        have wf49 : f49 = (q.2.1 ||| q.2.2.1) := ef49.trans (by rw [wf47, wf48])
        refine lv_iload X.1 X.2.1 dX4_readSpot_50 (lv_at hl 0 rfl) ?_
        refine lv_iand X.1 X.2.1 dX4_readSpot_52 ?_
        refine lv_topi (fun f50 ef50 => ?_)
        have wf50 : f50 = ((q.2.1 ||| q.2.2.1) &&& ((1 : Int32) <<< ((Int32.ofInt nv41) &&& 31))) := ef50.trans (by rw [wf49, wf45])
        have g51 := (show (0 : Int) ≤ nv41 ∧ (nv41 : Int) ≤ 31 from by have h1 := (yv41).1; have h2 := (yv41).2; have h3 := (show (f40 : Int32).toInt = nv41 from xv41); omega)
        refine lv_if_eq (tgt := 60) X.1 X.2.1 dX4_readSpot_53 (by decide) (fun c52 => ?_) (fun c52 => ?_)
        · refine lv_iconst (v := 0) X.1 X.2.1 dX4_readSpot_60 (by decide +kernel) ?_
          refine lv_ior X.1 X.2.1 dX4_readSpot_61 ?_
          refine lv_topi (fun f53 ef53 => ?_)
          refine pf_X4_12G X hK hG hS h0 wl_1_235 (iv_of (iv_or 1 ef53 (zb_01 zf46) (iv_c 0 (a := 0) (b := 0) (by decide +kernel)) (by decide +kernel)) (a' := 0) (b' := 1) (by decide +kernel)) dX4_readSpot_62 (fun H locs hG hS => ?_)
          rw [show (f53 : Int32).toInt = (bif q.2.2.2.2.2.2 then 1 else 0) from zb_or0 ef53 zf46, zgq_12] at hG
          have hG : sgG (KG av41 av41 w1 w2 (zG q o) P) D vwCl _ tys ad ks _ := hG
          refine lv_iload_n X.1 X.2.1 dX4_readSpot_65 rfl (lv_at hl 4 rfl) ?_
          refine lv_if_eq (tgt := 93) X.1 X.2.1 dX4_readSpot_66 (by decide) (fun c54 => ?_) (fun c54 => ?_)
          · have i55 : x2.toInt = (0 : Int) := vq_eq c54 rfl (by decide +kernel)
            refine lv_aload_n X.1 X.2.1 dX4_readSpot_93 rfl (lv_at hl 2 rfl) ?_
            refine lv_dup X.1 X.2.1 dX4_readSpot_94 rfl ?_
            refine gf_X4_10g X hK hG h0 wl_1_230 dX4_readSpot_95 (fun f57 hf57 => ?_)
            have wf57 : f57 = q.2.2.1 := zgg_10 (q := q) (o := o) hf57
            refine lv_iload X.1 X.2.1 dX4_readSpot_98 (lv_at hl 0 rfl) ?_
            refine lv_ior X.1 X.2.1 dX4_readSpot_100 ?_
            refine lv_topi (fun f58 ef58 => ?_)
            have wf58 : f58 = (q.2.2.1 ||| ((1 : Int32) <<< ((Int32.ofInt nv41) &&& 31))) := ef58.trans (by rw [wf57, wf45])
            refine pf_X4_10G X hK hG hS h0 wl_1_230 dX4_readSpot_101 (fun H locs hG hS => ?_)
            rw [zgq_10, wf58] at hG
            have hG : sgG (KG av41 av41 w1 w2 (zG (q.1, q.2.1, (q.2.2.1 ||| ((1 : Int32) <<< ((Int32.ofInt nv41) &&& 31))), q.2.2.2.1, q.2.2.2.2.1, q.2.2.2.2.2.1, q.2.2.2.2.2.2) o) P) D vwCl _ tys ad ks _ := hG
            refine lv_aload_n X.1 X.2.1 dX4_readSpot_104 rfl (lv_at hl 2 rfl) ?_
            refine lv_dup X.1 X.2.1 dX4_readSpot_105 rfl ?_
            refine gf_X4_14g X hK hG h0 wl_1_237 dX4_readSpot_106 (fun f59 hf59 => ?_)
            have xf59 : f59.toInt = q.2.2.2.2.1 := zgg_14 (q := (q.1, q.2.1, (q.2.2.1 ||| ((1 : Int32) <<< ((Int32.ofInt nv41) &&& 31))), q.2.2.2.1, q.2.2.2.2.1, q.2.2.2.2.2.1, q.2.2.2.2.2.2)) (o := o) hf59
            have yf59 : iv 0 8 f59 := vq_of xf59 hq0.2
            refine lv_iconst (v := 1) X.1 X.2.1 dX4_readSpot_109 (by decide +kernel) ?_
            refine lv_iadd X.1 X.2.1 dX4_readSpot_110 ?_
            refine lv_topi (fun f60 ef60 => ?_)
            have xf60 : f60.toInt = (q.2.2.2.2.1 + 1) := sg_exadd ef60 yf59 (iv_c 1 (a := 1) (b := 1) (by decide +kernel)) (by decide +kernel) xf59 (by decide +kernel)
            refine pf_X4_14G X hK hG hS h0 wl_1_237 dX4_readSpot_111 (fun H locs hG hS => ?_)
            rw [xf60, zgq_14] at hG
            have hG : sgG (KG av41 av41 w1 w2 (zG (q.1, q.2.1, (q.2.2.1 ||| ((1 : Int32) <<< ((Int32.ofInt nv41) &&& 31))), q.2.2.2.1, (q.2.2.2.2.1 + 1), q.2.2.2.2.2.1, q.2.2.2.2.2.2) o) P) D vwCl _ tys ad ks _ := hG
            refine lv_iconst (v := 1) X.1 X.2.1 dX4_readSpot_114 (by decide +kernel) ?_
            have spr : vSpC (sgT1 P) (sgL1 P) a = (true, av41, nv41) := vSpC_t i13 pv41
            have hpq : lwPut false nv41 q = (q.1, q.2.1, (q.2.2.1 ||| ((1 : Int32) <<< ((Int32.ofInt nv41) &&& 31))), q.2.2.2.1, (q.2.2.2.2.1 + 1), q.2.2.2.2.2.1, q.2.2.2.2.2.2) := by unfold lwPut; rw [(show (q.2.2.2.2.2.2 || lwHas (q.2.1 ||| q.2.2.1) nv41) = q.2.2.2.2.2.2 from by rw [(lw_and_z (s := q.2.1 ||| q.2.2.1) g51 ((wf50).symm.trans c52)), Bool.or_false])]; rfl
            rw [← hpq] at hG
            exact sg_zret2 X hr (sg_zn (iv_of (iv_c 1 (a := 1) (b := 1) (by decide +kernel)) (a' := 0) (b' := 1) (by decide +kernel))) hlk hS (iv_of (iv_c 1 (a := 1) (b := 1) (by decide +kernel)) (a' := 0) (b' := 1) (by decide +kernel)) (fun t ht hW => (Or.inl ⟨rfl, _, _, spr, vq_pgw p2v41 (by decide), (bv41).2, sg_post hb hK hC hG hS ht hW⟩)) dX4_readSpot_115
          · have i56 : (x2.toInt = (0 : Int)) = False := vq_ne c54 rfl (by decide +kernel)
            exact ((c54 (iv_one h2 (iv_c 0 (a := 0) (b := 0) (by decide +kernel)) (by decide +kernel)))).elim
        · refine lv_iconst (v := 1) X.1 X.2.1 dX4_readSpot_56 (by decide +kernel) ?_
          refine lv_goto (tgt := 61) X.1 X.2.1 dX4_readSpot_57 (by decide) ?_
          refine lv_ior X.1 X.2.1 dX4_readSpot_61 ?_
          refine lv_topi (fun f61 ef61 => ?_)
          refine pf_X4_12G X hK hG hS h0 wl_1_235 (iv_of (iv_or 1 ef61 (zb_01 zf46) (iv_c 1 (a := 1) (b := 1) (by decide +kernel)) (by decide +kernel)) (a' := 0) (b' := 1) (by decide +kernel)) dX4_readSpot_62 (fun H locs hG hS => ?_)
          rw [show (f61 : Int32).toInt = (bif true then 1 else 0) from zb_or1 ef61 zf46, zgq_12] at hG
          have hG : sgG (KG av41 av41 w1 w2 (zG (q.1, q.2.1, q.2.2.1, q.2.2.2.1, q.2.2.2.2.1, q.2.2.2.2.2.1, true) o) P) D vwCl _ tys ad ks _ := hG
          refine lv_iload_n X.1 X.2.1 dX4_readSpot_65 rfl (lv_at hl 4 rfl) ?_
          refine lv_if_eq (tgt := 93) X.1 X.2.1 dX4_readSpot_66 (by decide) (fun c62 => ?_) (fun c62 => ?_)
          · have i63 : x2.toInt = (0 : Int) := vq_eq c62 rfl (by decide +kernel)
            refine lv_aload_n X.1 X.2.1 dX4_readSpot_93 rfl (lv_at hl 2 rfl) ?_
            refine lv_dup X.1 X.2.1 dX4_readSpot_94 rfl ?_
            refine gf_X4_10g X hK hG h0 wl_1_230 dX4_readSpot_95 (fun f65 hf65 => ?_)
            have wf65 : f65 = q.2.2.1 := zgg_10 (q := (q.1, q.2.1, q.2.2.1, q.2.2.2.1, q.2.2.2.2.1, q.2.2.2.2.2.1, true)) (o := o) hf65
            refine lv_iload X.1 X.2.1 dX4_readSpot_98 (lv_at hl 0 rfl) ?_
            refine lv_ior X.1 X.2.1 dX4_readSpot_100 ?_
            refine lv_topi (fun f66 ef66 => ?_)
            have wf66 : f66 = (q.2.2.1 ||| ((1 : Int32) <<< ((Int32.ofInt nv41) &&& 31))) := ef66.trans (by rw [wf65, wf45])
            refine pf_X4_10G X hK hG hS h0 wl_1_230 dX4_readSpot_101 (fun H locs hG hS => ?_)
            rw [zgq_10, wf66] at hG
            have hG : sgG (KG av41 av41 w1 w2 (zG (q.1, q.2.1, (q.2.2.1 ||| ((1 : Int32) <<< ((Int32.ofInt nv41) &&& 31))), q.2.2.2.1, q.2.2.2.2.1, q.2.2.2.2.2.1, true) o) P) D vwCl _ tys ad ks _ := hG
            refine lv_aload_n X.1 X.2.1 dX4_readSpot_104 rfl (lv_at hl 2 rfl) ?_
            refine lv_dup X.1 X.2.1 dX4_readSpot_105 rfl ?_
            refine gf_X4_14g X hK hG h0 wl_1_237 dX4_readSpot_106 (fun f67 hf67 => ?_)
            have xf67 : f67.toInt = q.2.2.2.2.1 := zgg_14 (q := (q.1, q.2.1, (q.2.2.1 ||| ((1 : Int32) <<< ((Int32.ofInt nv41) &&& 31))), q.2.2.2.1, q.2.2.2.2.1, q.2.2.2.2.2.1, true)) (o := o) hf67
            have yf67 : iv 0 8 f67 := vq_of xf67 hq0.2
            refine lv_iconst (v := 1) X.1 X.2.1 dX4_readSpot_109 (by decide +kernel) ?_
            refine lv_iadd X.1 X.2.1 dX4_readSpot_110 ?_
            refine lv_topi (fun f68 ef68 => ?_)
            have xf68 : f68.toInt = (q.2.2.2.2.1 + 1) := sg_exadd ef68 yf67 (iv_c 1 (a := 1) (b := 1) (by decide +kernel)) (by decide +kernel) xf67 (by decide +kernel)
            refine pf_X4_14G X hK hG hS h0 wl_1_237 dX4_readSpot_111 (fun H locs hG hS => ?_)
            rw [xf68, zgq_14] at hG
            have hG : sgG (KG av41 av41 w1 w2 (zG (q.1, q.2.1, (q.2.2.1 ||| ((1 : Int32) <<< ((Int32.ofInt nv41) &&& 31))), q.2.2.2.1, (q.2.2.2.2.1 + 1), q.2.2.2.2.2.1, true) o) P) D vwCl _ tys ad ks _ := hG
            refine lv_iconst (v := 1) X.1 X.2.1 dX4_readSpot_114 (by decide +kernel) ?_
            have spr : vSpC (sgT1 P) (sgL1 P) a = (true, av41, nv41) := vSpC_t i13 pv41
            have hpq : lwPut false nv41 q = (q.1, q.2.1, (q.2.2.1 ||| ((1 : Int32) <<< ((Int32.ofInt nv41) &&& 31))), q.2.2.2.1, (q.2.2.2.2.1 + 1), q.2.2.2.2.2.1, true) := by unfold lwPut; rw [(show (q.2.2.2.2.2.2 || lwHas (q.2.1 ||| q.2.2.1) nv41) = true from lw_d2 (lw_and_n (s := q.2.1 ||| q.2.2.1) g51 (fun z => c52 ((wf50).trans z))))]; rfl
            rw [← hpq] at hG
            exact sg_zret2 X hr (sg_zn (iv_of (iv_c 1 (a := 1) (b := 1) (by decide +kernel)) (a' := 0) (b' := 1) (by decide +kernel))) hlk hS (iv_of (iv_c 1 (a := 1) (b := 1) (by decide +kernel)) (a' := 0) (b' := 1) (by decide +kernel)) (fun t ht hW => (Or.inl ⟨rfl, _, _, spr, vq_pgw p2v41 (by decide), (bv41).2, sg_post hb hK hC hG hS ht hW⟩)) dX4_readSpot_115
          · have i64 : (x2.toInt = (0 : Int)) = False := vq_ne c62 rfl (by decide +kernel)
            exact ((c62 (iv_one h2 (iv_c 0 (a := 0) (b := 0) (by decide +kernel)) (by decide +kernel)))).elim
      · have i44 : nv41 = ((-1) : Int) := vq_eq c42 xv41 (by decide +kernel)
        exact ((iv_no (a := 0) (b := (-1)) (iv_eqm c42 yv41 (iv_c (-1) (a := (-1)) (b := (-1)) (by decide +kernel)) (by decide +kernel)) (by decide +kernel))).elim
    · have hG := hBf40.2.2.2
      rw [htf40] at hG
      refine lv_istore_n (lv' := [(3, .int (-1)), (0, .ref a0), (1, .ref a1), (2, .int x2)]) X.1 X.2.1 dX4_readSpot_23 rfl hl (by decide) rfl (fun ls hl => ?_)
      refine lv_iload_n X.1 X.2.1 dX4_readSpot_24 rfl (lv_at hl 0 rfl) ?_
      refine lv_iconst (v := (-1)) X.1 X.2.1 dX4_readSpot_25 (by decide +kernel) ?_
      refine lv_icmp_ne (tgt := 31) X.1 X.2.1 dX4_readSpot_26 (by decide) (fun c69 => ?_) (fun c69 => ?_)
      · exact ((c69 (iv_one (iv_c (-1) (a := (-1)) (b := (-1)) (by decide +kernel)) (iv_c (-1) (a := (-1)) (b := (-1)) (by decide +kernel)) (by decide +kernel)))).elim
      · refine lv_iconst (v := 0) X.1 X.2.1 dX4_readSpot_29 (by decide +kernel) ?_
        have spr : vSpC (sgT1 P) (sgL1 P) a = (false, wv41, 0) := vSpC_b i13 pv41
        have hG := kg_weak (b1 := 0) (b2 := 240) (c1 := wv41) (c2 := wv41) hG (Int.le_refl _) (Int.le_refl _) (Int.le_refl _) (Int.le_refl _)
        exact sg_zret2 X hr (sg_zn (iv_of (iv_c 0 (a := 0) (b := 0) (by decide +kernel)) (a' := 0) (b' := 1) (by decide +kernel))) hlk hS (iv_of (iv_c 0 (a := 0) (b := 0) (by decide +kernel)) (a' := 0) (b' := 1) (by decide +kernel)) (fun t ht hW => (Or.inr ⟨rfl, _, _, _, spr, sg_post hb hK hC hG hS ht hW⟩)) dX4_readSpot_30

theorem ca_X4_readSpot_g0  {a w1 w2 : Int} {q : sgLwn} {o : sgZg}  (X : CallFix p m c cc nL s args sg_tbl own) (hK : va_K D vwCl tys s) (hG : sgG (KG a a w1 w2 (zG q o) P) D vwCl (fun q : Nat => base ≤ q) tys ad ks H) (hC : sgC base s) (hS : va_S (fun q : Nat => base ≤ q) s.heap H locs) (hb : base ≤ s.heap.size) (a0 : Nat) (h0 : isK ad ks 2 a0) (a1 : Nat) (h1 : isK ad ks 10 a1) (x2 : Int32) (h2 : iv 0 0 x2) (hl0 : 0 ≤ sgL1 P ∧ sgL1 P ≤ 240) (hav : 0 ≤ a ∧ a ≤ sgL1 P) (hby : ∀ j : Nat, (↑j : Int) < sgL1 P → 1 ≤ sgT1 P j ∧ sgT1 P j ≤ 255) (hq0 : (0 ≤ q.2.2.2.1 ∧ q.2.2.2.1 ≤ 12) ∧ (0 ≤ q.2.2.2.2.1 ∧ q.2.2.2.2.1 ≤ 8)) (hl : Cond.methodLink own index yX4_readSpot ∈ sg_tbl) (hsize : ls.size = nL) (hst : st0 = [.ref a1, .int x2].reverse ++ .ref a0 :: rest) (hW : (rest.map fun v => v.category).sum ≤ 8) (hR : 3 ≤ R.frames ∧ 58 ≤ R.locals) (hf : cells ≤ R.cells ∧ slots ≤ R.slots) (hdg : decode cc pc = .ok (.invokevirtual index, 3)) (kk : ∀ (r : Int32) (t : State) (H1 : Heap) (locs1 : List Loc), t.heap = H1 → (fun r : Int32 => iv 0 1 r) r → ((r = 1 ∧ ∃ (a1 v1 : Int), vSpC (sgT1 P) (sgL1 P) a = (true, a1, v1) ∧ a + 0 ≤ a1 ∧ a1 ≤ sgL1 P ∧ sgB (KG a1 a1 w1 w2 (zG (lwPut false v1 q) o) P) D vwCl base tys ad ks t) ∨ (r = 0 ∧ ∃ (w v1 : Int) (z1 : sgZg), vSpC (sgT1 P) (sgL1 P) a = (false, w, v1) ∧ sgB (KG 0 240 w w z1 P) D vwCl base tys ad ks t)) → va_S (fun q : Nat => base ≤ q) s.heap H1 locs1 → W p l e R s m args below meth c H1 locs1 cells slots Q (F0 m (pc + 3) ls (.int r :: rest))) : W p l e R s m args below meth c H locs cells slots Q (F0 m pc ls st0) :=
  sg_callV2i X hK hG hC hS hb (m_X4_readSpot_g0 l a0 h0 a1 h1 x2 h2 hl0 hav hby hq0) h0 (k := 2) (ci := 4) rfl (C := RX4) (T := TX4) (N := 15) rfl wl_3_166 wl_1_7 wl_3_165 wl_0_4 (n := 2) (by decide +kernel) rfl rfl rfl hl hsize hst hW hR hf hdg kk

set_option maxHeartbeats 8000000 in
set_option maxRecDepth 100000 in
theorem m_X4_readClause_g (l : Launch) {D : va_G} {base : Nat} {tys : List (ClassId × FieldType)} {ad ks : List Nat} {P : sgPm}{a w1 w2 : Int} {q : sgLwn} {o : sgZg}  (a0 : Nat) (h0 : isK ad ks 2 a0) (a1 : Nat) (h1 : isK ad ks 10 a1) (hl0 : 0 ≤ sgL1 P ∧ sgL1 P ≤ 240) (hav : 0 ≤ a ∧ a ≤ sgL1 P) (hby : ∀ j : Nat, (↑j : Int) < sgL1 P → 1 ≤ sgT1 P j ∧ sgT1 P j ≤ 255) (hq0 : (0 ≤ q.2.2.2.1 ∧ q.2.2.2.1 ≤ 12) ∧ (0 ≤ q.2.2.2.2.1 ∧ q.2.2.2.2.1 ≤ 8)) : Met l yX4_readClause (Cond.code yX4_readClause cX4_readClause 3 (some .boolean) :: sg_tbl) ({ frames := 5, cells := 0, slots := 0, locals := 116 }) (va_Pc [.ref a0, .ref a1] (sgB (KG a a w1 w2 (zG q o) P) D vwCl base tys ad ks)) (va_Qi (fun r (u : Int32) => u = r ∧ (fun r : Int32 => iv 0 1 r) r) (fun u t => (u = 1 ∧ ∃ (a1 : Int) (q1 : sgLwn), vLcC (sgT1 P) (sgL1 P) q a = (true, a1, q1) ∧ ((0 ≤ q1.2.2.2.1 ∧ q1.2.2.2.1 ≤ 12) ∧ (0 ≤ q1.2.2.2.2.1 ∧ q1.2.2.2.2.1 ≤ 8)) ∧ a + 1 ≤ a1 ∧ a1 ≤ sgL1 P ∧ sgB (KG a1 a1 w1 w2 (zG q1 o) P) D vwCl base tys ad ks t) ∨ (u = 0 ∧ ∃ (w : Int) (q1 : sgLwn) (z1 : sgZg), vLcC (sgT1 P) (sgL1 P) q a = (false, w, q1) ∧ sgB (KG 0 240 w w z1 P) D vwCl base tys ad ks t)) (fun q : Nat => base ≤ q)) 0 0 (fun q : Nat => base ≤ q) := by
  refine sg_ofW (by decide +kernel) (Nat.le_of_ble_eq_true rfl) (fun p e s m below meth c X hr hlk hb hK hC hG ls hl => ?_)
  have hS : va_S (fun q : Nat => base ≤ q) s.heap s.heap [] := va_S.rf
  have hl : lv_has ls 3 [(0, .ref a0), (1, .ref a1)] := hl
  refine lv_aload_n X.1 X.2.1 dX4_readClause_0 rfl (lv_at hl 1 rfl) ?_
  refine ca_X10_sign_g X hK hG hC (fun _ h => h) hS hb a1 h1 hl0 hav wl_3_47 hl.1 (rest := []) rfl (Nat.le_of_ble_eq_true rfl) ⟨Nat.le_of_ble_eq_true rfl, Nat.le_of_ble_eq_true rfl⟩ ⟨Nat.le_of_ble_eq_true rfl, Nat.le_of_ble_eq_true rfl⟩ dX4_readClause_1 (fun f10 locs hf10 hS => ?_)
  have yf10 : iv 0 255 f10 := vq_255 hf10 hby
  refine lv_istore_n (lv' := [(2, .int f10), (0, .ref a0), (1, .ref a1)]) X.1 X.2.1 dX4_readClause_4 rfl hl (by decide) rfl (fun ls hl => ?_)
  refine lv_aload_n X.1 X.2.1 dX4_readClause_5 rfl (lv_at hl 1 rfl) ?_
  refine lv_iload_n X.1 X.2.1 dX4_readClause_6 rfl (lv_at hl 0 rfl) ?_
  refine ca_X4_mayCome_g X hK hG hC (fun _ h => h) hS hb a0 h0 f10 hq0 wl_3_51 hl.1 (rest := []) rfl (Nat.le_of_ble_eq_true rfl) ⟨Nat.le_of_ble_eq_true rfl, Nat.le_of_ble_eq_true rfl⟩ ⟨Nat.le_of_ble_eq_true rfl, Nat.le_of_ble_eq_true rfl⟩ dX4_readClause_7 (fun f11 locs hf11 hS => ?_)
  refine lv_if_ne (tgt := 18) X.1 X.2.1 dX4_readClause_10 (by decide) (fun c12 => ?_) (fun c12 => ?_)
  · have j13 := vq_says1 hf11 c12
    have k14 : lwMay (vC (sgT1 P) (sgL1 P) a) q := by have z := j13; rw [hf10] at z; exact z
    refine lv_aload_n X.1 X.2.1 dX4_readClause_18 rfl (lv_at hl 2 rfl) ?_
    refine ca_X10_step_g X hK hG hC hS hb a1 h1 hl0 (vC_lt (b := sgT1 P) (lwMay_ne k14)) wl_3_59 hl.1 (rest := []) rfl (Nat.le_of_ble_eq_true rfl) ⟨Nat.le_of_ble_eq_true rfl, Nat.le_of_ble_eq_true rfl⟩ ⟨Nat.le_of_ble_eq_true rfl, Nat.le_of_ble_eq_true rfl⟩ dX4_readClause_19 (fun tg17 H locs htg17 hWg17 hS => ?_)
    have b18 := vC_lt (b := sgT1 P) (n := sgL1 P) (a := a) (lwMay_ne k14)
    have bb18 := vq_bdX (b := sgT1 P) b18
    have qb18 : a + 1 ≤ vX (sgT1 P) (sgL1 P) (a + 1) := (vX_ge (sgT1 P) (sgL1 P) (a + 1)).1
    have pb18 : a + 1 ≤ vX (sgT1 P) (sgL1 P) (a + 1) := vq_pg (vq_pg0 a) (m := 1) (vX_ge (sgT1 P) (sgL1 P) (a + 1)).1 (by decide)
    have hG := hWg17.2.2.2
    rw [htg17] at hG
    refine lv_iload_n X.1 X.2.1 dX4_readClause_22 rfl (lv_at hl 0 rfl) ?_
    refine lv_bipush (v := 115) X.1 X.2.1 dX4_readClause_23 (by decide +kernel) ?_
    refine lv_icmp_ne (tgt := 36) X.1 X.2.1 dX4_readClause_25 (by decide) (fun c19 => ?_) (fun c19 => ?_)
    · have i20 : (vC (sgT1 P) (sgL1 P) a = (115 : Int)) = False := vq_ne c19 hf10 (by decide +kernel)
      refine lv_aload_n X.1 X.2.1 dX4_readClause_36 rfl (lv_at hl 1 rfl) ?_
      refine lv_aload_n X.1 X.2.1 dX4_readClause_37 rfl (lv_at hl 2 rfl) ?_
      refine lv_iload_n X.1 X.2.1 dX4_readClause_38 rfl (lv_at hl 0 rfl) ?_
      refine lv_bipush (v := 116) X.1 X.2.1 dX4_readClause_39 (by decide +kernel) ?_
      refine lv_icmp_ne (tgt := 48) X.1 X.2.1 dX4_readClause_41 (by decide) (fun c22 => ?_) (fun c22 => ?_)
      · have i23 : (vC (sgT1 P) (sgL1 P) a = (116 : Int)) = False := vq_ne c22 hf10 (by decide +kernel)
        refine lv_iconst (v := 0) X.1 X.2.1 dX4_readClause_48 (by decide +kernel) ?_
        refine ca_X4_readSpot_g0 X hK hG hC hS hb a0 h0 a1 h1 0 (iv_c 0 (a := 0) (b := 0) (by decide +kernel)) hl0 bb18 hby hq0 wl_3_163 hl.1 (rest := []) rfl (Nat.le_of_ble_eq_true rfl) ⟨Nat.le_of_ble_eq_true rfl, Nat.le_of_ble_eq_true rfl⟩ ⟨Nat.le_of_ble_eq_true rfl, Nat.le_of_ble_eq_true rfl⟩ dX4_readClause_49 (fun f25 tf25 H locs htf25 hf25 hWf25 hS => ?_)
        rcases hWf25 with ⟨rfl, av26, nv26, pv26, gav26, gbv26, hBf25⟩ | ⟨rfl, wv26, nv26, zv26, pv26, hBf25⟩
        · have hG := hBf25.2.2.2
          rw [htf25] at hG
          have bv26 := vq_bd2 (k := 0) bb18 (by decide) gav26 gbv26
          have p2v26 : a + 1 ≤ av26 := vq_pg pb18 gav26 (by decide)
          have hG : sgG (KG av26 av26 w1 w2 (zG (lwPut false nv26 q) o) P) D vwCl _ tys ad ks _ := hG
          have spr : vLcC (sgT1 P) (sgL1 P) q a = (true, av26, (lwPut false nv26 q)) := (vLcC_p (of_eq_false i20) (lwMay_p k14 i20) pv26).trans (by rw [show (vC (sgT1 P) (sgL1 P) a == 116) = false from beq_false_of_ne (of_eq_false i23)])
          have hqq := lwPut_hq (v := nv26) hq0 (lwMay_p k14 i20) (show (vC (sgT1 P) (sgL1 P) a == 116) = false from beq_false_of_ne (of_eq_false i23))
          exact sg_zret2 X hr (sg_zn (iv_of (iv_c 1 (a := 1) (b := 1) (by decide +kernel)) (a' := 0) (b' := 1) (by decide +kernel))) hlk hS (iv_of (iv_c 1 (a := 1) (b := 1) (by decide +kernel)) (a' := 0) (b' := 1) (by decide +kernel)) (fun t ht hW => (Or.inl ⟨rfl, _, _, spr, hqq, vq_pgw p2v26 (by decide), (bv26).2, sg_post hb hK hC hG hS ht hW⟩)) dX4_readClause_52
        · have hG := hBf25.2.2.2
          rw [htf25] at hG
          have spr : vLcC (sgT1 P) (sgL1 P) q a = (false, wv26, _) := vLcC_p (of_eq_false i20) (lwMay_p k14 i20) pv26
          have hG := kg_weak (b1 := 0) (b2 := 240) (c1 := wv26) (c2 := wv26) hG (Int.le_refl _) (Int.le_refl _) (Int.le_refl _) (Int.le_refl _)
          exact sg_zret2 X hr (sg_zn (iv_of (iv_c 0 (a := 0) (b := 0) (by decide +kernel)) (a' := 0) (b' := 1) (by decide +kernel))) hlk hS (iv_of (iv_c 0 (a := 0) (b := 0) (by decide +kernel)) (a' := 0) (b' := 1) (by decide +kernel)) (fun t ht hW => (Or.inr ⟨rfl, _, _, _, spr, sg_post hb hK hC hG hS ht hW⟩)) dX4_readClause_52
      · have i24 : vC (sgT1 P) (sgL1 P) a = (116 : Int) := vq_eq c22 hf10 (by decide +kernel)
        refine lv_iconst (v := 1) X.1 X.2.1 dX4_readClause_44 (by decide +kernel) ?_
        refine lv_goto (tgt := 49) X.1 X.2.1 dX4_readClause_45 (by decide) ?_
        refine ca_X4_readSpot_g1 X hK hG hC hS hb a0 h0 a1 h1 1 (iv_c 1 (a := 1) (b := 1) (by decide +kernel)) hl0 bb18 hby hq0 wl_3_163 hl.1 (rest := []) rfl (Nat.le_of_ble_eq_true rfl) ⟨Nat.le_of_ble_eq_true rfl, Nat.le_of_ble_eq_true rfl⟩ ⟨Nat.le_of_ble_eq_true rfl, Nat.le_of_ble_eq_true rfl⟩ dX4_readClause_49 (fun f27 tf27 H locs htf27 hf27 hWf27 hS => ?_)
        rcases hWf27 with ⟨rfl, av28, nv28, pv28, gav28, gbv28, hBf27⟩ | ⟨rfl, wv28, nv28, zv28, pv28, hBf27⟩
        · have hG := hBf27.2.2.2
          rw [htf27] at hG
          have bv28 := vq_bd2 (k := 0) bb18 (by decide) gav28 gbv28
          have p2v28 : a + 1 ≤ av28 := vq_pg pb18 gav28 (by decide)
          have hG : sgG (KG av28 av28 w1 w2 (zG (lwPut true nv28 q) o) P) D vwCl _ tys ad ks _ := hG
          have spr : vLcC (sgT1 P) (sgL1 P) q a = (true, av28, (lwPut true nv28 q)) := (vLcC_p (of_eq_false i20) (lwMay_p k14 i20) pv28).trans (by rw [show (vC (sgT1 P) (sgL1 P) a == 116) = true from beq_iff_eq.mpr i24])
          have hqq := lwPut_hq (v := nv28) hq0 (lwMay_p k14 i20) (show (vC (sgT1 P) (sgL1 P) a == 116) = true from beq_iff_eq.mpr i24)
          exact sg_zret2 X hr (sg_zn (iv_of (iv_c 1 (a := 1) (b := 1) (by decide +kernel)) (a' := 0) (b' := 1) (by decide +kernel))) hlk hS (iv_of (iv_c 1 (a := 1) (b := 1) (by decide +kernel)) (a' := 0) (b' := 1) (by decide +kernel)) (fun t ht hW => (Or.inl ⟨rfl, _, _, spr, hqq, vq_pgw p2v28 (by decide), (bv28).2, sg_post hb hK hC hG hS ht hW⟩)) dX4_readClause_52
        · have hG := hBf27.2.2.2
          rw [htf27] at hG
          have spr : vLcC (sgT1 P) (sgL1 P) q a = (false, wv28, _) := vLcC_p (of_eq_false i20) (lwMay_p k14 i20) pv28
          have hG := kg_weak (b1 := 0) (b2 := 240) (c1 := wv28) (c2 := wv28) hG (Int.le_refl _) (Int.le_refl _) (Int.le_refl _) (Int.le_refl _)
          exact sg_zret2 X hr (sg_zn (iv_of (iv_c 0 (a := 0) (b := 0) (by decide +kernel)) (a' := 0) (b' := 1) (by decide +kernel))) hlk hS (iv_of (iv_c 0 (a := 0) (b := 0) (by decide +kernel)) (a' := 0) (b' := 1) (by decide +kernel)) (fun t ht hW => (Or.inr ⟨rfl, _, _, _, spr, sg_post hb hK hC hG hS ht hW⟩)) dX4_readClause_52
    · have i21 : vC (sgT1 P) (sgL1 P) a = (115 : Int) := vq_eq c19 hf10 (by decide +kernel)
      refine lv_aload_n X.1 X.2.1 dX4_readClause_28 rfl (lv_at hl 1 rfl) ?_
      refine lv_aload_n X.1 X.2.1 dX4_readClause_29 rfl (lv_at hl 2 rfl) ?_
      refine ca_X4_readRules_g X hK hG hC hS hb a0 h0 a1 h1 hl0 bb18 hby wl_3_66 hl.1 (rest := []) rfl (Nat.le_of_ble_eq_true rfl) ⟨Nat.le_of_ble_eq_true rfl, Nat.le_of_ble_eq_true rfl⟩ ⟨Nat.le_of_ble_eq_true rfl, Nat.le_of_ble_eq_true rfl⟩ dX4_readClause_30 (fun f29 tf29 H locs htf29 hf29 hWf29 hS => ?_)
      rcases hWf29 with ⟨rfl, av30, fv30, pv30, gav30, gbv30, hBf29⟩ | ⟨rfl, wv30, fv30, zv30, pv30, hBf29⟩
      · have hG := hBf29.2.2.2
        rw [htf29] at hG
        have bv30 := vq_bd2 (k := 0) bb18 (by decide) gav30 gbv30
        have p2v30 : a + 1 ≤ av30 := vq_pg pb18 gav30 (by decide)
        have hG : sgG (KG av30 av30 w1 w2 (zG (fv30, q.2.1, q.2.2.1, q.2.2.2.1, q.2.2.2.2.1, true, q.2.2.2.2.2.2) o) P) D vwCl _ tys ad ks _ := hG
        refine lv_goto (tgt := 52) X.1 X.2.1 dX4_readClause_33 (by decide) ?_
        have spr : vLcC (sgT1 P) (sgL1 P) q a = (true, av30, (fv30, q.2.1, q.2.2.1, q.2.2.2.1, q.2.2.2.2.1, true, q.2.2.2.2.2.2)) := vLcC_s i21 (lwMay_s k14 i21) pv30
        exact sg_zret2 X hr (sg_zn (iv_of (iv_c 1 (a := 1) (b := 1) (by decide +kernel)) (a' := 0) (b' := 1) (by decide +kernel))) hlk hS (iv_of (iv_c 1 (a := 1) (b := 1) (by decide +kernel)) (a' := 0) (b' := 1) (by decide +kernel)) (fun t ht hW => (Or.inl ⟨rfl, _, _, spr, hq0, vq_pgw p2v30 (by decide), (bv30).2, sg_post hb hK hC hG hS ht hW⟩)) dX4_readClause_52
      · have hG := hBf29.2.2.2
        rw [htf29] at hG
        refine lv_goto (tgt := 52) X.1 X.2.1 dX4_readClause_33 (by decide) ?_
        have spr : vLcC (sgT1 P) (sgL1 P) q a = (false, wv30, _) := vLcC_s i21 (lwMay_s k14 i21) pv30
        have hG := kg_weak (b1 := 0) (b2 := 240) (c1 := wv30) (c2 := wv30) hG (Int.le_refl _) (Int.le_refl _) (Int.le_refl _) (Int.le_refl _)
        exact sg_zret2 X hr (sg_zn (iv_of (iv_c 0 (a := 0) (b := 0) (by decide +kernel)) (a' := 0) (b' := 1) (by decide +kernel))) hlk hS (iv_of (iv_c 0 (a := 0) (b := 0) (by decide +kernel)) (a' := 0) (b' := 1) (by decide +kernel)) (fun t ht hW => (Or.inr ⟨rfl, _, _, _, spr, sg_post hb hK hC hG hS ht hW⟩)) dX4_readClause_52
  · have j15 := vq_says0 hf11 c12
    have k16 : ¬ lwMay (vC (sgT1 P) (sgL1 P) a) q := by have z := j15; rw [hf10] at z; exact z
    refine lv_aload_n X.1 X.2.1 dX4_readClause_13 rfl (lv_at hl 2 rfl) ?_
    refine ca_X10_wrong_g X hK hG hC hS hb a1 h1 hl0 hav wl_3_55 hl.1 (rest := []) rfl (Nat.le_of_ble_eq_true rfl) ⟨Nat.le_of_ble_eq_true rfl, Nat.le_of_ble_eq_true rfl⟩ ⟨Nat.le_of_ble_eq_true rfl, Nat.le_of_ble_eq_true rfl⟩ dX4_readClause_14 (fun f31 tf31 H locs htf31 hf31 hWf31 hS => ?_)
    have hG := hWf31.2.2.2
    rw [htf31] at hG
    obtain rfl : f31 = 0 := sg_is0 hf31
    have spr : vLcC (sgT1 P) (sgL1 P) q a = (false, a, _) := vLcC_no k16
    have hG := kg_weak (b1 := 0) (b2 := 240) (c1 := a) (c2 := a) hG (hav).1 (Int.le_trans (hav).2 hl0.2) (Int.le_refl _) (Int.le_refl _)
    exact sg_zret2 X hr (sg_zn (iv_of (iv_c 0 (a := 0) (b := 0) (by decide +kernel)) (a' := 0) (b' := 1) (by decide +kernel))) hlk hS (iv_of (iv_c 0 (a := 0) (b := 0) (by decide +kernel)) (a' := 0) (b' := 1) (by decide +kernel)) (fun t ht hW => (Or.inr ⟨rfl, _, _, _, spr, sg_post hb hK hC hG hS ht hW⟩)) dX4_readClause_17

theorem ca_X4_readClause_g  {a w1 w2 : Int} {q : sgLwn} {o : sgZg}  (X : CallFix p m c cc nL s args sg_tbl own) (hK : va_K D vwCl tys s) (hG : sgG (KG a a w1 w2 (zG q o) P) D vwCl (fun q : Nat => base ≤ q) tys ad ks H) (hC : sgC base s) (hS : va_S (fun q : Nat => base ≤ q) s.heap H locs) (hb : base ≤ s.heap.size) (a0 : Nat) (h0 : isK ad ks 2 a0) (a1 : Nat) (h1 : isK ad ks 10 a1) (hl0 : 0 ≤ sgL1 P ∧ sgL1 P ≤ 240) (hav : 0 ≤ a ∧ a ≤ sgL1 P) (hby : ∀ j : Nat, (↑j : Int) < sgL1 P → 1 ≤ sgT1 P j ∧ sgT1 P j ≤ 255) (hq0 : (0 ≤ q.2.2.2.1 ∧ q.2.2.2.1 ≤ 12) ∧ (0 ≤ q.2.2.2.2.1 ∧ q.2.2.2.2.1 ≤ 8)) (hl : Cond.methodLink own index yX4_readClause ∈ sg_tbl) (hsize : ls.size = nL) (hst : st0 = [.ref a1].reverse ++ .ref a0 :: rest) (hW : (rest.map fun v => v.category).sum ≤ 8) (hR : 6 ≤ R.frames ∧ 138 ≤ R.locals) (hf : cells ≤ R.cells ∧ slots ≤ R.slots) (hdg : decode cc pc = .ok (.invokevirtual index, 3)) (kk : ∀ (r : Int32) (t : State) (H1 : Heap) (locs1 : List Loc), t.heap = H1 → (fun r : Int32 => iv 0 1 r) r → ((r = 1 ∧ ∃ (a1 : Int) (q1 : sgLwn), vLcC (sgT1 P) (sgL1 P) q a = (true, a1, q1) ∧ ((0 ≤ q1.2.2.2.1 ∧ q1.2.2.2.1 ≤ 12) ∧ (0 ≤ q1.2.2.2.2.1 ∧ q1.2.2.2.2.1 ≤ 8)) ∧ a + 1 ≤ a1 ∧ a1 ≤ sgL1 P ∧ sgB (KG a1 a1 w1 w2 (zG q1 o) P) D vwCl base tys ad ks t) ∨ (r = 0 ∧ ∃ (w : Int) (q1 : sgLwn) (z1 : sgZg), vLcC (sgT1 P) (sgL1 P) q a = (false, w, q1) ∧ sgB (KG 0 240 w w z1 P) D vwCl base tys ad ks t)) → va_S (fun q : Nat => base ≤ q) s.heap H1 locs1 → W p l e R s m args below meth c H1 locs1 cells slots Q (F0 m (pc + 3) ls (.int r :: rest))) : W p l e R s m args below meth c H locs cells slots Q (F0 m pc ls st0) :=
  sg_callV2i X hK hG hC hS hb (m_X4_readClause_g l a0 h0 a1 h1 hl0 hav hby hq0) h0 (k := 2) (ci := 4) rfl (C := RX4) (T := TX4) (N := 15) rfl wl_3_46 wl_1_7 wl_3_45 wl_0_1 (n := 1) (by decide +kernel) rfl rfl rfl hl hsize hst hW hR hf hdg kk
end
