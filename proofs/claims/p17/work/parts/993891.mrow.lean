
section
variable {p : Program} {l : Launch} {e : Env} {R : Room} {s : State} {m : MethodId} {args : Array Value} {below : List Frame} {meth : Method} {c : Code} {H : Heap} {locs : List Loc} {cells slots : Nat} {Q : State → Prop} {cc : ByteArray} {nL pc : Nat} {ls : Array Slot} {rest : List Value} {own : String} {D : va_G} {A : Nat → Prop} {tys : List (ClassId × FieldType)} {ad ks : List Nat} {P : sgPm} {H0 : Heap} {index : Nat} {base : Nat} {st0 : List Value} {a : Nat}

set_option maxHeartbeats 8000000 in
set_option maxRecDepth 100000 in
theorem m_X12_rowFrom_e0 (l : Launch) {D : va_G} {base : Nat} {tys : List (ClassId × FieldType)} {ad ks : List Nat} {P : sgPm}{e1 e2 d1 d2 : Int} {q : sgLwn} {o : sgO}  {Hx : Heap} (x0 : Int32) (x1 : Int32) (h1 : iv 0 29 x1) (x2 : Int32) (h2 : iv 0 0 x2) (a3 : Nat) (h3 : isK ad ks 50 a3) (hr0 : 1 ≤ q.1 0 ∧ q.1 0 ≤ 6) (hr1 : 1 ≤ q.1 1 ∧ q.1 1 ≤ 5) (hd0 : 0 ≤ d1 ∧ d2 ≤ 6) : sgPi l (KE e1 e2 (-1) (-1) d1 d2 (zQ q o) P) D vwCl base tys ad ks Hx yX12_rowFrom cX12_rowFrom 9 (some .int) ({ frames := 1, cells := 0, slots := 0, locals := 21 }) [.int x0, .int x1, .int x2, .ref a3] (fun r : Int32 => r.toInt = rwV x0 (q.1 0) (q.1 1) x1.toInt 0) := by
  refine sg_ofP (Pq := fun Hx => va_Qi (fun r (_ : Unit) => (fun r : Int32 => r.toInt = rwV x0 (q.1 0) (q.1 1) x1.toInt 0) r) (fun _ t => t.heap = Hx) (fun _ : Nat => False)) (by decide +kernel) (Nat.le_of_ble_eq_true rfl) (fun p e s m below meth c X hr hlk hb hK hC hG ls hl => ?_)
  have hS : va_S (fun _ : Nat => False) s.heap s.heap [] := va_S.rf
  have hl : lv_has ls 9 [(0, .int x0), (1, .int x1), (2, .int x2), (3, .ref a3)] := hl
  have hm0 : 0 ≤ x1.toInt % (q.1 0) := Int.emod_nonneg _ (by have := hr0.1; omega)
  have hm1 : 0 ≤ x1.toInt / (q.1 0) := Int.ediv_nonneg (by have := h1.1; omega) (by have := hr0.1; omega)
  refine lv_iload_n X.1 X.2.1 dX12_rowFrom_0 rfl (lv_at hl 1 rfl) ?_
  refine lv_aload_n X.1 X.2.1 dX12_rowFrom_1 rfl (lv_at hl 3 rfl) ?_
  refine lv_iconst (v := 0) X.1 X.2.1 dX12_rowFrom_2 (by decide +kernel) ?_
  refine al_50e X hK hG h3 (iv_vpin (iv_c 0 (a := 0) (b := 0) (by decide +kernel)) (by decide +kernel)) dX12_rowFrom_3 (fun f1 hf1 => ?_)
  have xf1 : f1.toInt = (q.1 0) := zg_r (q := q) (o := o) (sg_cl (iv_c 0 (a := 0) (b := 0) (by decide +kernel)) (by decide)) (by decide) hf1
  have yf1 : iv 1 6 f1 := vq_of xf1 hr0
  refine lv_irem X.1 X.2.1 dX12_rowFrom_4 (iv_ne0 yf1 (by decide +kernel)) ?_
  refine lv_topi (fun f2 ef2 => ?_)
  have xf2 : f2.toInt = (x1.toInt % (q.1 0)) := vq_rem ef2 h1 yf1 (by decide +kernel) rfl xf1
  refine lv_istore (lv' := [(4, .int f2), (0, .int x0), (1, .int x1), (2, .int x2), (3, .ref a3)]) X.1 X.2.1 dX12_rowFrom_5 hl (by decide) rfl (fun ls hl => ?_)
  refine lv_iload_n X.1 X.2.1 dX12_rowFrom_7 rfl (lv_at hl 2 rfl) ?_
  refine lv_aload_n X.1 X.2.1 dX12_rowFrom_8 rfl (lv_at hl 4 rfl) ?_
  refine lv_iconst (v := 0) X.1 X.2.1 dX12_rowFrom_9 (by decide +kernel) ?_
  refine al_50e X hK hG h3 (iv_vpin (iv_c 0 (a := 0) (b := 0) (by decide +kernel)) (by decide +kernel)) dX12_rowFrom_10 (fun f3 hf3 => ?_)
  have xf3 : f3.toInt = (q.1 0) := zg_r (q := q) (o := o) (sg_cl (iv_c 0 (a := 0) (b := 0) (by decide +kernel)) (by decide)) (by decide) hf3
  have yf3 : iv 1 6 f3 := vq_of xf3 hr0
  refine lv_idiv X.1 X.2.1 dX12_rowFrom_11 (iv_ne0 yf3 (by decide +kernel)) ?_
  refine lv_topi (fun f4 ef4 => ?_)
  have xf4 : f4.toInt = (x1.toInt / (q.1 0)) := vq_div ef4 h1 yf3 (by decide +kernel) rfl xf3
  refine lv_istore (lv' := [(5, .int f4), (4, .int f2), (0, .int x0), (1, .int x1), (2, .int x2), (3, .ref a3)]) X.1 X.2.1 dX12_rowFrom_12 hl (by decide) rfl (fun ls hl => ?_)
  refine lv_iload_n X.1 X.2.1 dX12_rowFrom_14 rfl (lv_at hl 4 rfl) ?_
  refine lv_if_eq (tgt := 23) X.1 X.2.1 dX12_rowFrom_15 (by decide) (fun c5 => ?_) (fun c5 => ?_)
  · have i6 : x2.toInt = (0 : Int) := vq_eq c5 rfl (by decide +kernel)
    refine lv_iconst (v := 1) X.1 X.2.1 dX12_rowFrom_23 (by decide +kernel) ?_
    refine lv_goto (tgt := 37) X.1 X.2.1 dX12_rowFrom_24 (by decide) ?_
    refine lv_istore (lv' := [(6, .int 1), (5, .int f4), (4, .int f2), (0, .int x0), (1, .int x1), (2, .int x2), (3, .ref a3)]) X.1 X.2.1 dX12_rowFrom_37 hl (by decide) rfl (fun ls hl => ?_)
    refine lv_iload_n X.1 X.2.1 dX12_rowFrom_39 rfl (lv_at hl 5 rfl) ?_
    refine lv_if_ne (tgt := 47) X.1 X.2.1 dX12_rowFrom_40 (by decide) (fun c8 => ?_) (fun c8 => ?_)
    · have i9 : (x2.toInt = (0 : Int)) = False := vq_ne c8 rfl (by decide +kernel)
      exact ((c8 (iv_one h2 (iv_c 0 (a := 0) (b := 0) (by decide +kernel)) (by decide +kernel)))).elim
    · have i10 : x2.toInt = (0 : Int) := vq_eq c8 rfl (by decide +kernel)
      refine lv_iconst (v := 0) X.1 X.2.1 dX12_rowFrom_43 (by decide +kernel) ?_
      refine lv_goto (tgt := 48) X.1 X.2.1 dX12_rowFrom_44 (by decide) ?_
      refine lv_istore (lv' := [(7, .int 0), (6, .int 1), (5, .int f4), (4, .int f2), (0, .int x0), (1, .int x1), (2, .int x2), (3, .ref a3)]) X.1 X.2.1 dX12_rowFrom_48 hl (by decide) rfl (fun ls hl => ?_)
      refine lv_iconst (v := 0) X.1 X.2.1 dX12_rowFrom_50 (by decide +kernel) ?_
      refine lv_istore (lv' := [(8, .int 0), (7, .int 0), (6, .int 1), (5, .int f4), (4, .int f2), (0, .int x0), (1, .int x1), (2, .int x2), (3, .ref a3)]) X.1 X.2.1 dX12_rowFrom_51 hl (by decide) rfl (fun ls hl => ?_)
      have B11_53 : ∀ (N : Nat) (locs : List Loc) (ls : Array Slot) (z11_4 : Int32) (z11_5 : Int32) (z11_8 : Int32), va_S (fun _ : Nat => False) s.heap s.heap locs → lv_has ls 9 [(0, .int x0), (3, .ref a3), (4, .int z11_4), (5, .int z11_5), (6, .int 1), (7, .int 0), (8, .int z11_8)] → iv 0 6 z11_4 → iv 0 29 z11_5 → iv 0 6 z11_8 → ((z11_8 : Int32).toInt + rwF x0 (q.1 0) (q.1 1) 1 0 (12 - (z11_8 : Int32).toInt).toNat (z11_4 : Int32).toInt (z11_5 : Int32).toInt = rwV x0 (q.1 0) (q.1 1) x1.toInt 0 ∧ 0 ≤ (z11_8 : Int32).toInt ∧ (z11_4 : Int32).toInt = x1.toInt % (q.1 0) + 1 * (z11_8 : Int32).toInt ∧ (z11_5 : Int32).toInt = x1.toInt / (q.1 0) + 0 * (z11_8 : Int32).toInt ∧ (z11_8 : Int32).toInt ≤ 6) → (7 - z11_4.toInt).toNat ≤ N → W p l e (headSpec (Cond.code yX12_rowFrom cX12_rowFrom 9 (some .int) :: sg_tbl) ({ frames := 1, cells := 0, slots := 0, locals := 21 })).room s m #[.int x0, .int x1, .int x2, .ref a3] below meth c s.heap locs 0 0 (MQ below (va_Qi (fun r (_ : Unit) => (fun r : Int32 => r.toInt = rwV x0 (q.1 0) (q.1 1) x1.toInt 0) r) (fun _ t => t.heap = s.heap) (fun _ : Nat => False)) #[.int x0, .int x1, .int x2, .ref a3] s 0 0 (fun _ : Nat => False)) (F0 m 53 ls []) := by
        intro N; induction N with
        | zero =>
          intro locs ls z11_4 z11_5 z11_8 hS hl hz11_4 hz11_5 hz11_8 xf11 hN
          exact absurd hN (by have := iv_up hz11_4; omega)
        | succ N ih11 =>
          intro locs ls z11_4 z11_5 z11_8 hS hl hz11_4 hz11_5 hz11_8 xf11 hN11
          refine lv_iload X.1 X.2.1 dX12_rowFrom_53 (lv_at hl 2 rfl) ?_
          refine lv_if_lt (tgt := 110) X.1 X.2.1 dX12_rowFrom_55 (by decide) (fun c12 => ?_) (fun c12 => ?_)
          · have i13 : z11_4.toInt < (0 : Int) := vq_lt c12 rfl (by decide +kernel)
            exact ((iv_no (iv_lt (b' := (-1)) c12 hz11_4 (iv_c 0 (a := 0) (b := 0) (by decide +kernel)) (by decide +kernel)) (by decide +kernel))).elim
          · have i14 : ¬ z11_4.toInt < (0 : Int) := vq_le (iv_ge_of c12) (by decide +kernel) rfl
            refine lv_iload X.1 X.2.1 dX12_rowFrom_58 (lv_at hl 2 rfl) ?_
            refine lv_aload_n X.1 X.2.1 dX12_rowFrom_60 rfl (lv_at hl 1 rfl) ?_
            refine lv_iconst (v := 0) X.1 X.2.1 dX12_rowFrom_61 (by decide +kernel) ?_
            refine al_50e X hK hG h3 (iv_vpin (iv_c 0 (a := 0) (b := 0) (by decide +kernel)) (by decide +kernel)) dX12_rowFrom_62 (fun f15 hf15 => ?_)
            have xf15 : f15.toInt = (q.1 0) := zg_r (q := q) (o := o) (sg_cl (iv_c 0 (a := 0) (b := 0) (by decide +kernel)) (by decide)) (by decide) hf15
            have yf15 : iv 1 6 f15 := vq_of xf15 hr0
            refine lv_icmp_ge (tgt := 110) X.1 X.2.1 dX12_rowFrom_63 (by decide) (fun c16 => ?_) (fun c16 => ?_)
            · have i17 : ¬ z11_4.toInt < (q.1 0) := vq_le c16 xf15 rfl
              refine lv_iload X.1 X.2.1 dX12_rowFrom_110 (lv_at hl 6 rfl) ?_
              have hno := rwF_n (s := x0) (w := (q.1 0)) (h := (q.1 1)) (dx := 1) (dy := 0) (x := z11_4.toInt) (y := z11_5.toInt) (m := (12 - z11_8.toInt).toNat) (by have z := xf11.2.2.2.2; omega) (Or.inr (Or.inl i17))
              have hre : z11_8.toInt = rwV x0 (q.1 0) (q.1 1) x1.toInt 0 := by have z := xf11.1; omega
              exact sg_iretP X hr hlk hS hre dX12_rowFrom_112
            · have i18 : z11_4.toInt < (q.1 0) := vq_lt (iv_gt_of c16) rfl xf15
              refine lv_iload X.1 X.2.1 dX12_rowFrom_66 (lv_at hl 3 rfl) ?_
              refine lv_aload_n X.1 X.2.1 dX12_rowFrom_68 rfl (lv_at hl 1 rfl) ?_
              refine lv_iconst (v := 1) X.1 X.2.1 dX12_rowFrom_69 (by decide +kernel) ?_
              refine al_50e X hK hG h3 (iv_vpin (iv_c 1 (a := 1) (b := 1) (by decide +kernel)) (by decide +kernel)) dX12_rowFrom_70 (fun f19 hf19 => ?_)
              have xf19 : f19.toInt = (q.1 1) := zg_r (q := q) (o := o) (sg_cl (iv_c 1 (a := 1) (b := 1) (by decide +kernel)) (by decide)) (by decide) hf19
              have yf19 : iv 1 5 f19 := vq_of xf19 hr1
              refine lv_icmp_ge (tgt := 110) X.1 X.2.1 dX12_rowFrom_71 (by decide) (fun c20 => ?_) (fun c20 => ?_)
              · have i21 : ¬ z11_5.toInt < (q.1 1) := vq_le c20 xf19 rfl
                refine lv_iload X.1 X.2.1 dX12_rowFrom_110 (lv_at hl 6 rfl) ?_
                have hno := rwF_n (s := x0) (w := (q.1 0)) (h := (q.1 1)) (dx := 1) (dy := 0) (x := z11_4.toInt) (y := z11_5.toInt) (m := (12 - z11_8.toInt).toNat) (by have z := xf11.2.2.2.2; omega) (Or.inr (Or.inr (Or.inl i21)))
                have hre : z11_8.toInt = rwV x0 (q.1 0) (q.1 1) x1.toInt 0 := by have z := xf11.1; omega
                exact sg_iretP X hr hlk hS hre dX12_rowFrom_112
              · have i22 : z11_5.toInt < (q.1 1) := vq_lt (iv_gt_of c20) rfl xf19
                refine lv_iload_n X.1 X.2.1 dX12_rowFrom_74 rfl (lv_at hl 0 rfl) ?_
                refine lv_iload X.1 X.2.1 dX12_rowFrom_75 (lv_at hl 3 rfl) ?_
                refine lv_aload_n X.1 X.2.1 dX12_rowFrom_77 rfl (lv_at hl 1 rfl) ?_
                refine lv_iconst (v := 0) X.1 X.2.1 dX12_rowFrom_78 (by decide +kernel) ?_
                refine al_50e X hK hG h3 (iv_vpin (iv_c 0 (a := 0) (b := 0) (by decide +kernel)) (by decide +kernel)) dX12_rowFrom_79 (fun f23 hf23 => ?_)
                have xf23 : f23.toInt = (q.1 0) := zg_r (q := q) (o := o) (sg_cl (iv_c 0 (a := 0) (b := 0) (by decide +kernel)) (by decide)) (by decide) hf23
                have yf23 : iv 1 6 f23 := vq_of xf23 hr0
                refine lv_imul X.1 X.2.1 dX12_rowFrom_80 ?_
                refine lv_topi (fun f24 ef24 => ?_)
                have xf24 : f24.toInt = (z11_5.toInt * (q.1 0)) := sg_exmul ef24 (iv_lt (b' := 4) (iv_gt_of c20) hz11_5 yf19 (by decide +kernel)) yf23 (by decide +kernel) rfl xf23
                refine lv_iload X.1 X.2.1 dX12_rowFrom_81 (lv_at hl 2 rfl) ?_
                refine lv_iadd X.1 X.2.1 dX12_rowFrom_83 ?_
                refine lv_topi (fun f25 ef25 => ?_)
                have xf25 : f25.toInt = ((z11_5.toInt * (q.1 0)) + z11_4.toInt) := sg_exadd ef25 (iv_mul (a' := 0) (b' := 24) ef24 (iv_lt (b' := 4) (iv_gt_of c20) hz11_5 yf19 (by decide +kernel)) yf23 (by decide +kernel)) (iv_lt (b' := 5) (iv_gt_of c16) hz11_4 yf15 (by decide +kernel)) (by decide +kernel) xf24 rfl
                refine ca_X12_has_e X hK (ke_toKT hG (by decide) (by decide) hd0.1 hd0.2) hC (fun _ h => h.elim) hS hb x0 f25 wl_7_174 hl.1 (rest := []) rfl (Nat.le_of_ble_eq_true rfl) ⟨Nat.le_of_ble_eq_true rfl, Nat.le_of_ble_eq_true rfl⟩ ⟨Nat.le_of_ble_eq_true rfl, Nat.le_of_ble_eq_true rfl⟩ dX12_rowFrom_84 (fun f26 locs hf26 hS => ?_)
                refine lv_if_eq (tgt := 110) X.1 X.2.1 dX12_rowFrom_87 (by decide) (fun c27 => ?_) (fun c27 => ?_)
                · have j28 := vq_says0 hf26 c27
                  have k29 : ((x0 >>> ((Int32.ofInt ((z11_5.toInt * (q.1 0)) + z11_4.toInt)) &&& 31)) &&& 1 = 1) = False := by have z := j28; rw [(vq_oi (x := f25) xf25)] at z; exact z
                  refine lv_iload X.1 X.2.1 dX12_rowFrom_110 (lv_at hl 6 rfl) ?_
                  have hno := rwF_n (s := x0) (w := (q.1 0)) (h := (q.1 1)) (dx := 1) (dy := 0) (x := z11_4.toInt) (y := z11_5.toInt) (m := (12 - z11_8.toInt).toNat) (by have z := xf11.2.2.2.2; omega) (Or.inr (Or.inr (Or.inr (lwHas_f k29))))
                  have hre : z11_8.toInt = rwV x0 (q.1 0) (q.1 1) x1.toInt 0 := by have z := xf11.1; omega
                  exact sg_iretP X hr hlk hS hre dX12_rowFrom_112
                · have j30 := vq_says1 hf26 c27
                  have k31 : (x0 >>> ((Int32.ofInt ((z11_5.toInt * (q.1 0)) + z11_4.toInt)) &&& 31)) &&& 1 = 1 := by have z := j30; rw [(vq_oi (x := f25) xf25)] at z; exact z
                  obtain ⟨y32, ey32⟩ : ∃ y : Int32, y = z11_8 + Int32.ofInt 1 := ⟨_, rfl⟩
                  have xy32 : y32.toInt = (z11_8.toInt + 1) := sg_exadd ey32 hz11_8 (iv_c _ (a := 1) (b := 1) (by decide +kernel)) (by decide +kernel) rfl (by decide +kernel)
                  refine lv_iinc (v := y32) (lv' := [(8, .int y32), (0, .int x0), (3, .ref a3), (4, .int z11_4), (5, .int z11_5), (6, .int 1), (7, .int 0)]) X.1 X.2.1 dX12_rowFrom_90 hl (k := 6) rfl ey32.symm (by decide) rfl (fun ls hl => ?_)
                  refine lv_iload X.1 X.2.1 dX12_rowFrom_93 (lv_at hl 3 rfl) ?_
                  refine lv_iload X.1 X.2.1 dX12_rowFrom_95 (lv_at hl 5 rfl) ?_
                  refine lv_iadd X.1 X.2.1 dX12_rowFrom_97 ?_
                  refine lv_topi (fun f33 ef33 => ?_)
                  have xf33 : f33.toInt = (z11_4.toInt + 1) := sg_exadd ef33 (iv_lt (b' := 5) (iv_gt_of c16) hz11_4 yf15 (by decide +kernel)) (iv_c 1 (a := 1) (b := 1) (by decide +kernel)) (by decide +kernel) rfl (by decide +kernel)
                  refine lv_istore (lv' := [(4, .int f33), (8, .int y32), (0, .int x0), (3, .ref a3), (5, .int z11_5), (6, .int 1), (7, .int 0)]) X.1 X.2.1 dX12_rowFrom_98 hl (by decide) rfl (fun ls hl => ?_)
                  refine lv_iload X.1 X.2.1 dX12_rowFrom_100 (lv_at hl 4 rfl) ?_
                  refine lv_iload X.1 X.2.1 dX12_rowFrom_102 (lv_at hl 6 rfl) ?_
                  refine lv_iadd X.1 X.2.1 dX12_rowFrom_104 ?_
                  refine lv_topi (fun f34 ef34 => ?_)
                  have xf34 : f34.toInt = (z11_5.toInt + 0) := sg_exadd ef34 (iv_lt (b' := 4) (iv_gt_of c20) hz11_5 yf19 (by decide +kernel)) (iv_c 0 (a := 0) (b := 0) (by decide +kernel)) (by decide +kernel) rfl (by decide +kernel)
                  refine lv_istore (lv' := [(5, .int f34), (4, .int f33), (8, .int y32), (0, .int x0), (3, .ref a3), (6, .int 1), (7, .int 0)]) X.1 X.2.1 dX12_rowFrom_105 hl (by decide) rfl (fun ls hl => ?_)
                  refine lv_goto (tgt := 53) X.1 X.2.1 dX12_rowFrom_107 (by decide) ?_
                  have hst := rwF_s (dx := 1) (dy := 0) (k := (12 - (z11_8.toInt + 1)).toNat) (m := (12 - z11_8.toInt).toNat) (by have z := xf11.2.2.2.2; have z2 := xf11.2.1; omega) i14 i18 i22 (lwHas_t k31)
                  obtain ⟨xa11, xb11, xc11, xd11, xe11⟩ := xf11
                  have hlx := i18
                  have hly := i22
                  exact ih11 _ _ f33 f34 y32 hS (lv_sub hl [3, 4, 1, 0, 5, 6, 2] rfl) (iv_of (iv_add (a' := 1) (b' := 6) ef33 (iv_lt (b' := 5) (iv_gt_of c16) hz11_4 yf15 (by decide +kernel)) (iv_c 1 (a := 1) (b := 1) (by decide +kernel)) (by decide +kernel)) (a' := 0) (b' := 6) (by decide +kernel)) (iv_of (iv_add (a' := 0) (b' := 4) ef34 (iv_lt (b' := 4) (iv_gt_of c20) hz11_5 yf19 (by decide +kernel)) (iv_c 0 (a := 0) (b := 0) (by decide +kernel)) (by decide +kernel)) (a' := 0) (b' := 29) (by decide +kernel)) ⟨by omega, by omega⟩ (by rw [xy32, xf33, xf34]; exact ⟨by omega, by omega, by omega, by omega, by omega⟩) (iv_stepU ef33 (iv_lt (b' := 5) (iv_gt_of c16) hz11_4 yf15 (by decide +kernel)) (by decide +kernel) hN11)
      have hx0 : (0 : Int) + rwF x0 (q.1 0) (q.1 1) 1 0 (12 - (0 : Int)).toNat (x1.toInt % (q.1 0)) (x1.toInt / (q.1 0)) = rwV x0 (q.1 0) (q.1 1) x1.toInt 0 := by
        rw [Int.zero_add]
        rfl
      exact B11_53 _ _ _ f2 f4 0 hS (lv_sub hl [5, 8, 4, 3, 2, 1, 0] rfl) (iv_of (iv_rem (a' := 0) (b' := 5) ef2 h1 yf1 (by decide +kernel)) (a' := 0) (b' := 6) (by decide +kernel)) (iv_div (a' := 0) (b' := 29) ef4 h1 yf3 (by decide +kernel)) (iv_of (iv_c 0 (a := 0) (b := 0) (by decide +kernel)) (a' := 0) (b' := 6) (by decide +kernel)) (by rw [show (0 : Int32).toInt = 0 from by decide +kernel, xf2, xf4]; exact ⟨hx0, Int.le_refl _, by omega, by omega, by decide⟩) (Nat.le_refl _)
  · have i7 : (x2.toInt = (0 : Int)) = False := vq_ne c5 rfl (by decide +kernel)
    exact ((c5 (iv_one h2 (iv_c 0 (a := 0) (b := 0) (by decide +kernel)) (by decide +kernel)))).elim

theorem ca_X12_rowFrom_e0  {e1 e2 d1 d2 : Int} {q : sgLwn} {o : sgO}  (X : CallFix p m c cc nL s args sg_tbl own) (hK : va_K D vwCl tys s) (hG : sgG (KE e1 e2 (-1) (-1) d1 d2 (zQ q o) P) D vwCl (fun q : Nat => base ≤ q) tys ad ks H) (hC : sgC base s) (hA : ∀ q : Nat, A q → base ≤ q) (hS : va_S A s.heap H locs) (hb : base ≤ s.heap.size) (x0 : Int32) (x1 : Int32) (h1 : iv 0 29 x1) (x2 : Int32) (h2 : iv 0 0 x2) (a3 : Nat) (h3 : isK ad ks 50 a3) (hr0 : 1 ≤ q.1 0 ∧ q.1 0 ≤ 6) (hr1 : 1 ≤ q.1 1 ∧ q.1 1 ≤ 5) (hd0 : 0 ≤ d1 ∧ d2 ≤ 6) (hl : Cond.methodLink own index yX12_rowFrom ∈ sg_tbl) (hsize : ls.size = nL) (hst : st0 = [.int x0, .int x1, .int x2, .ref a3].reverse ++ rest) (hW : (rest.map fun v => v.category).sum ≤ 8) (hR : 2 ≤ R.frames ∧ 49 ≤ R.locals) (hf : cells ≤ R.cells ∧ slots ≤ R.slots) (hdg : decode cc pc = .ok (.invokestatic index, 3)) (kk : ∀ (r : Int32) (locs1 : List Loc), (fun r : Int32 => r.toInt = rwV x0 (q.1 0) (q.1 1) x1.toInt 0) r → va_S A s.heap H locs1 → W p l e R s m args below meth c H locs1 cells slots Q (F0 m (pc + 3) ls (.int r :: rest))) : W p l e R s m args below meth c H locs cells slots Q (F0 m pc ls st0) :=
  sg_callPSi X hK hG hC hA hS hb (m_X12_rowFrom_e0 l x0 x1 h1 x2 h2 a3 h3 hr0 hr1 hd0) wl_7_204 wl_1_13 wl_7_203 (n := 4) (by decide +kernel) rfl rfl rfl hl hsize hst hW hR hf hdg kk

set_option maxHeartbeats 8000000 in
set_option maxRecDepth 100000 in
theorem m_X12_rowFrom_e1 (l : Launch) {D : va_G} {base : Nat} {tys : List (ClassId × FieldType)} {ad ks : List Nat} {P : sgPm}{e1 e2 d1 d2 : Int} {q : sgLwn} {o : sgO}  {Hx : Heap} (x0 : Int32) (x1 : Int32) (h1 : iv 0 29 x1) (x2 : Int32) (h2 : iv 1 1 x2) (a3 : Nat) (h3 : isK ad ks 50 a3) (hr0 : 1 ≤ q.1 0 ∧ q.1 0 ≤ 6) (hr1 : 1 ≤ q.1 1 ∧ q.1 1 ≤ 5) (hd0 : 0 ≤ d1 ∧ d2 ≤ 6) : sgPi l (KE e1 e2 (-1) (-1) d1 d2 (zQ q o) P) D vwCl base tys ad ks Hx yX12_rowFrom cX12_rowFrom 9 (some .int) ({ frames := 1, cells := 0, slots := 0, locals := 21 }) [.int x0, .int x1, .int x2, .ref a3] (fun r : Int32 => r.toInt = rwV x0 (q.1 0) (q.1 1) x1.toInt 1) := by
  refine sg_ofP (Pq := fun Hx => va_Qi (fun r (_ : Unit) => (fun r : Int32 => r.toInt = rwV x0 (q.1 0) (q.1 1) x1.toInt 1) r) (fun _ t => t.heap = Hx) (fun _ : Nat => False)) (by decide +kernel) (Nat.le_of_ble_eq_true rfl) (fun p e s m below meth c X hr hlk hb hK hC hG ls hl => ?_)
  have hS : va_S (fun _ : Nat => False) s.heap s.heap [] := va_S.rf
  have hl : lv_has ls 9 [(0, .int x0), (1, .int x1), (2, .int x2), (3, .ref a3)] := hl
  have hm0 : 0 ≤ x1.toInt % (q.1 0) := Int.emod_nonneg _ (by have := hr0.1; omega)
  have hm1 : 0 ≤ x1.toInt / (q.1 0) := Int.ediv_nonneg (by have := h1.1; omega) (by have := hr0.1; omega)
  refine lv_iload_n X.1 X.2.1 dX12_rowFrom_0 rfl (lv_at hl 1 rfl) ?_
  refine lv_aload_n X.1 X.2.1 dX12_rowFrom_1 rfl (lv_at hl 3 rfl) ?_
  refine lv_iconst (v := 0) X.1 X.2.1 dX12_rowFrom_2 (by decide +kernel) ?_
  refine al_50e X hK hG h3 (iv_vpin (iv_c 0 (a := 0) (b := 0) (by decide +kernel)) (by decide +kernel)) dX12_rowFrom_3 (fun f1 hf1 => ?_)
  have xf1 : f1.toInt = (q.1 0) := zg_r (q := q) (o := o) (sg_cl (iv_c 0 (a := 0) (b := 0) (by decide +kernel)) (by decide)) (by decide) hf1
  have yf1 : iv 1 6 f1 := vq_of xf1 hr0
  refine lv_irem X.1 X.2.1 dX12_rowFrom_4 (iv_ne0 yf1 (by decide +kernel)) ?_
  refine lv_topi (fun f2 ef2 => ?_)
  have xf2 : f2.toInt = (x1.toInt % (q.1 0)) := vq_rem ef2 h1 yf1 (by decide +kernel) rfl xf1
  refine lv_istore (lv' := [(4, .int f2), (0, .int x0), (1, .int x1), (2, .int x2), (3, .ref a3)]) X.1 X.2.1 dX12_rowFrom_5 hl (by decide) rfl (fun ls hl => ?_)
  refine lv_iload_n X.1 X.2.1 dX12_rowFrom_7 rfl (lv_at hl 2 rfl) ?_
  refine lv_aload_n X.1 X.2.1 dX12_rowFrom_8 rfl (lv_at hl 4 rfl) ?_
  refine lv_iconst (v := 0) X.1 X.2.1 dX12_rowFrom_9 (by decide +kernel) ?_
  refine al_50e X hK hG h3 (iv_vpin (iv_c 0 (a := 0) (b := 0) (by decide +kernel)) (by decide +kernel)) dX12_rowFrom_10 (fun f3 hf3 => ?_)
  have xf3 : f3.toInt = (q.1 0) := zg_r (q := q) (o := o) (sg_cl (iv_c 0 (a := 0) (b := 0) (by decide +kernel)) (by decide)) (by decide) hf3
  have yf3 : iv 1 6 f3 := vq_of xf3 hr0
  refine lv_idiv X.1 X.2.1 dX12_rowFrom_11 (iv_ne0 yf3 (by decide +kernel)) ?_
  refine lv_topi (fun f4 ef4 => ?_)
  have xf4 : f4.toInt = (x1.toInt / (q.1 0)) := vq_div ef4 h1 yf3 (by decide +kernel) rfl xf3
  refine lv_istore (lv' := [(5, .int f4), (4, .int f2), (0, .int x0), (1, .int x1), (2, .int x2), (3, .ref a3)]) X.1 X.2.1 dX12_rowFrom_12 hl (by decide) rfl (fun ls hl => ?_)
  refine lv_iload_n X.1 X.2.1 dX12_rowFrom_14 rfl (lv_at hl 4 rfl) ?_
  refine lv_if_eq (tgt := 23) X.1 X.2.1 dX12_rowFrom_15 (by decide) (fun c5 => ?_) (fun c5 => ?_)
  · have i6 : x2.toInt = (0 : Int) := vq_eq c5 rfl (by decide +kernel)
    exact ((iv_no (a := 1) (b := 0) (iv_eqm c5 h2 (iv_c 0 (a := 0) (b := 0) (by decide +kernel)) (by decide +kernel)) (by decide +kernel))).elim
  · have i7 : (x2.toInt = (0 : Int)) = False := vq_ne c5 rfl (by decide +kernel)
    refine lv_iload_n X.1 X.2.1 dX12_rowFrom_18 rfl (lv_at hl 4 rfl) ?_
    refine lv_iconst (v := 2) X.1 X.2.1 dX12_rowFrom_19 (by decide +kernel) ?_
    refine lv_icmp_ne (tgt := 27) X.1 X.2.1 dX12_rowFrom_20 (by decide) (fun c8 => ?_) (fun c8 => ?_)
    · have i9 : (x2.toInt = (2 : Int)) = False := vq_ne c8 rfl (by decide +kernel)
      refine lv_iload_n X.1 X.2.1 dX12_rowFrom_27 rfl (lv_at hl 4 rfl) ?_
      refine lv_iconst (v := 3) X.1 X.2.1 dX12_rowFrom_28 (by decide +kernel) ?_
      refine lv_icmp_ne (tgt := 36) X.1 X.2.1 dX12_rowFrom_29 (by decide) (fun c11 => ?_) (fun c11 => ?_)
      · have i12 : (x2.toInt = (3 : Int)) = False := vq_ne c11 rfl (by decide +kernel)
        refine lv_iconst (v := 0) X.1 X.2.1 dX12_rowFrom_36 (by decide +kernel) ?_
        refine lv_istore (lv' := [(6, .int 0), (5, .int f4), (4, .int f2), (0, .int x0), (1, .int x1), (2, .int x2), (3, .ref a3)]) X.1 X.2.1 dX12_rowFrom_37 hl (by decide) rfl (fun ls hl => ?_)
        refine lv_iload_n X.1 X.2.1 dX12_rowFrom_39 rfl (lv_at hl 5 rfl) ?_
        refine lv_if_ne (tgt := 47) X.1 X.2.1 dX12_rowFrom_40 (by decide) (fun c14 => ?_) (fun c14 => ?_)
        · have i15 : (x2.toInt = (0 : Int)) = False := vq_ne c14 rfl (by decide +kernel)
          refine lv_iconst (v := 1) X.1 X.2.1 dX12_rowFrom_47 (by decide +kernel) ?_
          refine lv_istore (lv' := [(7, .int 1), (6, .int 0), (5, .int f4), (4, .int f2), (0, .int x0), (1, .int x1), (2, .int x2), (3, .ref a3)]) X.1 X.2.1 dX12_rowFrom_48 hl (by decide) rfl (fun ls hl => ?_)
          refine lv_iconst (v := 0) X.1 X.2.1 dX12_rowFrom_50 (by decide +kernel) ?_
          refine lv_istore (lv' := [(8, .int 0), (7, .int 1), (6, .int 0), (5, .int f4), (4, .int f2), (0, .int x0), (1, .int x1), (2, .int x2), (3, .ref a3)]) X.1 X.2.1 dX12_rowFrom_51 hl (by decide) rfl (fun ls hl => ?_)
          have B17_53 : ∀ (N : Nat) (locs : List Loc) (ls : Array Slot) (z17_4 : Int32) (z17_5 : Int32) (z17_8 : Int32), va_S (fun _ : Nat => False) s.heap s.heap locs → lv_has ls 9 [(0, .int x0), (3, .ref a3), (4, .int z17_4), (5, .int z17_5), (6, .int 0), (7, .int 1), (8, .int z17_8)] → iv 0 5 z17_4 → iv 0 29 z17_5 → iv 0 6 z17_8 → ((z17_8 : Int32).toInt + rwF x0 (q.1 0) (q.1 1) 0 1 (12 - (z17_8 : Int32).toInt).toNat (z17_4 : Int32).toInt (z17_5 : Int32).toInt = rwV x0 (q.1 0) (q.1 1) x1.toInt 1 ∧ 0 ≤ (z17_8 : Int32).toInt ∧ (z17_4 : Int32).toInt = x1.toInt % (q.1 0) + 0 * (z17_8 : Int32).toInt ∧ (z17_5 : Int32).toInt = x1.toInt / (q.1 0) + 1 * (z17_8 : Int32).toInt ∧ (z17_8 : Int32).toInt ≤ 6) → (30 - z17_5.toInt).toNat ≤ N → W p l e (headSpec (Cond.code yX12_rowFrom cX12_rowFrom 9 (some .int) :: sg_tbl) ({ frames := 1, cells := 0, slots := 0, locals := 21 })).room s m #[.int x0, .int x1, .int x2, .ref a3] below meth c s.heap locs 0 0 (MQ below (va_Qi (fun r (_ : Unit) => (fun r : Int32 => r.toInt = rwV x0 (q.1 0) (q.1 1) x1.toInt 1) r) (fun _ t => t.heap = s.heap) (fun _ : Nat => False)) #[.int x0, .int x1, .int x2, .ref a3] s 0 0 (fun _ : Nat => False)) (F0 m 53 ls []) := by
            intro N; induction N with
            | zero =>
              intro locs ls z17_4 z17_5 z17_8 hS hl hz17_4 hz17_5 hz17_8 xf17 hN
              exact absurd hN (by have := iv_up hz17_5; omega)
            | succ N ih17 =>
              intro locs ls z17_4 z17_5 z17_8 hS hl hz17_4 hz17_5 hz17_8 xf17 hN17
              refine lv_iload X.1 X.2.1 dX12_rowFrom_53 (lv_at hl 2 rfl) ?_
              refine lv_if_lt (tgt := 110) X.1 X.2.1 dX12_rowFrom_55 (by decide) (fun c18 => ?_) (fun c18 => ?_)
              · have i19 : z17_4.toInt < (0 : Int) := vq_lt c18 rfl (by decide +kernel)
                exact ((iv_no (iv_lt (b' := (-1)) c18 hz17_4 (iv_c 0 (a := 0) (b := 0) (by decide +kernel)) (by decide +kernel)) (by decide +kernel))).elim
              · have i20 : ¬ z17_4.toInt < (0 : Int) := vq_le (iv_ge_of c18) (by decide +kernel) rfl
                refine lv_iload X.1 X.2.1 dX12_rowFrom_58 (lv_at hl 2 rfl) ?_
                refine lv_aload_n X.1 X.2.1 dX12_rowFrom_60 rfl (lv_at hl 1 rfl) ?_
                refine lv_iconst (v := 0) X.1 X.2.1 dX12_rowFrom_61 (by decide +kernel) ?_
                refine al_50e X hK hG h3 (iv_vpin (iv_c 0 (a := 0) (b := 0) (by decide +kernel)) (by decide +kernel)) dX12_rowFrom_62 (fun f21 hf21 => ?_)
                have xf21 : f21.toInt = (q.1 0) := zg_r (q := q) (o := o) (sg_cl (iv_c 0 (a := 0) (b := 0) (by decide +kernel)) (by decide)) (by decide) hf21
                have yf21 : iv 1 6 f21 := vq_of xf21 hr0
                refine lv_icmp_ge (tgt := 110) X.1 X.2.1 dX12_rowFrom_63 (by decide) (fun c22 => ?_) (fun c22 => ?_)
                · have i23 : ¬ z17_4.toInt < (q.1 0) := vq_le c22 xf21 rfl
                  refine lv_iload X.1 X.2.1 dX12_rowFrom_110 (lv_at hl 6 rfl) ?_
                  have hno := rwF_n (s := x0) (w := (q.1 0)) (h := (q.1 1)) (dx := 0) (dy := 1) (x := z17_4.toInt) (y := z17_5.toInt) (m := (12 - z17_8.toInt).toNat) (by have z := xf17.2.2.2.2; omega) (Or.inr (Or.inl i23))
                  have hre : z17_8.toInt = rwV x0 (q.1 0) (q.1 1) x1.toInt 1 := by have z := xf17.1; omega
                  exact sg_iretP X hr hlk hS hre dX12_rowFrom_112
                · have i24 : z17_4.toInt < (q.1 0) := vq_lt (iv_gt_of c22) rfl xf21
                  refine lv_iload X.1 X.2.1 dX12_rowFrom_66 (lv_at hl 3 rfl) ?_
                  refine lv_aload_n X.1 X.2.1 dX12_rowFrom_68 rfl (lv_at hl 1 rfl) ?_
                  refine lv_iconst (v := 1) X.1 X.2.1 dX12_rowFrom_69 (by decide +kernel) ?_
                  refine al_50e X hK hG h3 (iv_vpin (iv_c 1 (a := 1) (b := 1) (by decide +kernel)) (by decide +kernel)) dX12_rowFrom_70 (fun f25 hf25 => ?_)
                  have xf25 : f25.toInt = (q.1 1) := zg_r (q := q) (o := o) (sg_cl (iv_c 1 (a := 1) (b := 1) (by decide +kernel)) (by decide)) (by decide) hf25
                  have yf25 : iv 1 5 f25 := vq_of xf25 hr1
                  refine lv_icmp_ge (tgt := 110) X.1 X.2.1 dX12_rowFrom_71 (by decide) (fun c26 => ?_) (fun c26 => ?_)
                  · have i27 : ¬ z17_5.toInt < (q.1 1) := vq_le c26 xf25 rfl
                    refine lv_iload X.1 X.2.1 dX12_rowFrom_110 (lv_at hl 6 rfl) ?_
                    have hno := rwF_n (s := x0) (w := (q.1 0)) (h := (q.1 1)) (dx := 0) (dy := 1) (x := z17_4.toInt) (y := z17_5.toInt) (m := (12 - z17_8.toInt).toNat) (by have z := xf17.2.2.2.2; omega) (Or.inr (Or.inr (Or.inl i27)))
                    have hre : z17_8.toInt = rwV x0 (q.1 0) (q.1 1) x1.toInt 1 := by have z := xf17.1; omega
                    exact sg_iretP X hr hlk hS hre dX12_rowFrom_112
                  · have i28 : z17_5.toInt < (q.1 1) := vq_lt (iv_gt_of c26) rfl xf25
                    refine lv_iload_n X.1 X.2.1 dX12_rowFrom_74 rfl (lv_at hl 0 rfl) ?_
                    refine lv_iload X.1 X.2.1 dX12_rowFrom_75 (lv_at hl 3 rfl) ?_
                    refine lv_aload_n X.1 X.2.1 dX12_rowFrom_77 rfl (lv_at hl 1 rfl) ?_
                    refine lv_iconst (v := 0) X.1 X.2.1 dX12_rowFrom_78 (by decide +kernel) ?_
                    refine al_50e X hK hG h3 (iv_vpin (iv_c 0 (a := 0) (b := 0) (by decide +kernel)) (by decide +kernel)) dX12_rowFrom_79 (fun f29 hf29 => ?_)
                    have xf29 : f29.toInt = (q.1 0) := zg_r (q := q) (o := o) (sg_cl (iv_c 0 (a := 0) (b := 0) (by decide +kernel)) (by decide)) (by decide) hf29
                    have yf29 : iv 1 6 f29 := vq_of xf29 hr0
                    refine lv_imul X.1 X.2.1 dX12_rowFrom_80 ?_
                    refine lv_topi (fun f30 ef30 => ?_)
                    have xf30 : f30.toInt = (z17_5.toInt * (q.1 0)) := sg_exmul ef30 (iv_lt (b' := 4) (iv_gt_of c26) hz17_5 yf25 (by decide +kernel)) yf29 (by decide +kernel) rfl xf29
                    refine lv_iload X.1 X.2.1 dX12_rowFrom_81 (lv_at hl 2 rfl) ?_
                    refine lv_iadd X.1 X.2.1 dX12_rowFrom_83 ?_
                    refine lv_topi (fun f31 ef31 => ?_)
                    have xf31 : f31.toInt = ((z17_5.toInt * (q.1 0)) + z17_4.toInt) := sg_exadd ef31 (iv_mul (a' := 0) (b' := 24) ef30 (iv_lt (b' := 4) (iv_gt_of c26) hz17_5 yf25 (by decide +kernel)) yf29 (by decide +kernel)) hz17_4 (by decide +kernel) xf30 rfl
                    refine ca_X12_has_e X hK (ke_toKT hG (by decide) (by decide) hd0.1 hd0.2) hC (fun _ h => h.elim) hS hb x0 f31 wl_7_174 hl.1 (rest := []) rfl (Nat.le_of_ble_eq_true rfl) ⟨Nat.le_of_ble_eq_true rfl, Nat.le_of_ble_eq_true rfl⟩ ⟨Nat.le_of_ble_eq_true rfl, Nat.le_of_ble_eq_true rfl⟩ dX12_rowFrom_84 (fun f32 locs hf32 hS => ?_)
                    refine lv_if_eq (tgt := 110) X.1 X.2.1 dX12_rowFrom_87 (by decide) (fun c33 => ?_) (fun c33 => ?_)
                    · have j34 := vq_says0 hf32 c33
                      have k35 : ((x0 >>> ((Int32.ofInt ((z17_5.toInt * (q.1 0)) + z17_4.toInt)) &&& 31)) &&& 1 = 1) = False := by have z := j34; rw [(vq_oi (x := f31) xf31)] at z; exact z
                      refine lv_iload X.1 X.2.1 dX12_rowFrom_110 (lv_at hl 6 rfl) ?_
                      have hno := rwF_n (s := x0) (w := (q.1 0)) (h := (q.1 1)) (dx := 0) (dy := 1) (x := z17_4.toInt) (y := z17_5.toInt) (m := (12 - z17_8.toInt).toNat) (by have z := xf17.2.2.2.2; omega) (Or.inr (Or.inr (Or.inr (lwHas_f k35))))
                      have hre : z17_8.toInt = rwV x0 (q.1 0) (q.1 1) x1.toInt 1 := by have z := xf17.1; omega
                      exact sg_iretP X hr hlk hS hre dX12_rowFrom_112
                    · have j36 := vq_says1 hf32 c33
                      have k37 : (x0 >>> ((Int32.ofInt ((z17_5.toInt * (q.1 0)) + z17_4.toInt)) &&& 31)) &&& 1 = 1 := by have z := j36; rw [(vq_oi (x := f31) xf31)] at z; exact z
                      obtain ⟨y38, ey38⟩ : ∃ y : Int32, y = z17_8 + Int32.ofInt 1 := ⟨_, rfl⟩
                      have xy38 : y38.toInt = (z17_8.toInt + 1) := sg_exadd ey38 hz17_8 (iv_c _ (a := 1) (b := 1) (by decide +kernel)) (by decide +kernel) rfl (by decide +kernel)
                      refine lv_iinc (v := y38) (lv' := [(8, .int y38), (0, .int x0), (3, .ref a3), (4, .int z17_4), (5, .int z17_5), (6, .int 0), (7, .int 1)]) X.1 X.2.1 dX12_rowFrom_90 hl (k := 6) rfl ey38.symm (by decide) rfl (fun ls hl => ?_)
                      refine lv_iload X.1 X.2.1 dX12_rowFrom_93 (lv_at hl 3 rfl) ?_
                      refine lv_iload X.1 X.2.1 dX12_rowFrom_95 (lv_at hl 5 rfl) ?_
                      refine lv_iadd X.1 X.2.1 dX12_rowFrom_97 ?_
                      refine lv_topi (fun f39 ef39 => ?_)
                      have xf39 : f39.toInt = (z17_4.toInt + 0) := sg_exadd ef39 hz17_4 (iv_c 0 (a := 0) (b := 0) (by decide +kernel)) (by decide +kernel) rfl (by decide +kernel)
                      refine lv_istore (lv' := [(4, .int f39), (8, .int y38), (0, .int x0), (3, .ref a3), (5, .int z17_5), (6, .int 0), (7, .int 1)]) X.1 X.2.1 dX12_rowFrom_98 hl (by decide) rfl (fun ls hl => ?_)
                      refine lv_iload X.1 X.2.1 dX12_rowFrom_100 (lv_at hl 4 rfl) ?_
                      refine lv_iload X.1 X.2.1 dX12_rowFrom_102 (lv_at hl 6 rfl) ?_
                      refine lv_iadd X.1 X.2.1 dX12_rowFrom_104 ?_
                      refine lv_topi (fun f40 ef40 => ?_)
                      have xf40 : f40.toInt = (z17_5.toInt + 1) := sg_exadd ef40 (iv_lt (b' := 4) (iv_gt_of c26) hz17_5 yf25 (by decide +kernel)) (iv_c 1 (a := 1) (b := 1) (by decide +kernel)) (by decide +kernel) rfl (by decide +kernel)
                      refine lv_istore (lv' := [(5, .int f40), (4, .int f39), (8, .int y38), (0, .int x0), (3, .ref a3), (6, .int 0), (7, .int 1)]) X.1 X.2.1 dX12_rowFrom_105 hl (by decide) rfl (fun ls hl => ?_)
                      refine lv_goto (tgt := 53) X.1 X.2.1 dX12_rowFrom_107 (by decide) ?_
                      have hst := rwF_s (dx := 0) (dy := 1) (k := (12 - (z17_8.toInt + 1)).toNat) (m := (12 - z17_8.toInt).toNat) (by have z := xf17.2.2.2.2; have z2 := xf17.2.1; omega) i20 i24 i28 (lwHas_t k37)
                      obtain ⟨xa17, xb17, xc17, xd17, xe17⟩ := xf17
                      have hlx := i24
                      have hly := i28
                      exact ih17 _ _ f39 f40 y38 hS (lv_sub hl [3, 4, 1, 0, 5, 6, 2] rfl) (iv_add (a' := 0) (b' := 5) ef39 hz17_4 (iv_c 0 (a := 0) (b := 0) (by decide +kernel)) (by decide +kernel)) (iv_of (iv_add (a' := 1) (b' := 5) ef40 (iv_lt (b' := 4) (iv_gt_of c26) hz17_5 yf25 (by decide +kernel)) (iv_c 1 (a := 1) (b := 1) (by decide +kernel)) (by decide +kernel)) (a' := 0) (b' := 29) (by decide +kernel)) ⟨by omega, by omega⟩ (by rw [xy38, xf39, xf40]; exact ⟨by omega, by omega, by omega, by omega, by omega⟩) (iv_stepU ef40 (iv_lt (b' := 4) (iv_gt_of c26) hz17_5 yf25 (by decide +kernel)) (by decide +kernel) hN17)
          have hx0 : (0 : Int) + rwF x0 (q.1 0) (q.1 1) 0 1 (12 - (0 : Int)).toNat (x1.toInt % (q.1 0)) (x1.toInt / (q.1 0)) = rwV x0 (q.1 0) (q.1 1) x1.toInt 1 := by
            rw [Int.zero_add]
            rfl
          exact B17_53 _ _ _ f2 f4 0 hS (lv_sub hl [5, 8, 4, 3, 2, 1, 0] rfl) (iv_rem (a' := 0) (b' := 5) ef2 h1 yf1 (by decide +kernel)) (iv_div (a' := 0) (b' := 29) ef4 h1 yf3 (by decide +kernel)) (iv_of (iv_c 0 (a := 0) (b := 0) (by decide +kernel)) (a' := 0) (b' := 6) (by decide +kernel)) (by rw [show (0 : Int32).toInt = 0 from by decide +kernel, xf2, xf4]; exact ⟨hx0, Int.le_refl _, by omega, by omega, by decide⟩) (Nat.le_refl _)
        · have i16 : x2.toInt = (0 : Int) := vq_eq c14 rfl (by decide +kernel)
          exact ((iv_no (a := 1) (b := 0) (iv_eqm c14 h2 (iv_c 0 (a := 0) (b := 0) (by decide +kernel)) (by decide +kernel)) (by decide +kernel))).elim
      · have i13 : x2.toInt = (3 : Int) := vq_eq c11 rfl (by decide +kernel)
        exact ((iv_no (a := 3) (b := 1) (iv_eqm c11 h2 (iv_c 3 (a := 3) (b := 3) (by decide +kernel)) (by decide +kernel)) (by decide +kernel))).elim
    · have i10 : x2.toInt = (2 : Int) := vq_eq c8 rfl (by decide +kernel)
      exact ((iv_no (a := 2) (b := 1) (iv_eqm c8 h2 (iv_c 2 (a := 2) (b := 2) (by decide +kernel)) (by decide +kernel)) (by decide +kernel))).elim

theorem ca_X12_rowFrom_e1  {e1 e2 d1 d2 : Int} {q : sgLwn} {o : sgO}  (X : CallFix p m c cc nL s args sg_tbl own) (hK : va_K D vwCl tys s) (hG : sgG (KE e1 e2 (-1) (-1) d1 d2 (zQ q o) P) D vwCl (fun q : Nat => base ≤ q) tys ad ks H) (hC : sgC base s) (hA : ∀ q : Nat, A q → base ≤ q) (hS : va_S A s.heap H locs) (hb : base ≤ s.heap.size) (x0 : Int32) (x1 : Int32) (h1 : iv 0 29 x1) (x2 : Int32) (h2 : iv 1 1 x2) (a3 : Nat) (h3 : isK ad ks 50 a3) (hr0 : 1 ≤ q.1 0 ∧ q.1 0 ≤ 6) (hr1 : 1 ≤ q.1 1 ∧ q.1 1 ≤ 5) (hd0 : 0 ≤ d1 ∧ d2 ≤ 6) (hl : Cond.methodLink own index yX12_rowFrom ∈ sg_tbl) (hsize : ls.size = nL) (hst : st0 = [.int x0, .int x1, .int x2, .ref a3].reverse ++ rest) (hW : (rest.map fun v => v.category).sum ≤ 8) (hR : 2 ≤ R.frames ∧ 49 ≤ R.locals) (hf : cells ≤ R.cells ∧ slots ≤ R.slots) (hdg : decode cc pc = .ok (.invokestatic index, 3)) (kk : ∀ (r : Int32) (locs1 : List Loc), (fun r : Int32 => r.toInt = rwV x0 (q.1 0) (q.1 1) x1.toInt 1) r → va_S A s.heap H locs1 → W p l e R s m args below meth c H locs1 cells slots Q (F0 m (pc + 3) ls (.int r :: rest))) : W p l e R s m args below meth c H locs cells slots Q (F0 m pc ls st0) :=
  sg_callPSi X hK hG hC hA hS hb (m_X12_rowFrom_e1 l x0 x1 h1 x2 h2 a3 h3 hr0 hr1 hd0) wl_7_204 wl_1_13 wl_7_203 (n := 4) (by decide +kernel) rfl rfl rfl hl hsize hst hW hR hf hdg kk

set_option maxHeartbeats 8000000 in
set_option maxRecDepth 100000 in
theorem m_X12_rowFrom_e2 (l : Launch) {D : va_G} {base : Nat} {tys : List (ClassId × FieldType)} {ad ks : List Nat} {P : sgPm}{e1 e2 d1 d2 : Int} {q : sgLwn} {o : sgO}  {Hx : Heap} (x0 : Int32) (x1 : Int32) (h1 : iv 0 29 x1) (x2 : Int32) (h2 : iv 2 2 x2) (a3 : Nat) (h3 : isK ad ks 50 a3) (hr0 : 1 ≤ q.1 0 ∧ q.1 0 ≤ 6) (hr1 : 1 ≤ q.1 1 ∧ q.1 1 ≤ 5) (hd0 : 0 ≤ d1 ∧ d2 ≤ 6) : sgPi l (KE e1 e2 (-1) (-1) d1 d2 (zQ q o) P) D vwCl base tys ad ks Hx yX12_rowFrom cX12_rowFrom 9 (some .int) ({ frames := 1, cells := 0, slots := 0, locals := 21 }) [.int x0, .int x1, .int x2, .ref a3] (fun r : Int32 => r.toInt = rwV x0 (q.1 0) (q.1 1) x1.toInt 2) := by
  refine sg_ofP (Pq := fun Hx => va_Qi (fun r (_ : Unit) => (fun r : Int32 => r.toInt = rwV x0 (q.1 0) (q.1 1) x1.toInt 2) r) (fun _ t => t.heap = Hx) (fun _ : Nat => False)) (by decide +kernel) (Nat.le_of_ble_eq_true rfl) (fun p e s m below meth c X hr hlk hb hK hC hG ls hl => ?_)
  have hS : va_S (fun _ : Nat => False) s.heap s.heap [] := va_S.rf
  have hl : lv_has ls 9 [(0, .int x0), (1, .int x1), (2, .int x2), (3, .ref a3)] := hl
  have hm0 : 0 ≤ x1.toInt % (q.1 0) := Int.emod_nonneg _ (by have := hr0.1; omega)
  have hm1 : 0 ≤ x1.toInt / (q.1 0) := Int.ediv_nonneg (by have := h1.1; omega) (by have := hr0.1; omega)
  refine lv_iload_n X.1 X.2.1 dX12_rowFrom_0 rfl (lv_at hl 1 rfl) ?_
  refine lv_aload_n X.1 X.2.1 dX12_rowFrom_1 rfl (lv_at hl 3 rfl) ?_
  refine lv_iconst (v := 0) X.1 X.2.1 dX12_rowFrom_2 (by decide +kernel) ?_
  refine al_50e X hK hG h3 (iv_vpin (iv_c 0 (a := 0) (b := 0) (by decide +kernel)) (by decide +kernel)) dX12_rowFrom_3 (fun f1 hf1 => ?_)
  have xf1 : f1.toInt = (q.1 0) := zg_r (q := q) (o := o) (sg_cl (iv_c 0 (a := 0) (b := 0) (by decide +kernel)) (by decide)) (by decide) hf1
  have yf1 : iv 1 6 f1 := vq_of xf1 hr0
  refine lv_irem X.1 X.2.1 dX12_rowFrom_4 (iv_ne0 yf1 (by decide +kernel)) ?_
  refine lv_topi (fun f2 ef2 => ?_)
  have xf2 : f2.toInt = (x1.toInt % (q.1 0)) := vq_rem ef2 h1 yf1 (by decide +kernel) rfl xf1
  refine lv_istore (lv' := [(4, .int f2), (0, .int x0), (1, .int x1), (2, .int x2), (3, .ref a3)]) X.1 X.2.1 dX12_rowFrom_5 hl (by decide) rfl (fun ls hl => ?_)
  refine lv_iload_n X.1 X.2.1 dX12_rowFrom_7 rfl (lv_at hl 2 rfl) ?_
  refine lv_aload_n X.1 X.2.1 dX12_rowFrom_8 rfl (lv_at hl 4 rfl) ?_
  refine lv_iconst (v := 0) X.1 X.2.1 dX12_rowFrom_9 (by decide +kernel) ?_
  refine al_50e X hK hG h3 (iv_vpin (iv_c 0 (a := 0) (b := 0) (by decide +kernel)) (by decide +kernel)) dX12_rowFrom_10 (fun f3 hf3 => ?_)
  have xf3 : f3.toInt = (q.1 0) := zg_r (q := q) (o := o) (sg_cl (iv_c 0 (a := 0) (b := 0) (by decide +kernel)) (by decide)) (by decide) hf3
  have yf3 : iv 1 6 f3 := vq_of xf3 hr0
  refine lv_idiv X.1 X.2.1 dX12_rowFrom_11 (iv_ne0 yf3 (by decide +kernel)) ?_
  refine lv_topi (fun f4 ef4 => ?_)
  have xf4 : f4.toInt = (x1.toInt / (q.1 0)) := vq_div ef4 h1 yf3 (by decide +kernel) rfl xf3
  refine lv_istore (lv' := [(5, .int f4), (4, .int f2), (0, .int x0), (1, .int x1), (2, .int x2), (3, .ref a3)]) X.1 X.2.1 dX12_rowFrom_12 hl (by decide) rfl (fun ls hl => ?_)
  refine lv_iload_n X.1 X.2.1 dX12_rowFrom_14 rfl (lv_at hl 4 rfl) ?_
  refine lv_if_eq (tgt := 23) X.1 X.2.1 dX12_rowFrom_15 (by decide) (fun c5 => ?_) (fun c5 => ?_)
  · have i6 : x2.toInt = (0 : Int) := vq_eq c5 rfl (by decide +kernel)
    exact ((iv_no (a := 2) (b := 0) (iv_eqm c5 h2 (iv_c 0 (a := 0) (b := 0) (by decide +kernel)) (by decide +kernel)) (by decide +kernel))).elim
  · have i7 : (x2.toInt = (0 : Int)) = False := vq_ne c5 rfl (by decide +kernel)
    refine lv_iload_n X.1 X.2.1 dX12_rowFrom_18 rfl (lv_at hl 4 rfl) ?_
    refine lv_iconst (v := 2) X.1 X.2.1 dX12_rowFrom_19 (by decide +kernel) ?_
    refine lv_icmp_ne (tgt := 27) X.1 X.2.1 dX12_rowFrom_20 (by decide) (fun c8 => ?_) (fun c8 => ?_)
    · have i9 : (x2.toInt = (2 : Int)) = False := vq_ne c8 rfl (by decide +kernel)
      exact ((c8 (iv_one h2 (iv_c 2 (a := 2) (b := 2) (by decide +kernel)) (by decide +kernel)))).elim
    · have i10 : x2.toInt = (2 : Int) := vq_eq c8 rfl (by decide +kernel)
      refine lv_iconst (v := 1) X.1 X.2.1 dX12_rowFrom_23 (by decide +kernel) ?_
      refine lv_goto (tgt := 37) X.1 X.2.1 dX12_rowFrom_24 (by decide) ?_
      refine lv_istore (lv' := [(6, .int 1), (5, .int f4), (4, .int f2), (0, .int x0), (1, .int x1), (2, .int x2), (3, .ref a3)]) X.1 X.2.1 dX12_rowFrom_37 hl (by decide) rfl (fun ls hl => ?_)
      refine lv_iload_n X.1 X.2.1 dX12_rowFrom_39 rfl (lv_at hl 5 rfl) ?_
      refine lv_if_ne (tgt := 47) X.1 X.2.1 dX12_rowFrom_40 (by decide) (fun c11 => ?_) (fun c11 => ?_)
      · have i12 : (x2.toInt = (0 : Int)) = False := vq_ne c11 rfl (by decide +kernel)
        refine lv_iconst (v := 1) X.1 X.2.1 dX12_rowFrom_47 (by decide +kernel) ?_
        refine lv_istore (lv' := [(7, .int 1), (6, .int 1), (5, .int f4), (4, .int f2), (0, .int x0), (1, .int x1), (2, .int x2), (3, .ref a3)]) X.1 X.2.1 dX12_rowFrom_48 hl (by decide) rfl (fun ls hl => ?_)
        refine lv_iconst (v := 0) X.1 X.2.1 dX12_rowFrom_50 (by decide +kernel) ?_
        refine lv_istore (lv' := [(8, .int 0), (7, .int 1), (6, .int 1), (5, .int f4), (4, .int f2), (0, .int x0), (1, .int x1), (2, .int x2), (3, .ref a3)]) X.1 X.2.1 dX12_rowFrom_51 hl (by decide) rfl (fun ls hl => ?_)
        have B14_53 : ∀ (N : Nat) (locs : List Loc) (ls : Array Slot) (z14_4 : Int32) (z14_5 : Int32) (z14_8 : Int32), va_S (fun _ : Nat => False) s.heap s.heap locs → lv_has ls 9 [(0, .int x0), (3, .ref a3), (4, .int z14_4), (5, .int z14_5), (6, .int 1), (7, .int 1), (8, .int z14_8)] → iv 0 6 z14_4 → iv 0 29 z14_5 → iv 0 6 z14_8 → ((z14_8 : Int32).toInt + rwF x0 (q.1 0) (q.1 1) 1 1 (12 - (z14_8 : Int32).toInt).toNat (z14_4 : Int32).toInt (z14_5 : Int32).toInt = rwV x0 (q.1 0) (q.1 1) x1.toInt 2 ∧ 0 ≤ (z14_8 : Int32).toInt ∧ (z14_4 : Int32).toInt = x1.toInt % (q.1 0) + 1 * (z14_8 : Int32).toInt ∧ (z14_5 : Int32).toInt = x1.toInt / (q.1 0) + 1 * (z14_8 : Int32).toInt ∧ (z14_8 : Int32).toInt ≤ 6) → (7 - z14_4.toInt).toNat ≤ N → W p l e (headSpec (Cond.code yX12_rowFrom cX12_rowFrom 9 (some .int) :: sg_tbl) ({ frames := 1, cells := 0, slots := 0, locals := 21 })).room s m #[.int x0, .int x1, .int x2, .ref a3] below meth c s.heap locs 0 0 (MQ below (va_Qi (fun r (_ : Unit) => (fun r : Int32 => r.toInt = rwV x0 (q.1 0) (q.1 1) x1.toInt 2) r) (fun _ t => t.heap = s.heap) (fun _ : Nat => False)) #[.int x0, .int x1, .int x2, .ref a3] s 0 0 (fun _ : Nat => False)) (F0 m 53 ls []) := by
          intro N; induction N with
          | zero =>
            intro locs ls z14_4 z14_5 z14_8 hS hl hz14_4 hz14_5 hz14_8 xf14 hN
            exact absurd hN (by have := iv_up hz14_4; omega)
          | succ N ih14 =>
            intro locs ls z14_4 z14_5 z14_8 hS hl hz14_4 hz14_5 hz14_8 xf14 hN14
            refine lv_iload X.1 X.2.1 dX12_rowFrom_53 (lv_at hl 2 rfl) ?_
            refine lv_if_lt (tgt := 110) X.1 X.2.1 dX12_rowFrom_55 (by decide) (fun c15 => ?_) (fun c15 => ?_)
            · have i16 : z14_4.toInt < (0 : Int) := vq_lt c15 rfl (by decide +kernel)
              exact ((iv_no (iv_lt (b' := (-1)) c15 hz14_4 (iv_c 0 (a := 0) (b := 0) (by decide +kernel)) (by decide +kernel)) (by decide +kernel))).elim
            · have i17 : ¬ z14_4.toInt < (0 : Int) := vq_le (iv_ge_of c15) (by decide +kernel) rfl
              refine lv_iload X.1 X.2.1 dX12_rowFrom_58 (lv_at hl 2 rfl) ?_
              refine lv_aload_n X.1 X.2.1 dX12_rowFrom_60 rfl (lv_at hl 1 rfl) ?_
              refine lv_iconst (v := 0) X.1 X.2.1 dX12_rowFrom_61 (by decide +kernel) ?_
              refine al_50e X hK hG h3 (iv_vpin (iv_c 0 (a := 0) (b := 0) (by decide +kernel)) (by decide +kernel)) dX12_rowFrom_62 (fun f18 hf18 => ?_)
              have xf18 : f18.toInt = (q.1 0) := zg_r (q := q) (o := o) (sg_cl (iv_c 0 (a := 0) (b := 0) (by decide +kernel)) (by decide)) (by decide) hf18
              have yf18 : iv 1 6 f18 := vq_of xf18 hr0
              refine lv_icmp_ge (tgt := 110) X.1 X.2.1 dX12_rowFrom_63 (by decide) (fun c19 => ?_) (fun c19 => ?_)
              · have i20 : ¬ z14_4.toInt < (q.1 0) := vq_le c19 xf18 rfl
                refine lv_iload X.1 X.2.1 dX12_rowFrom_110 (lv_at hl 6 rfl) ?_
                have hno := rwF_n (s := x0) (w := (q.1 0)) (h := (q.1 1)) (dx := 1) (dy := 1) (x := z14_4.toInt) (y := z14_5.toInt) (m := (12 - z14_8.toInt).toNat) (by have z := xf14.2.2.2.2; omega) (Or.inr (Or.inl i20))
                have hre : z14_8.toInt = rwV x0 (q.1 0) (q.1 1) x1.toInt 2 := by have z := xf14.1; omega
                exact sg_iretP X hr hlk hS hre dX12_rowFrom_112
              · have i21 : z14_4.toInt < (q.1 0) := vq_lt (iv_gt_of c19) rfl xf18
                refine lv_iload X.1 X.2.1 dX12_rowFrom_66 (lv_at hl 3 rfl) ?_
                refine lv_aload_n X.1 X.2.1 dX12_rowFrom_68 rfl (lv_at hl 1 rfl) ?_
                refine lv_iconst (v := 1) X.1 X.2.1 dX12_rowFrom_69 (by decide +kernel) ?_
                refine al_50e X hK hG h3 (iv_vpin (iv_c 1 (a := 1) (b := 1) (by decide +kernel)) (by decide +kernel)) dX12_rowFrom_70 (fun f22 hf22 => ?_)
                have xf22 : f22.toInt = (q.1 1) := zg_r (q := q) (o := o) (sg_cl (iv_c 1 (a := 1) (b := 1) (by decide +kernel)) (by decide)) (by decide) hf22
                have yf22 : iv 1 5 f22 := vq_of xf22 hr1
                refine lv_icmp_ge (tgt := 110) X.1 X.2.1 dX12_rowFrom_71 (by decide) (fun c23 => ?_) (fun c23 => ?_)
                · have i24 : ¬ z14_5.toInt < (q.1 1) := vq_le c23 xf22 rfl
                  refine lv_iload X.1 X.2.1 dX12_rowFrom_110 (lv_at hl 6 rfl) ?_
                  have hno := rwF_n (s := x0) (w := (q.1 0)) (h := (q.1 1)) (dx := 1) (dy := 1) (x := z14_4.toInt) (y := z14_5.toInt) (m := (12 - z14_8.toInt).toNat) (by have z := xf14.2.2.2.2; omega) (Or.inr (Or.inr (Or.inl i24)))
                  have hre : z14_8.toInt = rwV x0 (q.1 0) (q.1 1) x1.toInt 2 := by have z := xf14.1; omega
                  exact sg_iretP X hr hlk hS hre dX12_rowFrom_112
                · have i25 : z14_5.toInt < (q.1 1) := vq_lt (iv_gt_of c23) rfl xf22
                  refine lv_iload_n X.1 X.2.1 dX12_rowFrom_74 rfl (lv_at hl 0 rfl) ?_
                  refine lv_iload X.1 X.2.1 dX12_rowFrom_75 (lv_at hl 3 rfl) ?_
                  refine lv_aload_n X.1 X.2.1 dX12_rowFrom_77 rfl (lv_at hl 1 rfl) ?_
                  refine lv_iconst (v := 0) X.1 X.2.1 dX12_rowFrom_78 (by decide +kernel) ?_
                  refine al_50e X hK hG h3 (iv_vpin (iv_c 0 (a := 0) (b := 0) (by decide +kernel)) (by decide +kernel)) dX12_rowFrom_79 (fun f26 hf26 => ?_)
                  have xf26 : f26.toInt = (q.1 0) := zg_r (q := q) (o := o) (sg_cl (iv_c 0 (a := 0) (b := 0) (by decide +kernel)) (by decide)) (by decide) hf26
                  have yf26 : iv 1 6 f26 := vq_of xf26 hr0
                  refine lv_imul X.1 X.2.1 dX12_rowFrom_80 ?_
                  refine lv_topi (fun f27 ef27 => ?_)
                  have xf27 : f27.toInt = (z14_5.toInt * (q.1 0)) := sg_exmul ef27 (iv_lt (b' := 4) (iv_gt_of c23) hz14_5 yf22 (by decide +kernel)) yf26 (by decide +kernel) rfl xf26
                  refine lv_iload X.1 X.2.1 dX12_rowFrom_81 (lv_at hl 2 rfl) ?_
                  refine lv_iadd X.1 X.2.1 dX12_rowFrom_83 ?_
                  refine lv_topi (fun f28 ef28 => ?_)
                  have xf28 : f28.toInt = ((z14_5.toInt * (q.1 0)) + z14_4.toInt) := sg_exadd ef28 (iv_mul (a' := 0) (b' := 24) ef27 (iv_lt (b' := 4) (iv_gt_of c23) hz14_5 yf22 (by decide +kernel)) yf26 (by decide +kernel)) (iv_lt (b' := 5) (iv_gt_of c19) hz14_4 yf18 (by decide +kernel)) (by decide +kernel) xf27 rfl
                  refine ca_X12_has_e X hK (ke_toKT hG (by decide) (by decide) hd0.1 hd0.2) hC (fun _ h => h.elim) hS hb x0 f28 wl_7_174 hl.1 (rest := []) rfl (Nat.le_of_ble_eq_true rfl) ⟨Nat.le_of_ble_eq_true rfl, Nat.le_of_ble_eq_true rfl⟩ ⟨Nat.le_of_ble_eq_true rfl, Nat.le_of_ble_eq_true rfl⟩ dX12_rowFrom_84 (fun f29 locs hf29 hS => ?_)
                  refine lv_if_eq (tgt := 110) X.1 X.2.1 dX12_rowFrom_87 (by decide) (fun c30 => ?_) (fun c30 => ?_)
                  · have j31 := vq_says0 hf29 c30
                    have k32 : ((x0 >>> ((Int32.ofInt ((z14_5.toInt * (q.1 0)) + z14_4.toInt)) &&& 31)) &&& 1 = 1) = False := by have z := j31; rw [(vq_oi (x := f28) xf28)] at z; exact z
                    refine lv_iload X.1 X.2.1 dX12_rowFrom_110 (lv_at hl 6 rfl) ?_
                    have hno := rwF_n (s := x0) (w := (q.1 0)) (h := (q.1 1)) (dx := 1) (dy := 1) (x := z14_4.toInt) (y := z14_5.toInt) (m := (12 - z14_8.toInt).toNat) (by have z := xf14.2.2.2.2; omega) (Or.inr (Or.inr (Or.inr (lwHas_f k32))))
                    have hre : z14_8.toInt = rwV x0 (q.1 0) (q.1 1) x1.toInt 2 := by have z := xf14.1; omega
                    exact sg_iretP X hr hlk hS hre dX12_rowFrom_112
                  · have j33 := vq_says1 hf29 c30
                    have k34 : (x0 >>> ((Int32.ofInt ((z14_5.toInt * (q.1 0)) + z14_4.toInt)) &&& 31)) &&& 1 = 1 := by have z := j33; rw [(vq_oi (x := f28) xf28)] at z; exact z
                    obtain ⟨y35, ey35⟩ : ∃ y : Int32, y = z14_8 + Int32.ofInt 1 := ⟨_, rfl⟩
                    have xy35 : y35.toInt = (z14_8.toInt + 1) := sg_exadd ey35 hz14_8 (iv_c _ (a := 1) (b := 1) (by decide +kernel)) (by decide +kernel) rfl (by decide +kernel)
                    refine lv_iinc (v := y35) (lv' := [(8, .int y35), (0, .int x0), (3, .ref a3), (4, .int z14_4), (5, .int z14_5), (6, .int 1), (7, .int 1)]) X.1 X.2.1 dX12_rowFrom_90 hl (k := 6) rfl ey35.symm (by decide) rfl (fun ls hl => ?_)
                    refine lv_iload X.1 X.2.1 dX12_rowFrom_93 (lv_at hl 3 rfl) ?_
                    refine lv_iload X.1 X.2.1 dX12_rowFrom_95 (lv_at hl 5 rfl) ?_
                    refine lv_iadd X.1 X.2.1 dX12_rowFrom_97 ?_
                    refine lv_topi (fun f36 ef36 => ?_)
                    have xf36 : f36.toInt = (z14_4.toInt + 1) := sg_exadd ef36 (iv_lt (b' := 5) (iv_gt_of c19) hz14_4 yf18 (by decide +kernel)) (iv_c 1 (a := 1) (b := 1) (by decide +kernel)) (by decide +kernel) rfl (by decide +kernel)
                    refine lv_istore (lv' := [(4, .int f36), (8, .int y35), (0, .int x0), (3, .ref a3), (5, .int z14_5), (6, .int 1), (7, .int 1)]) X.1 X.2.1 dX12_rowFrom_98 hl (by decide) rfl (fun ls hl => ?_)
                    refine lv_iload X.1 X.2.1 dX12_rowFrom_100 (lv_at hl 4 rfl) ?_
                    refine lv_iload X.1 X.2.1 dX12_rowFrom_102 (lv_at hl 6 rfl) ?_
                    refine lv_iadd X.1 X.2.1 dX12_rowFrom_104 ?_
                    refine lv_topi (fun f37 ef37 => ?_)
                    have xf37 : f37.toInt = (z14_5.toInt + 1) := sg_exadd ef37 (iv_lt (b' := 4) (iv_gt_of c23) hz14_5 yf22 (by decide +kernel)) (iv_c 1 (a := 1) (b := 1) (by decide +kernel)) (by decide +kernel) rfl (by decide +kernel)
                    refine lv_istore (lv' := [(5, .int f37), (4, .int f36), (8, .int y35), (0, .int x0), (3, .ref a3), (6, .int 1), (7, .int 1)]) X.1 X.2.1 dX12_rowFrom_105 hl (by decide) rfl (fun ls hl => ?_)
                    refine lv_goto (tgt := 53) X.1 X.2.1 dX12_rowFrom_107 (by decide) ?_
                    have hst := rwF_s (dx := 1) (dy := 1) (k := (12 - (z14_8.toInt + 1)).toNat) (m := (12 - z14_8.toInt).toNat) (by have z := xf14.2.2.2.2; have z2 := xf14.2.1; omega) i17 i21 i25 (lwHas_t k34)
                    obtain ⟨xa14, xb14, xc14, xd14, xe14⟩ := xf14
                    have hlx := i21
                    have hly := i25
                    exact ih14 _ _ f36 f37 y35 hS (lv_sub hl [3, 4, 1, 0, 5, 6, 2] rfl) (iv_of (iv_add (a' := 1) (b' := 6) ef36 (iv_lt (b' := 5) (iv_gt_of c19) hz14_4 yf18 (by decide +kernel)) (iv_c 1 (a := 1) (b := 1) (by decide +kernel)) (by decide +kernel)) (a' := 0) (b' := 6) (by decide +kernel)) (iv_of (iv_add (a' := 1) (b' := 5) ef37 (iv_lt (b' := 4) (iv_gt_of c23) hz14_5 yf22 (by decide +kernel)) (iv_c 1 (a := 1) (b := 1) (by decide +kernel)) (by decide +kernel)) (a' := 0) (b' := 29) (by decide +kernel)) ⟨by omega, by omega⟩ (by rw [xy35, xf36, xf37]; exact ⟨by omega, by omega, by omega, by omega, by omega⟩) (iv_stepU ef36 (iv_lt (b' := 5) (iv_gt_of c19) hz14_4 yf18 (by decide +kernel)) (by decide +kernel) hN14)
        have hx0 : (0 : Int) + rwF x0 (q.1 0) (q.1 1) 1 1 (12 - (0 : Int)).toNat (x1.toInt % (q.1 0)) (x1.toInt / (q.1 0)) = rwV x0 (q.1 0) (q.1 1) x1.toInt 2 := by
          rw [Int.zero_add]
          rfl
        exact B14_53 _ _ _ f2 f4 0 hS (lv_sub hl [5, 8, 4, 3, 2, 1, 0] rfl) (iv_of (iv_rem (a' := 0) (b' := 5) ef2 h1 yf1 (by decide +kernel)) (a' := 0) (b' := 6) (by decide +kernel)) (iv_div (a' := 0) (b' := 29) ef4 h1 yf3 (by decide +kernel)) (iv_of (iv_c 0 (a := 0) (b := 0) (by decide +kernel)) (a' := 0) (b' := 6) (by decide +kernel)) (by rw [show (0 : Int32).toInt = 0 from by decide +kernel, xf2, xf4]; exact ⟨hx0, Int.le_refl _, by omega, by omega, by decide⟩) (Nat.le_refl _)
      · have i13 : x2.toInt = (0 : Int) := vq_eq c11 rfl (by decide +kernel)
        exact ((iv_no (a := 2) (b := 0) (iv_eqm c11 h2 (iv_c 0 (a := 0) (b := 0) (by decide +kernel)) (by decide +kernel)) (by decide +kernel))).elim

theorem ca_X12_rowFrom_e2  {e1 e2 d1 d2 : Int} {q : sgLwn} {o : sgO}  (X : CallFix p m c cc nL s args sg_tbl own) (hK : va_K D vwCl tys s) (hG : sgG (KE e1 e2 (-1) (-1) d1 d2 (zQ q o) P) D vwCl (fun q : Nat => base ≤ q) tys ad ks H) (hC : sgC base s) (hA : ∀ q : Nat, A q → base ≤ q) (hS : va_S A s.heap H locs) (hb : base ≤ s.heap.size) (x0 : Int32) (x1 : Int32) (h1 : iv 0 29 x1) (x2 : Int32) (h2 : iv 2 2 x2) (a3 : Nat) (h3 : isK ad ks 50 a3) (hr0 : 1 ≤ q.1 0 ∧ q.1 0 ≤ 6) (hr1 : 1 ≤ q.1 1 ∧ q.1 1 ≤ 5) (hd0 : 0 ≤ d1 ∧ d2 ≤ 6) (hl : Cond.methodLink own index yX12_rowFrom ∈ sg_tbl) (hsize : ls.size = nL) (hst : st0 = [.int x0, .int x1, .int x2, .ref a3].reverse ++ rest) (hW : (rest.map fun v => v.category).sum ≤ 8) (hR : 2 ≤ R.frames ∧ 49 ≤ R.locals) (hf : cells ≤ R.cells ∧ slots ≤ R.slots) (hdg : decode cc pc = .ok (.invokestatic index, 3)) (kk : ∀ (r : Int32) (locs1 : List Loc), (fun r : Int32 => r.toInt = rwV x0 (q.1 0) (q.1 1) x1.toInt 2) r → va_S A s.heap H locs1 → W p l e R s m args below meth c H locs1 cells slots Q (F0 m (pc + 3) ls (.int r :: rest))) : W p l e R s m args below meth c H locs cells slots Q (F0 m pc ls st0) :=
  sg_callPSi X hK hG hC hA hS hb (m_X12_rowFrom_e2 l x0 x1 h1 x2 h2 a3 h3 hr0 hr1 hd0) wl_7_204 wl_1_13 wl_7_203 (n := 4) (by decide +kernel) rfl rfl rfl hl hsize hst hW hR hf hdg kk

set_option maxHeartbeats 8000000 in
set_option maxRecDepth 100000 in
theorem m_X12_rowFrom_e3 (l : Launch) {D : va_G} {base : Nat} {tys : List (ClassId × FieldType)} {ad ks : List Nat} {P : sgPm}{e1 e2 d1 d2 : Int} {q : sgLwn} {o : sgO}  {Hx : Heap} (x0 : Int32) (x1 : Int32) (h1 : iv 0 29 x1) (x2 : Int32) (h2 : iv 3 3 x2) (a3 : Nat) (h3 : isK ad ks 50 a3) (hr0 : 1 ≤ q.1 0 ∧ q.1 0 ≤ 6) (hr1 : 1 ≤ q.1 1 ∧ q.1 1 ≤ 5) (hd0 : 0 ≤ d1 ∧ d2 ≤ 6) : sgPi l (KE e1 e2 (-1) (-1) d1 d2 (zQ q o) P) D vwCl base tys ad ks Hx yX12_rowFrom cX12_rowFrom 9 (some .int) ({ frames := 1, cells := 0, slots := 0, locals := 21 }) [.int x0, .int x1, .int x2, .ref a3] (fun r : Int32 => r.toInt = rwV x0 (q.1 0) (q.1 1) x1.toInt 3) := by
  refine sg_ofP (Pq := fun Hx => va_Qi (fun r (_ : Unit) => (fun r : Int32 => r.toInt = rwV x0 (q.1 0) (q.1 1) x1.toInt 3) r) (fun _ t => t.heap = Hx) (fun _ : Nat => False)) (by decide +kernel) (Nat.le_of_ble_eq_true rfl) (fun p e s m below meth c X hr hlk hb hK hC hG ls hl => ?_)
  have hS : va_S (fun _ : Nat => False) s.heap s.heap [] := va_S.rf
  have hl : lv_has ls 9 [(0, .int x0), (1, .int x1), (2, .int x2), (3, .ref a3)] := hl
  have hm0 : 0 ≤ x1.toInt % (q.1 0) := Int.emod_nonneg _ (by have := hr0.1; omega)
  have hm1 : 0 ≤ x1.toInt / (q.1 0) := Int.ediv_nonneg (by have := h1.1; omega) (by have := hr0.1; omega)
  refine lv_iload_n X.1 X.2.1 dX12_rowFrom_0 rfl (lv_at hl 1 rfl) ?_
  refine lv_aload_n X.1 X.2.1 dX12_rowFrom_1 rfl (lv_at hl 3 rfl) ?_
  refine lv_iconst (v := 0) X.1 X.2.1 dX12_rowFrom_2 (by decide +kernel) ?_
  refine al_50e X hK hG h3 (iv_vpin (iv_c 0 (a := 0) (b := 0) (by decide +kernel)) (by decide +kernel)) dX12_rowFrom_3 (fun f1 hf1 => ?_)
  have xf1 : f1.toInt = (q.1 0) := zg_r (q := q) (o := o) (sg_cl (iv_c 0 (a := 0) (b := 0) (by decide +kernel)) (by decide)) (by decide) hf1
  have yf1 : iv 1 6 f1 := vq_of xf1 hr0
  refine lv_irem X.1 X.2.1 dX12_rowFrom_4 (iv_ne0 yf1 (by decide +kernel)) ?_
  refine lv_topi (fun f2 ef2 => ?_)
  have xf2 : f2.toInt = (x1.toInt % (q.1 0)) := vq_rem ef2 h1 yf1 (by decide +kernel) rfl xf1
  refine lv_istore (lv' := [(4, .int f2), (0, .int x0), (1, .int x1), (2, .int x2), (3, .ref a3)]) X.1 X.2.1 dX12_rowFrom_5 hl (by decide) rfl (fun ls hl => ?_)
  refine lv_iload_n X.1 X.2.1 dX12_rowFrom_7 rfl (lv_at hl 2 rfl) ?_
  refine lv_aload_n X.1 X.2.1 dX12_rowFrom_8 rfl (lv_at hl 4 rfl) ?_
  refine lv_iconst (v := 0) X.1 X.2.1 dX12_rowFrom_9 (by decide +kernel) ?_
  refine al_50e X hK hG h3 (iv_vpin (iv_c 0 (a := 0) (b := 0) (by decide +kernel)) (by decide +kernel)) dX12_rowFrom_10 (fun f3 hf3 => ?_)
  have xf3 : f3.toInt = (q.1 0) := zg_r (q := q) (o := o) (sg_cl (iv_c 0 (a := 0) (b := 0) (by decide +kernel)) (by decide)) (by decide) hf3
  have yf3 : iv 1 6 f3 := vq_of xf3 hr0
  refine lv_idiv X.1 X.2.1 dX12_rowFrom_11 (iv_ne0 yf3 (by decide +kernel)) ?_
  refine lv_topi (fun f4 ef4 => ?_)
  have xf4 : f4.toInt = (x1.toInt / (q.1 0)) := vq_div ef4 h1 yf3 (by decide +kernel) rfl xf3
  refine lv_istore (lv' := [(5, .int f4), (4, .int f2), (0, .int x0), (1, .int x1), (2, .int x2), (3, .ref a3)]) X.1 X.2.1 dX12_rowFrom_12 hl (by decide) rfl (fun ls hl => ?_)
  refine lv_iload_n X.1 X.2.1 dX12_rowFrom_14 rfl (lv_at hl 4 rfl) ?_
  refine lv_if_eq (tgt := 23) X.1 X.2.1 dX12_rowFrom_15 (by decide) (fun c5 => ?_) (fun c5 => ?_)
  · have i6 : x2.toInt = (0 : Int) := vq_eq c5 rfl (by decide +kernel)
    exact ((iv_no (a := 3) (b := 0) (iv_eqm c5 h2 (iv_c 0 (a := 0) (b := 0) (by decide +kernel)) (by decide +kernel)) (by decide +kernel))).elim
  · have i7 : (x2.toInt = (0 : Int)) = False := vq_ne c5 rfl (by decide +kernel)
    refine lv_iload_n X.1 X.2.1 dX12_rowFrom_18 rfl (lv_at hl 4 rfl) ?_
    refine lv_iconst (v := 2) X.1 X.2.1 dX12_rowFrom_19 (by decide +kernel) ?_
    refine lv_icmp_ne (tgt := 27) X.1 X.2.1 dX12_rowFrom_20 (by decide) (fun c8 => ?_) (fun c8 => ?_)
    · have i9 : (x2.toInt = (2 : Int)) = False := vq_ne c8 rfl (by decide +kernel)
      refine lv_iload_n X.1 X.2.1 dX12_rowFrom_27 rfl (lv_at hl 4 rfl) ?_
      refine lv_iconst (v := 3) X.1 X.2.1 dX12_rowFrom_28 (by decide +kernel) ?_
      refine lv_icmp_ne (tgt := 36) X.1 X.2.1 dX12_rowFrom_29 (by decide) (fun c11 => ?_) (fun c11 => ?_)
      · have i12 : (x2.toInt = (3 : Int)) = False := vq_ne c11 rfl (by decide +kernel)
        exact ((c11 (iv_one h2 (iv_c 3 (a := 3) (b := 3) (by decide +kernel)) (by decide +kernel)))).elim
      · have i13 : x2.toInt = (3 : Int) := vq_eq c11 rfl (by decide +kernel)
        refine lv_iconst (v := (-1)) X.1 X.2.1 dX12_rowFrom_32 (by decide +kernel) ?_
        refine lv_goto (tgt := 37) X.1 X.2.1 dX12_rowFrom_33 (by decide) ?_
        refine lv_istore (lv' := [(6, .int (-1)), (5, .int f4), (4, .int f2), (0, .int x0), (1, .int x1), (2, .int x2), (3, .ref a3)]) X.1 X.2.1 dX12_rowFrom_37 hl (by decide) rfl (fun ls hl => ?_)
        refine lv_iload_n X.1 X.2.1 dX12_rowFrom_39 rfl (lv_at hl 5 rfl) ?_
        refine lv_if_ne (tgt := 47) X.1 X.2.1 dX12_rowFrom_40 (by decide) (fun c14 => ?_) (fun c14 => ?_)
        · have i15 : (x2.toInt = (0 : Int)) = False := vq_ne c14 rfl (by decide +kernel)
          refine lv_iconst (v := 1) X.1 X.2.1 dX12_rowFrom_47 (by decide +kernel) ?_
          refine lv_istore (lv' := [(7, .int 1), (6, .int (-1)), (5, .int f4), (4, .int f2), (0, .int x0), (1, .int x1), (2, .int x2), (3, .ref a3)]) X.1 X.2.1 dX12_rowFrom_48 hl (by decide) rfl (fun ls hl => ?_)
          refine lv_iconst (v := 0) X.1 X.2.1 dX12_rowFrom_50 (by decide +kernel) ?_
          refine lv_istore (lv' := [(8, .int 0), (7, .int 1), (6, .int (-1)), (5, .int f4), (4, .int f2), (0, .int x0), (1, .int x1), (2, .int x2), (3, .ref a3)]) X.1 X.2.1 dX12_rowFrom_51 hl (by decide) rfl (fun ls hl => ?_)
          have B17_53 : ∀ (N : Nat) (locs : List Loc) (ls : Array Slot) (z17_4 : Int32) (z17_5 : Int32) (z17_8 : Int32), va_S (fun _ : Nat => False) s.heap s.heap locs → lv_has ls 9 [(0, .int x0), (3, .ref a3), (4, .int z17_4), (5, .int z17_5), (6, .int (-1)), (7, .int 1), (8, .int z17_8)] → iv (-1) 5 z17_4 → iv 0 29 z17_5 → iv 0 6 z17_8 → ((z17_8 : Int32).toInt + rwF x0 (q.1 0) (q.1 1) (-1) 1 (12 - (z17_8 : Int32).toInt).toNat (z17_4 : Int32).toInt (z17_5 : Int32).toInt = rwV x0 (q.1 0) (q.1 1) x1.toInt 3 ∧ 0 ≤ (z17_8 : Int32).toInt ∧ (z17_4 : Int32).toInt = x1.toInt % (q.1 0) + -1 * (z17_8 : Int32).toInt ∧ (z17_5 : Int32).toInt = x1.toInt / (q.1 0) + 1 * (z17_8 : Int32).toInt ∧ (z17_8 : Int32).toInt ≤ 6) → (z17_4.toInt - (-2)).toNat ≤ N → W p l e (headSpec (Cond.code yX12_rowFrom cX12_rowFrom 9 (some .int) :: sg_tbl) ({ frames := 1, cells := 0, slots := 0, locals := 21 })).room s m #[.int x0, .int x1, .int x2, .ref a3] below meth c s.heap locs 0 0 (MQ below (va_Qi (fun r (_ : Unit) => (fun r : Int32 => r.toInt = rwV x0 (q.1 0) (q.1 1) x1.toInt 3) r) (fun _ t => t.heap = s.heap) (fun _ : Nat => False)) #[.int x0, .int x1, .int x2, .ref a3] s 0 0 (fun _ : Nat => False)) (F0 m 53 ls []) := by
            intro N; induction N with
            | zero =>
              intro locs ls z17_4 z17_5 z17_8 hS hl hz17_4 hz17_5 hz17_8 xf17 hN
              exact absurd hN (by have := iv_dn hz17_4; omega)
            | succ N ih17 =>
              intro locs ls z17_4 z17_5 z17_8 hS hl hz17_4 hz17_5 hz17_8 xf17 hN17
              refine lv_iload X.1 X.2.1 dX12_rowFrom_53 (lv_at hl 2 rfl) ?_
              refine lv_if_lt (tgt := 110) X.1 X.2.1 dX12_rowFrom_55 (by decide) (fun c18 => ?_) (fun c18 => ?_)
              · have i19 : z17_4.toInt < (0 : Int) := vq_lt c18 rfl (by decide +kernel)
                refine lv_iload X.1 X.2.1 dX12_rowFrom_110 (lv_at hl 6 rfl) ?_
                have hno := rwF_n (s := x0) (w := (q.1 0)) (h := (q.1 1)) (dx := (-1)) (dy := 1) (x := z17_4.toInt) (y := z17_5.toInt) (m := (12 - z17_8.toInt).toNat) (by have z := xf17.2.2.2.2; omega) (Or.inl i19)
                have hre : z17_8.toInt = rwV x0 (q.1 0) (q.1 1) x1.toInt 3 := by have z := xf17.1; omega
                exact sg_iretP X hr hlk hS hre dX12_rowFrom_112
              · have i20 : ¬ z17_4.toInt < (0 : Int) := vq_le (iv_ge_of c18) (by decide +kernel) rfl
                refine lv_iload X.1 X.2.1 dX12_rowFrom_58 (lv_at hl 2 rfl) ?_
                refine lv_aload_n X.1 X.2.1 dX12_rowFrom_60 rfl (lv_at hl 1 rfl) ?_
                refine lv_iconst (v := 0) X.1 X.2.1 dX12_rowFrom_61 (by decide +kernel) ?_
                refine al_50e X hK hG h3 (iv_vpin (iv_c 0 (a := 0) (b := 0) (by decide +kernel)) (by decide +kernel)) dX12_rowFrom_62 (fun f21 hf21 => ?_)
                have xf21 : f21.toInt = (q.1 0) := zg_r (q := q) (o := o) (sg_cl (iv_c 0 (a := 0) (b := 0) (by decide +kernel)) (by decide)) (by decide) hf21
                have yf21 : iv 1 6 f21 := vq_of xf21 hr0
                refine lv_icmp_ge (tgt := 110) X.1 X.2.1 dX12_rowFrom_63 (by decide) (fun c22 => ?_) (fun c22 => ?_)
                · have i23 : ¬ z17_4.toInt < (q.1 0) := vq_le c22 xf21 rfl
                  refine lv_iload X.1 X.2.1 dX12_rowFrom_110 (lv_at hl 6 rfl) ?_
                  have hno := rwF_n (s := x0) (w := (q.1 0)) (h := (q.1 1)) (dx := (-1)) (dy := 1) (x := z17_4.toInt) (y := z17_5.toInt) (m := (12 - z17_8.toInt).toNat) (by have z := xf17.2.2.2.2; omega) (Or.inr (Or.inl i23))
                  have hre : z17_8.toInt = rwV x0 (q.1 0) (q.1 1) x1.toInt 3 := by have z := xf17.1; omega
                  exact sg_iretP X hr hlk hS hre dX12_rowFrom_112
                · have i24 : z17_4.toInt < (q.1 0) := vq_lt (iv_gt_of c22) rfl xf21
                  refine lv_iload X.1 X.2.1 dX12_rowFrom_66 (lv_at hl 3 rfl) ?_
                  refine lv_aload_n X.1 X.2.1 dX12_rowFrom_68 rfl (lv_at hl 1 rfl) ?_
                  refine lv_iconst (v := 1) X.1 X.2.1 dX12_rowFrom_69 (by decide +kernel) ?_
                  refine al_50e X hK hG h3 (iv_vpin (iv_c 1 (a := 1) (b := 1) (by decide +kernel)) (by decide +kernel)) dX12_rowFrom_70 (fun f25 hf25 => ?_)
                  have xf25 : f25.toInt = (q.1 1) := zg_r (q := q) (o := o) (sg_cl (iv_c 1 (a := 1) (b := 1) (by decide +kernel)) (by decide)) (by decide) hf25
                  have yf25 : iv 1 5 f25 := vq_of xf25 hr1
                  refine lv_icmp_ge (tgt := 110) X.1 X.2.1 dX12_rowFrom_71 (by decide) (fun c26 => ?_) (fun c26 => ?_)
                  · have i27 : ¬ z17_5.toInt < (q.1 1) := vq_le c26 xf25 rfl
                    refine lv_iload X.1 X.2.1 dX12_rowFrom_110 (lv_at hl 6 rfl) ?_
                    have hno := rwF_n (s := x0) (w := (q.1 0)) (h := (q.1 1)) (dx := (-1)) (dy := 1) (x := z17_4.toInt) (y := z17_5.toInt) (m := (12 - z17_8.toInt).toNat) (by have z := xf17.2.2.2.2; omega) (Or.inr (Or.inr (Or.inl i27)))
                    have hre : z17_8.toInt = rwV x0 (q.1 0) (q.1 1) x1.toInt 3 := by have z := xf17.1; omega
                    exact sg_iretP X hr hlk hS hre dX12_rowFrom_112
                  · have i28 : z17_5.toInt < (q.1 1) := vq_lt (iv_gt_of c26) rfl xf25
                    refine lv_iload_n X.1 X.2.1 dX12_rowFrom_74 rfl (lv_at hl 0 rfl) ?_
                    refine lv_iload X.1 X.2.1 dX12_rowFrom_75 (lv_at hl 3 rfl) ?_
                    refine lv_aload_n X.1 X.2.1 dX12_rowFrom_77 rfl (lv_at hl 1 rfl) ?_
                    refine lv_iconst (v := 0) X.1 X.2.1 dX12_rowFrom_78 (by decide +kernel) ?_
                    refine al_50e X hK hG h3 (iv_vpin (iv_c 0 (a := 0) (b := 0) (by decide +kernel)) (by decide +kernel)) dX12_rowFrom_79 (fun f29 hf29 => ?_)
                    have xf29 : f29.toInt = (q.1 0) := zg_r (q := q) (o := o) (sg_cl (iv_c 0 (a := 0) (b := 0) (by decide +kernel)) (by decide)) (by decide) hf29
                    have yf29 : iv 1 6 f29 := vq_of xf29 hr0
                    refine lv_imul X.1 X.2.1 dX12_rowFrom_80 ?_
                    refine lv_topi (fun f30 ef30 => ?_)
                    have xf30 : f30.toInt = (z17_5.toInt * (q.1 0)) := sg_exmul ef30 (iv_lt (b' := 4) (iv_gt_of c26) hz17_5 yf25 (by decide +kernel)) yf29 (by decide +kernel) rfl xf29
                    refine lv_iload X.1 X.2.1 dX12_rowFrom_81 (lv_at hl 2 rfl) ?_
                    refine lv_iadd X.1 X.2.1 dX12_rowFrom_83 ?_
                    refine lv_topi (fun f31 ef31 => ?_)
                    have xf31 : f31.toInt = ((z17_5.toInt * (q.1 0)) + z17_4.toInt) := sg_exadd ef31 (iv_mul (a' := 0) (b' := 24) ef30 (iv_lt (b' := 4) (iv_gt_of c26) hz17_5 yf25 (by decide +kernel)) yf29 (by decide +kernel)) (iv_ler (c' := 0) (iv_ge_of c18) (iv_c 0 (a := 0) (b := 0) (by decide +kernel)) hz17_4 (by decide +kernel)) (by decide +kernel) xf30 rfl
                    refine ca_X12_has_e X hK (ke_toKT hG (by decide) (by decide) hd0.1 hd0.2) hC (fun _ h => h.elim) hS hb x0 f31 wl_7_174 hl.1 (rest := []) rfl (Nat.le_of_ble_eq_true rfl) ⟨Nat.le_of_ble_eq_true rfl, Nat.le_of_ble_eq_true rfl⟩ ⟨Nat.le_of_ble_eq_true rfl, Nat.le_of_ble_eq_true rfl⟩ dX12_rowFrom_84 (fun f32 locs hf32 hS => ?_)
                    refine lv_if_eq (tgt := 110) X.1 X.2.1 dX12_rowFrom_87 (by decide) (fun c33 => ?_) (fun c33 => ?_)
                    · have j34 := vq_says0 hf32 c33
                      have k35 : ((x0 >>> ((Int32.ofInt ((z17_5.toInt * (q.1 0)) + z17_4.toInt)) &&& 31)) &&& 1 = 1) = False := by have z := j34; rw [(vq_oi (x := f31) xf31)] at z; exact z
                      refine lv_iload X.1 X.2.1 dX12_rowFrom_110 (lv_at hl 6 rfl) ?_
                      have hno := rwF_n (s := x0) (w := (q.1 0)) (h := (q.1 1)) (dx := (-1)) (dy := 1) (x := z17_4.toInt) (y := z17_5.toInt) (m := (12 - z17_8.toInt).toNat) (by have z := xf17.2.2.2.2; omega) (Or.inr (Or.inr (Or.inr (lwHas_f k35))))
                      have hre : z17_8.toInt = rwV x0 (q.1 0) (q.1 1) x1.toInt 3 := by have z := xf17.1; omega
                      exact sg_iretP X hr hlk hS hre dX12_rowFrom_112
                    · have j36 := vq_says1 hf32 c33
                      have k37 : (x0 >>> ((Int32.ofInt ((z17_5.toInt * (q.1 0)) + z17_4.toInt)) &&& 31)) &&& 1 = 1 := by have z := j36; rw [(vq_oi (x := f31) xf31)] at z; exact z
                      obtain ⟨y38, ey38⟩ : ∃ y : Int32, y = z17_8 + Int32.ofInt 1 := ⟨_, rfl⟩
                      have xy38 : y38.toInt = (z17_8.toInt + 1) := sg_exadd ey38 hz17_8 (iv_c _ (a := 1) (b := 1) (by decide +kernel)) (by decide +kernel) rfl (by decide +kernel)
                      refine lv_iinc (v := y38) (lv' := [(8, .int y38), (0, .int x0), (3, .ref a3), (4, .int z17_4), (5, .int z17_5), (6, .int (-1)), (7, .int 1)]) X.1 X.2.1 dX12_rowFrom_90 hl (k := 6) rfl ey38.symm (by decide) rfl (fun ls hl => ?_)
                      refine lv_iload X.1 X.2.1 dX12_rowFrom_93 (lv_at hl 3 rfl) ?_
                      refine lv_iload X.1 X.2.1 dX12_rowFrom_95 (lv_at hl 5 rfl) ?_
                      refine lv_iadd X.1 X.2.1 dX12_rowFrom_97 ?_
                      refine lv_topi (fun f39 ef39 => ?_)
                      have xf39 : f39.toInt = (z17_4.toInt + (-1)) := sg_exadd ef39 (iv_ler (c' := 0) (iv_ge_of c18) (iv_c 0 (a := 0) (b := 0) (by decide +kernel)) hz17_4 (by decide +kernel)) (iv_c (-1) (a := (-1)) (b := (-1)) (by decide +kernel)) (by decide +kernel) rfl (by decide +kernel)
                      refine lv_istore (lv' := [(4, .int f39), (8, .int y38), (0, .int x0), (3, .ref a3), (5, .int z17_5), (6, .int (-1)), (7, .int 1)]) X.1 X.2.1 dX12_rowFrom_98 hl (by decide) rfl (fun ls hl => ?_)
                      refine lv_iload X.1 X.2.1 dX12_rowFrom_100 (lv_at hl 4 rfl) ?_
                      refine lv_iload X.1 X.2.1 dX12_rowFrom_102 (lv_at hl 6 rfl) ?_
                      refine lv_iadd X.1 X.2.1 dX12_rowFrom_104 ?_
                      refine lv_topi (fun f40 ef40 => ?_)
                      have xf40 : f40.toInt = (z17_5.toInt + 1) := sg_exadd ef40 (iv_lt (b' := 4) (iv_gt_of c26) hz17_5 yf25 (by decide +kernel)) (iv_c 1 (a := 1) (b := 1) (by decide +kernel)) (by decide +kernel) rfl (by decide +kernel)
                      refine lv_istore (lv' := [(5, .int f40), (4, .int f39), (8, .int y38), (0, .int x0), (3, .ref a3), (6, .int (-1)), (7, .int 1)]) X.1 X.2.1 dX12_rowFrom_105 hl (by decide) rfl (fun ls hl => ?_)
                      refine lv_goto (tgt := 53) X.1 X.2.1 dX12_rowFrom_107 (by decide) ?_
                      have hst := rwF_s (dx := (-1)) (dy := 1) (k := (12 - (z17_8.toInt + 1)).toNat) (m := (12 - z17_8.toInt).toNat) (by have z := xf17.2.2.2.2; have z2 := xf17.2.1; omega) i20 i24 i28 (lwHas_t k37)
                      obtain ⟨xa17, xb17, xc17, xd17, xe17⟩ := xf17
                      have hlx := i24
                      have hly := i28
                      exact ih17 _ _ f39 f40 y38 hS (lv_sub hl [3, 4, 1, 0, 5, 6, 2] rfl) (iv_of (iv_add (a' := (-1)) (b' := 4) ef39 (iv_ler (c' := 0) (iv_ge_of c18) (iv_c 0 (a := 0) (b := 0) (by decide +kernel)) hz17_4 (by decide +kernel)) (iv_c (-1) (a := (-1)) (b := (-1)) (by decide +kernel)) (by decide +kernel)) (a' := (-1)) (b' := 5) (by decide +kernel)) (iv_of (iv_add (a' := 1) (b' := 5) ef40 (iv_lt (b' := 4) (iv_gt_of c26) hz17_5 yf25 (by decide +kernel)) (iv_c 1 (a := 1) (b := 1) (by decide +kernel)) (by decide +kernel)) (a' := 0) (b' := 29) (by decide +kernel)) ⟨by omega, by omega⟩ (by rw [xy38, xf39, xf40]; exact ⟨by omega, by omega, by omega, by omega, by omega⟩) (iv_stepD ef39 (iv_ler (c' := 0) (iv_ge_of c18) (iv_c 0 (a := 0) (b := 0) (by decide +kernel)) hz17_4 (by decide +kernel)) (by decide +kernel) hN17)
          have hx0 : (0 : Int) + rwF x0 (q.1 0) (q.1 1) (-1) 1 (12 - (0 : Int)).toNat (x1.toInt % (q.1 0)) (x1.toInt / (q.1 0)) = rwV x0 (q.1 0) (q.1 1) x1.toInt 3 := by
            rw [Int.zero_add]
            rfl
          exact B17_53 _ _ _ f2 f4 0 hS (lv_sub hl [5, 8, 4, 3, 2, 1, 0] rfl) (iv_of (iv_rem (a' := 0) (b' := 5) ef2 h1 yf1 (by decide +kernel)) (a' := (-1)) (b' := 5) (by decide +kernel)) (iv_div (a' := 0) (b' := 29) ef4 h1 yf3 (by decide +kernel)) (iv_of (iv_c 0 (a := 0) (b := 0) (by decide +kernel)) (a' := 0) (b' := 6) (by decide +kernel)) (by rw [show (0 : Int32).toInt = 0 from by decide +kernel, xf2, xf4]; exact ⟨hx0, Int.le_refl _, by omega, by omega, by decide⟩) (Nat.le_refl _)
        · have i16 : x2.toInt = (0 : Int) := vq_eq c14 rfl (by decide +kernel)
          exact ((iv_no (a := 3) (b := 0) (iv_eqm c14 h2 (iv_c 0 (a := 0) (b := 0) (by decide +kernel)) (by decide +kernel)) (by decide +kernel))).elim
    · have i10 : x2.toInt = (2 : Int) := vq_eq c8 rfl (by decide +kernel)
      exact ((iv_no (a := 3) (b := 2) (iv_eqm c8 h2 (iv_c 2 (a := 2) (b := 2) (by decide +kernel)) (by decide +kernel)) (by decide +kernel))).elim

theorem ca_X12_rowFrom_e3  {e1 e2 d1 d2 : Int} {q : sgLwn} {o : sgO}  (X : CallFix p m c cc nL s args sg_tbl own) (hK : va_K D vwCl tys s) (hG : sgG (KE e1 e2 (-1) (-1) d1 d2 (zQ q o) P) D vwCl (fun q : Nat => base ≤ q) tys ad ks H) (hC : sgC base s) (hA : ∀ q : Nat, A q → base ≤ q) (hS : va_S A s.heap H locs) (hb : base ≤ s.heap.size) (x0 : Int32) (x1 : Int32) (h1 : iv 0 29 x1) (x2 : Int32) (h2 : iv 3 3 x2) (a3 : Nat) (h3 : isK ad ks 50 a3) (hr0 : 1 ≤ q.1 0 ∧ q.1 0 ≤ 6) (hr1 : 1 ≤ q.1 1 ∧ q.1 1 ≤ 5) (hd0 : 0 ≤ d1 ∧ d2 ≤ 6) (hl : Cond.methodLink own index yX12_rowFrom ∈ sg_tbl) (hsize : ls.size = nL) (hst : st0 = [.int x0, .int x1, .int x2, .ref a3].reverse ++ rest) (hW : (rest.map fun v => v.category).sum ≤ 8) (hR : 2 ≤ R.frames ∧ 49 ≤ R.locals) (hf : cells ≤ R.cells ∧ slots ≤ R.slots) (hdg : decode cc pc = .ok (.invokestatic index, 3)) (kk : ∀ (r : Int32) (locs1 : List Loc), (fun r : Int32 => r.toInt = rwV x0 (q.1 0) (q.1 1) x1.toInt 3) r → va_S A s.heap H locs1 → W p l e R s m args below meth c H locs1 cells slots Q (F0 m (pc + 3) ls (.int r :: rest))) : W p l e R s m args below meth c H locs cells slots Q (F0 m pc ls st0) :=
  sg_callPSi X hK hG hC hA hS hb (m_X12_rowFrom_e3 l x0 x1 h1 x2 h2 a3 h3 hr0 hr1 hd0) wl_7_204 wl_1_13 wl_7_203 (n := 4) (by decide +kernel) rfl rfl rfl hl hsize hst hW hR hf hdg kk
end
