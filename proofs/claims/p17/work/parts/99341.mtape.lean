
section
variable {p : Program} {l : Launch} {e : Env} {R : Room} {s : State} {m : MethodId} {args : Array Value} {below : List Frame} {meth : Method} {c : Code} {H : Heap} {locs : List Loc} {cells slots : Nat} {Q : State → Prop} {cc : ByteArray} {nL pc : Nat} {ls : Array Slot} {rest : List Value} {own : String} {D : va_G} {A : Nat → Prop} {tys : List (ClassId × FieldType)} {ad ks : List Nat} {P : sgPm} {H0 : Heap} {index : Nat} {base : Nat} {st0 : List Value} {a : Nat}
theorem al_45e  {i : Int32} {a1 a2 f1 f2 d1 d2 : Int} {z : sgZt} (X : CallFix p m c cc nL s args sg_tbl own) (hK : va_K D vwCl tys s) (hG : sgG (KE a1 a2 f1 f2 d1 d2 z P) D vwCl A tys ad ks H) (ha : isK ad ks 45 a) (hin : vp_in i 240) (hdg : decode cc pc = .ok (.baload, 1)) (kk : ∀ x : Int32, okV ad ks ((sg_tp (sgT2 P) : Nat → sgT) i.toNatClampNeg) (.int x) → W p l e R s m args below meth c H locs cells slots Q (F0 m (pc + 1) ls (.int x :: rest))) : W p l e R s m args below meth c H locs cells slots Q (F0 m pc ls (.int i :: .ref a :: rest)) :=
  sg_bald X hK hG ha (k := 45) rfl hin hdg kk
set_option maxHeartbeats 8000000 in
set_option maxRecDepth 100000 in
theorem m_X12_look_e (l : Launch) {D : va_G} {base : Nat} {tys : List (ClassId × FieldType)} {ad ks : List Nat} {P : sgPm}{a d1 d2 : Int} {z : sgZt}  (a0 : Nat) (h0 : isK ad ks 12 a0) (hl0 : 0 ≤ sgL2 P ∧ sgL2 P ≤ 240) (hav : 0 ≤ a ∧ a ≤ sgL2 P) (hby : sgBy2 P) : Met l yX12_look (Cond.code yX12_look cX12_look 1 (some .int) :: sg_tbl) ({ frames := 0, cells := 0, slots := 0, locals := 0 }) (va_Pc [.ref a0] (sgB (KE a a (-1) (-1) d1 d2 z P) D vwCl base tys ad ks)) (va_Qi (fun r (u : Int32) => u = r ∧ (fun r : Int32 => True) r) (fun u t => u.toInt = vE (vC (sgU2 P) (sgL2 P) (vX (sgU2 P) (sgL2 P) a)) ∧ sgB (KE (vX (sgU2 P) (sgL2 P) a) (vX (sgU2 P) (sgL2 P) a) (-1) (-1) d1 d2 z P) D vwCl base tys ad ks t) (fun q : Nat => base ≤ q)) 0 0 (fun q : Nat => base ≤ q) := by
  refine sg_ofW (by decide +kernel) (Nat.le_of_ble_eq_true rfl) (fun p e s m below meth c X hr hlk hb hK hC hG ls hl => ?_)
  have hS : va_S (fun q : Nat => base ≤ q) s.heap s.heap [] := va_S.rf
  have hl : lv_has ls 1 [(0, .ref a0)] := hl
  have B1_0 : ∀ (N : Nat) (H : Heap) (locs : List Loc) (ls : Array Slot) (a1 : Int), 0 ≤ a1 → a1 ≤ sgL2 P → a + 0 ≤ a1 → sgG (KE a1 a1 (-1) (-1) d1 d2 z P) D vwCl (fun q : Nat => base ≤ q) tys ad ks H → va_S (fun q : Nat => base ≤ q) s.heap H locs → lv_has ls 1 [(0, .ref a0)] → vX (sgU2 P) (sgL2 P) a = vX (sgU2 P) (sgL2 P) a1 → (242 - a1).toNat ≤ N → W p l e (headSpec (Cond.code yX12_look cX12_look 1 (some .int) :: sg_tbl) ({ frames := 0, cells := 0, slots := 0, locals := 0 })).room s m #[.ref a0] below meth c H locs 0 0 (MQ below (va_Qi (fun r (u : Int32) => u = r ∧ (fun r : Int32 => True) r) (fun u t => u.toInt = vE (vC (sgU2 P) (sgL2 P) (vX (sgU2 P) (sgL2 P) a)) ∧ sgB (KE (vX (sgU2 P) (sgL2 P) a) (vX (sgU2 P) (sgL2 P) a) (-1) (-1) d1 d2 z P) D vwCl base tys ad ks t) (fun q : Nat => base ≤ q)) #[.ref a0] s 0 0 (fun q : Nat => base ≤ q)) (F0 m 0 ls []) := by
    intro N; induction N with
    | zero =>
      intro H locs ls a1 jl1 jm1 jk1 hG hS hl xf1 hN
      exact absurd hN (by have := jm1; omega)
    | succ N ih1 =>
      intro H locs ls a1 jl1 jm1 jk1 hG hS hl xf1 hN1
      refine lv_aload_n X.1 X.2.1 dX12_look_0 rfl (lv_at hl 0 rfl) ?_
      refine gf_X12_10e X hK hG h0 wl_6_188 dX12_look_1 (fun f2 hf2 => ?_)
      have xf2 : f2.toInt = a1 := vq_iv hf2
      have yf2 : iv 0 240 f2 := vq_240 hl0 (And.intro jl1 jm1) xf2
      refine lv_aload_n X.1 X.2.1 dX12_look_4 rfl (lv_at hl 0 rfl) ?_
      refine gf_X12_9e X hK hG h0 wl_6_187 dX12_look_5 (fun f3 hf3 => ?_)
      have xf3 : f3.toInt = sgL2 P := sgC240_eq hf3 hl0.1 hl0.2
      have yf3 : iv 0 240 f3 := vq_of xf3 hl0
      refine lv_icmp_ge (tgt := 43) X.1 X.2.1 dX12_look_8 (by decide) (fun c4 => ?_) (fun c4 => ?_)
      · have ci5 : vC (sgU2 P) (sgL2 P) a1 = 0 := vC_out (Int.not_lt.mp (vq_le c4 xf3 xf2))
        have i5 : ¬ a1 < sgL2 P := vq_le c4 xf3 xf2
        refine lv_aload_n X.1 X.2.1 dX12_look_43 rfl (lv_at hl 0 rfl) ?_
        refine gf_X12_10e X hK hG h0 wl_6_188 dX12_look_44 (fun f7 hf7 => ?_)
        have xf7 : f7.toInt = a1 := vq_iv hf7
        have yf7 : iv 0 240 f7 := vq_240 hl0 (And.intro jl1 jm1) xf7
        refine lv_aload_n X.1 X.2.1 dX12_look_47 rfl (lv_at hl 0 rfl) ?_
        refine gf_X12_9e X hK hG h0 wl_6_187 dX12_look_48 (fun f8 hf8 => ?_)
        have xf8 : f8.toInt = sgL2 P := sgC240_eq hf8 hl0.1 hl0.2
        have yf8 : iv 0 240 f8 := vq_of xf8 hl0
        refine lv_icmp_ge (tgt := 75) X.1 X.2.1 dX12_look_51 (by decide) (fun c9 => ?_) (fun c9 => ?_)
        · have ci10 : vC (sgU2 P) (sgL2 P) a1 = 0 := vC_out (Int.not_lt.mp (vq_le c9 xf8 xf7))
          have i10 : ¬ a1 < sgL2 P := vq_le c9 xf8 xf7
          refine lv_iconst (v := (-1)) X.1 X.2.1 dX12_look_75 (by decide +kernel) ?_
          have q0 : (-1 : Int32).toInt = vE (vC (sgU2 P) (sgL2 P) a1) := (show (-1 : Int32).toInt = -1 from by decide +kernel).trans (vE_0 ci10).symm
          have hz : vX (sgU2 P) (sgL2 P) a = a1 := xf1.trans (vX_at (by rw [ci10]; decide))
          rw [← hz] at hG q0
          exact sg_iret2 X hr hlk hS trivial (fun t ht hW => ⟨q0, sg_post hb hK hC hG hS ht hW⟩) dX12_look_76
        · have i11 : a1 < sgL2 P := vq_lt (iv_gt_of c9) xf7 xf8
          exact absurd i11 i5
      · have i6 : a1 < sgL2 P := vq_lt (iv_gt_of c4) xf2 xf3
        refine lv_aload_n X.1 X.2.1 dX12_look_11 rfl (lv_at hl 0 rfl) ?_
        refine gf_X12_5e X hK hG h0 wl_6_183 dX12_look_12 (fun q12 hq12 => ?_)
        refine lv_aload_n X.1 X.2.1 dX12_look_15 rfl (lv_at hl 0 rfl) ?_
        refine gf_X12_8e X hK hG h0 wl_6_186 dX12_look_16 (fun f13 hf13 => ?_)
        have xf13 : f13.toInt = 0 := vq_iv hf13
        refine lv_aload_n X.1 X.2.1 dX12_look_19 rfl (lv_at hl 0 rfl) ?_
        refine gf_X12_10e X hK hG h0 wl_6_188 dX12_look_20 (fun f14 hf14 => ?_)
        have xf14 : f14.toInt = a1 := vq_iv hf14
        have yf14 : iv 0 240 f14 := vq_240 hl0 (And.intro jl1 jm1) xf14
        refine lv_iadd X.1 X.2.1 dX12_look_23 ?_
        refine lv_topi (fun f15 ef15 => ?_)
        have xf15 : f15.toInt = a1 := (sg_exadd ef15 hf13 yf14 (by decide +kernel) xf13 xf14).trans (Int.zero_add _)
        have z16 : iv 0 239 f15 := vq_239 hl0 (And.intro jl1 jm1) i6 xf15
        refine al_45e X hK hG hq12 (iv_vpin z16 (by decide +kernel)) dX12_look_24 (fun f17 hf17 => ?_)
        have of17 := hf17
        have hf17 : iv (-2147483648) 2147483647 f17 := iv_top f17
        have xf17 : f17.toInt = vS (vC (sgU2 P) (sgL2 P) a1) := vq_tp2 of17 xf15 ((And.intro jl1 jm1)).1 i6 hby
        refine lv_bipush (v := 32) X.1 X.2.1 dX12_look_25 (by decide +kernel) ?_
        refine lv_icmp_ne (tgt := 43) X.1 X.2.1 dX12_look_27 (by decide) (fun c18 => ?_) (fun c18 => ?_)
        · have i19 : (vS (vC (sgU2 P) (sgL2 P) a1) = (32 : Int)) = False := vq_ne c18 xf17 (by decide +kernel)
          have mi19 : (vC (sgU2 P) (sgL2 P) a1 = (32 : Int)) = False := vS_ne i19 (by decide)
          refine lv_aload_n X.1 X.2.1 dX12_look_43 rfl (lv_at hl 0 rfl) ?_
          refine gf_X12_10e X hK hG h0 wl_6_188 dX12_look_44 (fun f21 hf21 => ?_)
          have xf21 : f21.toInt = a1 := vq_iv hf21
          have yf21 : iv 0 240 f21 := vq_240 hl0 (And.intro jl1 jm1) xf21
          refine lv_aload_n X.1 X.2.1 dX12_look_47 rfl (lv_at hl 0 rfl) ?_
          refine gf_X12_9e X hK hG h0 wl_6_187 dX12_look_48 (fun f22 hf22 => ?_)
          have xf22 : f22.toInt = sgL2 P := sgC240_eq hf22 hl0.1 hl0.2
          have yf22 : iv 0 240 f22 := vq_of xf22 hl0
          refine lv_icmp_ge (tgt := 75) X.1 X.2.1 dX12_look_51 (by decide) (fun c23 => ?_) (fun c23 => ?_)
          · have ci24 : vC (sgU2 P) (sgL2 P) a1 = 0 := vC_out (Int.not_lt.mp (vq_le c23 xf22 xf21))
            have i24 : ¬ a1 < sgL2 P := vq_le c23 xf22 xf21
            exact absurd i6 i24
          · have i25 : a1 < sgL2 P := vq_lt (iv_gt_of c23) xf21 xf22
            refine lv_aload_n X.1 X.2.1 dX12_look_54 rfl (lv_at hl 0 rfl) ?_
            refine gf_X12_5e X hK hG h0 wl_6_183 dX12_look_55 (fun q26 hq26 => ?_)
            refine lv_aload_n X.1 X.2.1 dX12_look_58 rfl (lv_at hl 0 rfl) ?_
            refine gf_X12_8e X hK hG h0 wl_6_186 dX12_look_59 (fun f27 hf27 => ?_)
            have xf27 : f27.toInt = 0 := vq_iv hf27
            refine lv_aload_n X.1 X.2.1 dX12_look_62 rfl (lv_at hl 0 rfl) ?_
            refine gf_X12_10e X hK hG h0 wl_6_188 dX12_look_63 (fun f28 hf28 => ?_)
            have xf28 : f28.toInt = a1 := vq_iv hf28
            have yf28 : iv 0 240 f28 := vq_240 hl0 (And.intro jl1 jm1) xf28
            refine lv_iadd X.1 X.2.1 dX12_look_66 ?_
            refine lv_topi (fun f29 ef29 => ?_)
            have xf29 : f29.toInt = a1 := (sg_exadd ef29 hf27 yf28 (by decide +kernel) xf27 xf28).trans (Int.zero_add _)
            have z30 : iv 0 239 f29 := vq_239 hl0 (And.intro jl1 jm1) i25 xf29
            refine al_45e X hK hG hq26 (iv_vpin z30 (by decide +kernel)) dX12_look_67 (fun f31 hf31 => ?_)
            have of31 := hf31
            have hf31 : iv (-2147483648) 2147483647 f31 := iv_top f31
            have xf31 : f31.toInt = vS (vC (sgU2 P) (sgL2 P) a1) := vq_tp2 of31 xf29 ((And.intro jl1 jm1)).1 i25 hby
            refine lv_sipush (v := 255) X.1 X.2.1 dX12_look_68 (by decide +kernel) ?_
            refine lv_iand X.1 X.2.1 dX12_look_71 ?_
            refine lv_topi (fun f32 ef32 => ?_)
            have xf32 : f32.toInt = vC (sgU2 P) (sgL2 P) a1 := vq_and ef32 xf31 (vC_by2 hby _)
            refine lv_goto (tgt := 76) X.1 X.2.1 dX12_look_72 (by decide) ?_
            have q0 : f32.toInt = vE (vC (sgU2 P) (sgL2 P) a1) := (xf32).trans (vE_n (by have := (vC_pos hby ((And.intro jl1 jm1)).1 i25); omega)).symm
            have hz : vX (sgU2 P) (sgL2 P) a = a1 := xf1.trans (vX_at (of_eq_false mi19))
            rw [← hz] at hG q0
            exact sg_iret2 X hr hlk hS trivial (fun t ht hW => ⟨q0, sg_post hb hK hC hG hS ht hW⟩) dX12_look_76
        · have i20 : vS (vC (sgU2 P) (sgL2 P) a1) = (32 : Int) := vq_eq c18 xf17 (by decide +kernel)
          have mi20 : vC (sgU2 P) (sgL2 P) a1 = (32 : Int) := vS_eq i20 (by decide) (vC_by2 hby _)
          refine lv_aload_n X.1 X.2.1 dX12_look_30 rfl (lv_at hl 0 rfl) ?_
          refine lv_dup X.1 X.2.1 dX12_look_31 rfl ?_
          refine gf_X12_10e X hK hG h0 wl_6_188 dX12_look_32 (fun f33 hf33 => ?_)
          have xf33 : f33.toInt = a1 := vq_iv hf33
          have yf33 : iv 0 240 f33 := vq_240 hl0 (And.intro jl1 jm1) xf33
          refine lv_iconst (v := 1) X.1 X.2.1 dX12_look_35 (by decide +kernel) ?_
          refine lv_iadd X.1 X.2.1 dX12_look_36 ?_
          refine lv_topi (fun f34 ef34 => ?_)
          have xf34 : f34.toInt = (a1 + 1) := sg_exadd ef34 yf33 (iv_c 1 (a := 1) (b := 1) (by decide +kernel)) (by decide +kernel) xf33 (by decide +kernel)
          refine pf_X12_10E (b1 := (a1 + 1)) (b2 := (a1 + 1)) X hK hG hS h0 wl_6_188 (vq_of (lo := (a1 + 1)) (hi := (a1 + 1)) xf34 ⟨Int.le_refl _, Int.le_refl _⟩) dX12_look_37 (fun H locs hG hS => ?_)
          have b35 := vq_bd1 (And.intro jl1 jm1) i6
          have pb35 : a + 1 ≤ (a1 + 1) := vq_pg jk1 (m := 1) (Int.le_refl _) (by decide)
          refine lv_goto (tgt := 0) X.1 X.2.1 dX12_look_40 (by decide) ?_
          exact ih1 H _ _ ((a1 + 1)) (b35).1 (b35).2 (vq_pgw pb35 (by decide)) hG hS (lv_sub hl [0] rfl) (xf1.trans (vX_on mi20)) (by omega)
  exact B1_0 _ s.heap _ _ (a) (hav).1 (hav).2 (vq_pgw (vq_pg0 a) (by decide)) hG hS (lv_sub hl [0] rfl) rfl (Nat.le_refl _)

theorem ca_X12_look_e  {a d1 d2 : Int} {z : sgZt}  (X : CallFix p m c cc nL s args sg_tbl own) (hK : va_K D vwCl tys s) (hG : sgG (KE a a (-1) (-1) d1 d2 z P) D vwCl (fun q : Nat => base ≤ q) tys ad ks H) (hC : sgC base s) (hS : va_S (fun q : Nat => base ≤ q) s.heap H locs) (hb : base ≤ s.heap.size) (a0 : Nat) (h0 : isK ad ks 12 a0) (hl0 : 0 ≤ sgL2 P ∧ sgL2 P ≤ 240) (hav : 0 ≤ a ∧ a ≤ sgL2 P) (hby : sgBy2 P) (hl : Cond.methodLink own index yX12_look ∈ sg_tbl) (hsize : ls.size = nL) (hst : st0 = [].reverse ++ .ref a0 :: rest) (hW : (rest.map fun v => v.category).sum ≤ 8) (hR : 1 ≤ R.frames ∧ 20 ≤ R.locals) (hf : cells ≤ R.cells ∧ slots ≤ R.slots) (hdg : decode cc pc = .ok (.invokevirtual index, 3)) (kk : ∀ (r : Int32) (t : State) (H1 : Heap) (locs1 : List Loc), t.heap = H1 → (fun r : Int32 => True) r → (r.toInt = vE (vC (sgU2 P) (sgL2 P) (vX (sgU2 P) (sgL2 P) a)) ∧ sgB (KE (vX (sgU2 P) (sgL2 P) a) (vX (sgU2 P) (sgL2 P) a) (-1) (-1) d1 d2 z P) D vwCl base tys ad ks t) → va_S (fun q : Nat => base ≤ q) s.heap H1 locs1 → W p l e R s m args below meth c H1 locs1 cells slots Q (F0 m (pc + 3) ls (.int r :: rest))) : W p l e R s m args below meth c H locs cells slots Q (F0 m pc ls st0) :=
  sg_callV2i X hK hG hC hS hb (m_X12_look_e l a0 h0 hl0 hav hby) h0 (k := 12) (ci := 12) rfl (C := RX12) (T := TX12) (N := 53) rfl wl_7_140 wl_1_13 wl_7_139 wl_0_52 (n := 0) (by decide +kernel) rfl rfl rfl hl hsize hst hW hR hf hdg kk

set_option maxHeartbeats 8000000 in
set_option maxRecDepth 100000 in
theorem m_X12_isDigit_e (l : Launch) {D : va_G} {base : Nat} {tys : List (ClassId × FieldType)} {ad ks : List Nat} {P : sgPm}{a f1 f2 d1 d2 : Int} {z : sgZt}  {Hx : Heap} (a0 : Nat) (h0 : isK ad ks 12 a0) (hl0 : 0 ≤ sgL2 P ∧ sgL2 P ≤ 240) (hav : 0 ≤ a ∧ a ≤ sgL2 P) (hby : sgBy2 P) : sgPi l (KE a a f1 f2 d1 d2 z P) D vwCl base tys ad ks Hx yX12_isDigit cX12_isDigit 1 (some .boolean) ({ frames := 0, cells := 0, slots := 0, locals := 0 }) [.ref a0] (fun r : Int32 => (r = 1 ∧ ¬ vC (sgU2 P) (sgL2 P) a < 48 ∧ ¬ 57 < vC (sgU2 P) (sgL2 P) a) ∨ (r = 0 ∧ (vC (sgU2 P) (sgL2 P) a < 48 ∨ 57 < vC (sgU2 P) (sgL2 P) a))) := by
  refine sg_ofP (Pq := fun Hx => va_Qi (fun r (_ : Unit) => (fun r : Int32 => (r = 1 ∧ ¬ vC (sgU2 P) (sgL2 P) a < 48 ∧ ¬ 57 < vC (sgU2 P) (sgL2 P) a) ∨ (r = 0 ∧ (vC (sgU2 P) (sgL2 P) a < 48 ∨ 57 < vC (sgU2 P) (sgL2 P) a))) r) (fun _ t => t.heap = Hx) (fun _ : Nat => False)) (by decide +kernel) (Nat.le_of_ble_eq_true rfl) (fun p e s m below meth c X hr hlk hb hK hC hG ls hl => ?_)
  have hS : va_S (fun _ : Nat => False) s.heap s.heap [] := va_S.rf
  have hl : lv_has ls 1 [(0, .ref a0)] := hl
  refine lv_aload_n X.1 X.2.1 dX12_isDigit_0 rfl (lv_at hl 0 rfl) ?_
  refine gf_X12_10e X hK hG h0 wl_6_188 dX12_isDigit_1 (fun f1 hf1 => ?_)
  have xf1 : f1.toInt = a := vq_iv hf1
  have yf1 : iv 0 240 f1 := vq_240 hl0 hav xf1
  refine lv_aload_n X.1 X.2.1 dX12_isDigit_4 rfl (lv_at hl 0 rfl) ?_
  refine gf_X12_9e X hK hG h0 wl_6_187 dX12_isDigit_5 (fun f2 hf2 => ?_)
  have xf2 : f2.toInt = sgL2 P := sgC240_eq hf2 hl0.1 hl0.2
  have yf2 : iv 0 240 f2 := vq_of xf2 hl0
  refine lv_icmp_ge (tgt := 53) X.1 X.2.1 dX12_isDigit_8 (by decide) (fun c3 => ?_) (fun c3 => ?_)
  · have ci4 : vC (sgU2 P) (sgL2 P) a = 0 := vC_out (Int.not_lt.mp (vq_le c3 xf2 xf1))
    have i4 : ¬ a < sgL2 P := vq_le c3 xf2 xf1
    refine lv_iconst (v := 0) X.1 X.2.1 dX12_isDigit_53 (by decide +kernel) ?_
    exact sg_zretP X hr (sg_zn (iv_of (iv_c 0 (a := 0) (b := 0) (by decide +kernel)) (a' := 0) (b' := 1) (by decide +kernel))) hlk hS (Or.inr ⟨rfl, vq_n48 ci4⟩) dX12_isDigit_54
  · have i5 : a < sgL2 P := vq_lt (iv_gt_of c3) xf1 xf2
    refine lv_aload_n X.1 X.2.1 dX12_isDigit_11 rfl (lv_at hl 0 rfl) ?_
    refine gf_X12_5e X hK hG h0 wl_6_183 dX12_isDigit_12 (fun q6 hq6 => ?_)
    refine lv_aload_n X.1 X.2.1 dX12_isDigit_15 rfl (lv_at hl 0 rfl) ?_
    refine gf_X12_8e X hK hG h0 wl_6_186 dX12_isDigit_16 (fun f7 hf7 => ?_)
    have xf7 : f7.toInt = 0 := vq_iv hf7
    refine lv_aload_n X.1 X.2.1 dX12_isDigit_19 rfl (lv_at hl 0 rfl) ?_
    refine gf_X12_10e X hK hG h0 wl_6_188 dX12_isDigit_20 (fun f8 hf8 => ?_)
    have xf8 : f8.toInt = a := vq_iv hf8
    have yf8 : iv 0 240 f8 := vq_240 hl0 hav xf8
    refine lv_iadd X.1 X.2.1 dX12_isDigit_23 ?_
    refine lv_topi (fun f9 ef9 => ?_)
    have xf9 : f9.toInt = a := (sg_exadd ef9 hf7 yf8 (by decide +kernel) xf7 xf8).trans (Int.zero_add _)
    have z10 : iv 0 239 f9 := vq_239 hl0 hav i5 xf9
    refine al_45e X hK hG hq6 (iv_vpin z10 (by decide +kernel)) dX12_isDigit_24 (fun f11 hf11 => ?_)
    have of11 := hf11
    have hf11 : iv (-2147483648) 2147483647 f11 := iv_top f11
    have xf11 : f11.toInt = vS (vC (sgU2 P) (sgL2 P) a) := vq_tp2 of11 xf9 (hav).1 i5 hby
    refine lv_bipush (v := 48) X.1 X.2.1 dX12_isDigit_25 (by decide +kernel) ?_
    refine lv_icmp_lt (tgt := 53) X.1 X.2.1 dX12_isDigit_27 (by decide) (fun c12 => ?_) (fun c12 => ?_)
    · have i13 : vS (vC (sgU2 P) (sgL2 P) a) < (48 : Int) := vq_lt c12 xf11 (by decide +kernel)
      have mi13 : vC (sgU2 P) (sgL2 P) a < (48 : Int) ∨ (57 : Int) < vC (sgU2 P) (sgL2 P) a := vS_lt i13 (vC_by2 hby _)
      refine lv_iconst (v := 0) X.1 X.2.1 dX12_isDigit_53 (by decide +kernel) ?_
      exact sg_zretP X hr (sg_zn (iv_of (iv_c 0 (a := 0) (b := 0) (by decide +kernel)) (a' := 0) (b' := 1) (by decide +kernel))) hlk hS (Or.inr ⟨rfl, mi13⟩) dX12_isDigit_54
    · have i14 : ¬ vS (vC (sgU2 P) (sgL2 P) a) < (48 : Int) := vq_le (iv_ge_of c12) (by decide +kernel) xf11
      have mi14 : ¬ vC (sgU2 P) (sgL2 P) a < (48 : Int) := vS_ge i14 (vC_by2 hby _)
      refine lv_aload_n X.1 X.2.1 dX12_isDigit_30 rfl (lv_at hl 0 rfl) ?_
      refine gf_X12_5e X hK hG h0 wl_6_183 dX12_isDigit_31 (fun q15 hq15 => ?_)
      refine lv_aload_n X.1 X.2.1 dX12_isDigit_34 rfl (lv_at hl 0 rfl) ?_
      refine gf_X12_8e X hK hG h0 wl_6_186 dX12_isDigit_35 (fun f16 hf16 => ?_)
      have xf16 : f16.toInt = 0 := vq_iv hf16
      refine lv_aload_n X.1 X.2.1 dX12_isDigit_38 rfl (lv_at hl 0 rfl) ?_
      refine gf_X12_10e X hK hG h0 wl_6_188 dX12_isDigit_39 (fun f17 hf17 => ?_)
      have xf17 : f17.toInt = a := vq_iv hf17
      have yf17 : iv 0 240 f17 := vq_240 hl0 hav xf17
      refine lv_iadd X.1 X.2.1 dX12_isDigit_42 ?_
      refine lv_topi (fun f18 ef18 => ?_)
      have xf18 : f18.toInt = a := (sg_exadd ef18 hf16 yf17 (by decide +kernel) xf16 xf17).trans (Int.zero_add _)
      have z19 : iv 0 239 f18 := vq_239 hl0 hav i5 xf18
      refine al_45e X hK hG hq15 (iv_vpin z19 (by decide +kernel)) dX12_isDigit_43 (fun f20 hf20 => ?_)
      have of20 := hf20
      have hf20 : iv (-2147483648) 2147483647 f20 := iv_top f20
      have xf20 : f20.toInt = vS (vC (sgU2 P) (sgL2 P) a) := vq_tp2 of20 xf18 (hav).1 i5 hby
      refine lv_bipush (v := 57) X.1 X.2.1 dX12_isDigit_44 (by decide +kernel) ?_
      refine lv_icmp_gt (tgt := 53) X.1 X.2.1 dX12_isDigit_46 (by decide) (fun c21 => ?_) (fun c21 => ?_)
      · have i22 : (57 : Int) < vS (vC (sgU2 P) (sgL2 P) a) := vq_lt c21 (by decide +kernel) xf20
        have mi22 : vC (sgU2 P) (sgL2 P) a < (48 : Int) ∨ (57 : Int) < vC (sgU2 P) (sgL2 P) a := vS_gt i22 (vC_by2 hby _)
        refine lv_iconst (v := 0) X.1 X.2.1 dX12_isDigit_53 (by decide +kernel) ?_
        exact sg_zretP X hr (sg_zn (iv_of (iv_c 0 (a := 0) (b := 0) (by decide +kernel)) (a' := 0) (b' := 1) (by decide +kernel))) hlk hS (Or.inr ⟨rfl, mi22⟩) dX12_isDigit_54
      · have i23 : ¬ (57 : Int) < vS (vC (sgU2 P) (sgL2 P) a) := vq_le (iv_ge_of c21) xf20 (by decide +kernel)
        have mi23 : ¬ (57 : Int) < vC (sgU2 P) (sgL2 P) a := vS_le i14 i23 (vC_by2 hby _)
        refine lv_iconst (v := 1) X.1 X.2.1 dX12_isDigit_49 (by decide +kernel) ?_
        refine lv_goto (tgt := 54) X.1 X.2.1 dX12_isDigit_50 (by decide) ?_
        exact sg_zretP X hr (sg_zn (iv_of (iv_c 1 (a := 1) (b := 1) (by decide +kernel)) (a' := 0) (b' := 1) (by decide +kernel))) hlk hS (Or.inl ⟨rfl, mi14, mi23⟩) dX12_isDigit_54

theorem ca_X12_isDigit_e  {a f1 f2 d1 d2 : Int} {z : sgZt}  (X : CallFix p m c cc nL s args sg_tbl own) (hK : va_K D vwCl tys s) (hG : sgG (KE a a f1 f2 d1 d2 z P) D vwCl (fun q : Nat => base ≤ q) tys ad ks H) (hC : sgC base s) (hA : ∀ q : Nat, A q → base ≤ q) (hS : va_S A s.heap H locs) (hb : base ≤ s.heap.size) (a0 : Nat) (h0 : isK ad ks 12 a0) (hl0 : 0 ≤ sgL2 P ∧ sgL2 P ≤ 240) (hav : 0 ≤ a ∧ a ≤ sgL2 P) (hby : sgBy2 P) (hl : Cond.methodLink own index yX12_isDigit ∈ sg_tbl) (hsize : ls.size = nL) (hst : st0 = [].reverse ++ .ref a0 :: rest) (hW : (rest.map fun v => v.category).sum ≤ 8) (hR : 1 ≤ R.frames ∧ 20 ≤ R.locals) (hf : cells ≤ R.cells ∧ slots ≤ R.slots) (hdg : decode cc pc = .ok (.invokevirtual index, 3)) (kk : ∀ (r : Int32) (locs1 : List Loc), (fun r : Int32 => (r = 1 ∧ ¬ vC (sgU2 P) (sgL2 P) a < 48 ∧ ¬ 57 < vC (sgU2 P) (sgL2 P) a) ∨ (r = 0 ∧ (vC (sgU2 P) (sgL2 P) a < 48 ∨ 57 < vC (sgU2 P) (sgL2 P) a))) r → va_S A s.heap H locs1 → W p l e R s m args below meth c H locs1 cells slots Q (F0 m (pc + 3) ls (.int r :: rest))) : W p l e R s m args below meth c H locs cells slots Q (F0 m pc ls st0) :=
  sg_callPVi X hK hG hC hA hS hb (m_X12_isDigit_e l a0 h0 hl0 hav hby) h0 (k := 12) (ci := 12) rfl (C := RX12) (T := TX12) (N := 53) rfl wl_7_190 wl_1_13 wl_7_189 wl_0_56 (n := 0) (by decide +kernel) rfl rfl rfl hl hsize hst hW hR hf hdg kk

set_option maxHeartbeats 8000000 in
set_option maxRecDepth 100000 in
theorem m_X12_here_e (l : Launch) {D : va_G} {base : Nat} {tys : List (ClassId × FieldType)} {ad ks : List Nat} {P : sgPm}{a d1 d2 : Int} {z : sgZt}  {Hx : Heap} (a0 : Nat) (h0 : isK ad ks 12 a0) (hl0 : 0 ≤ sgL2 P ∧ sgL2 P ≤ 240) (hsv : 0 ≤ a ∧ a < sgL2 P) (hby : sgBy2 P) : sgPi l (KE a a (-1) (-1) d1 d2 z P) D vwCl base tys ad ks Hx yX12_here cX12_here 1 (some .int) ({ frames := 0, cells := 0, slots := 0, locals := 0 }) [.ref a0] (fun r : Int32 => r.toInt = vC (sgU2 P) (sgL2 P) a) := by
  refine sg_ofP (Pq := fun Hx => va_Qi (fun r (_ : Unit) => (fun r : Int32 => r.toInt = vC (sgU2 P) (sgL2 P) a) r) (fun _ t => t.heap = Hx) (fun _ : Nat => False)) (by decide +kernel) (Nat.le_of_ble_eq_true rfl) (fun p e s m below meth c X hr hlk hb hK hC hG ls hl => ?_)
  have hS : va_S (fun _ : Nat => False) s.heap s.heap [] := va_S.rf
  have hl : lv_has ls 1 [(0, .ref a0)] := hl
  refine lv_aload_n X.1 X.2.1 dX12_here_0 rfl (lv_at hl 0 rfl) ?_
  refine gf_X12_10e X hK hG h0 wl_6_188 dX12_here_1 (fun f1 hf1 => ?_)
  have xf1 : f1.toInt = a := vq_iv hf1
  have yf1 : iv 0 240 f1 := vq_240 hl0 (And.intro hsv.1 (Int.le_of_lt hsv.2)) xf1
  refine lv_aload_n X.1 X.2.1 dX12_here_4 rfl (lv_at hl 0 rfl) ?_
  refine gf_X12_9e X hK hG h0 wl_6_187 dX12_here_5 (fun f2 hf2 => ?_)
  have xf2 : f2.toInt = sgL2 P := sgC240_eq hf2 hl0.1 hl0.2
  have yf2 : iv 0 240 f2 := vq_of xf2 hl0
  refine lv_icmp_ge (tgt := 32) X.1 X.2.1 dX12_here_8 (by decide) (fun c3 => ?_) (fun c3 => ?_)
  · have ci4 : vC (sgU2 P) (sgL2 P) a = 0 := vC_out (Int.not_lt.mp (vq_le c3 xf2 xf1))
    have i4 : ¬ a < sgL2 P := vq_le c3 xf2 xf1
    exact absurd hsv.2 i4
  · have i5 : a < sgL2 P := vq_lt (iv_gt_of c3) xf1 xf2
    refine lv_aload_n X.1 X.2.1 dX12_here_11 rfl (lv_at hl 0 rfl) ?_
    refine gf_X12_5e X hK hG h0 wl_6_183 dX12_here_12 (fun q6 hq6 => ?_)
    refine lv_aload_n X.1 X.2.1 dX12_here_15 rfl (lv_at hl 0 rfl) ?_
    refine gf_X12_8e X hK hG h0 wl_6_186 dX12_here_16 (fun f7 hf7 => ?_)
    have xf7 : f7.toInt = 0 := vq_iv hf7
    refine lv_aload_n X.1 X.2.1 dX12_here_19 rfl (lv_at hl 0 rfl) ?_
    refine gf_X12_10e X hK hG h0 wl_6_188 dX12_here_20 (fun f8 hf8 => ?_)
    have xf8 : f8.toInt = a := vq_iv hf8
    have yf8 : iv 0 240 f8 := vq_240 hl0 (And.intro hsv.1 (Int.le_of_lt hsv.2)) xf8
    refine lv_iadd X.1 X.2.1 dX12_here_23 ?_
    refine lv_topi (fun f9 ef9 => ?_)
    have xf9 : f9.toInt = a := (sg_exadd ef9 hf7 yf8 (by decide +kernel) xf7 xf8).trans (Int.zero_add _)
    have z10 : iv 0 239 f9 := vq_239 hl0 (And.intro hsv.1 (Int.le_of_lt hsv.2)) i5 xf9
    refine al_45e X hK hG hq6 (iv_vpin z10 (by decide +kernel)) dX12_here_24 (fun f11 hf11 => ?_)
    have of11 := hf11
    have hf11 : iv (-2147483648) 2147483647 f11 := iv_top f11
    have xf11 : f11.toInt = vS (vC (sgU2 P) (sgL2 P) a) := vq_tp2 of11 xf9 ((And.intro hsv.1 (Int.le_of_lt hsv.2))).1 i5 hby
    refine lv_sipush (v := 255) X.1 X.2.1 dX12_here_25 (by decide +kernel) ?_
    refine lv_iand X.1 X.2.1 dX12_here_28 ?_
    refine lv_topi (fun f12 ef12 => ?_)
    have xf12 : f12.toInt = vC (sgU2 P) (sgL2 P) a := vq_and ef12 xf11 (vC_by2 hby _)
    refine lv_goto (tgt := 33) X.1 X.2.1 dX12_here_29 (by decide) ?_
    exact sg_iretP X hr hlk hS xf12 dX12_here_33

theorem ca_X12_here_e  {a d1 d2 : Int} {z : sgZt}  (X : CallFix p m c cc nL s args sg_tbl own) (hK : va_K D vwCl tys s) (hG : sgG (KE a a (-1) (-1) d1 d2 z P) D vwCl (fun q : Nat => base ≤ q) tys ad ks H) (hC : sgC base s) (hA : ∀ q : Nat, A q → base ≤ q) (hS : va_S A s.heap H locs) (hb : base ≤ s.heap.size) (a0 : Nat) (h0 : isK ad ks 12 a0) (hl0 : 0 ≤ sgL2 P ∧ sgL2 P ≤ 240) (hsv : 0 ≤ a ∧ a < sgL2 P) (hby : sgBy2 P) (hl : Cond.methodLink own index yX12_here ∈ sg_tbl) (hsize : ls.size = nL) (hst : st0 = [].reverse ++ .ref a0 :: rest) (hW : (rest.map fun v => v.category).sum ≤ 8) (hR : 1 ≤ R.frames ∧ 20 ≤ R.locals) (hf : cells ≤ R.cells ∧ slots ≤ R.slots) (hdg : decode cc pc = .ok (.invokevirtual index, 3)) (kk : ∀ (r : Int32) (locs1 : List Loc), (fun r : Int32 => r.toInt = vC (sgU2 P) (sgL2 P) a) r → va_S A s.heap H locs1 → W p l e R s m args below meth c H locs1 cells slots Q (F0 m (pc + 3) ls (.int r :: rest))) : W p l e R s m args below meth c H locs cells slots Q (F0 m pc ls st0) :=
  sg_callPVi X hK hG hC hA hS hb (m_X12_here_e l a0 h0 hl0 hsv hby) h0 (k := 12) (ci := 12) rfl (C := RX12) (T := TX12) (N := 53) rfl wl_7_194 wl_1_13 wl_7_193 wl_0_57 (n := 0) (by decide +kernel) rfl rfl rfl hl hsize hst hW hR hf hdg kk

set_option maxHeartbeats 8000000 in
set_option maxRecDepth 100000 in
theorem m_X12_takes_e (l : Launch) {D : va_G} {base : Nat} {tys : List (ClassId × FieldType)} {ad ks : List Nat} {P : sgPm}{a d1 d2 cw : Int} {z : sgZt}  (a0 : Nat) (h0 : isK ad ks 12 a0) (x1 : Int32) (hl0 : 0 ≤ sgL2 P ∧ sgL2 P ≤ 240) (hav : 0 ≤ a ∧ a ≤ sgL2 P) (hby : sgBy2 P) (hd0 : 0 ≤ d1 ∧ d2 ≤ 6) (hx1 : x1.toInt = cw ∧ 0 < cw) : Met l yX12_takes (Cond.code yX12_takes cX12_takes 2 (some .boolean) :: sg_tbl) ({ frames := 1, cells := 0, slots := 0, locals := 20 }) (va_Pc [.ref a0, .int x1] (sgB (KE a a (-1) (-1) d1 d2 z P) D vwCl base tys ad ks)) (va_Qi (fun r (u : Int32) => u = r ∧ (fun r : Int32 => iv 0 1 r) r) (fun u t => (u = 1 ∧ ∃ a1 : Int, vD (sgU2 P) (sgL2 P) cw (vX (sgU2 P) (sgL2 P) a) = (true, vX (sgU2 P) (sgL2 P) a1) ∧ a + 1 ≤ a1 ∧ a1 ≤ sgL2 P ∧ sgB (KE a1 a1 (-1) (-1) d1 d2 z P) D vwCl base tys ad ks t) ∨ (u = 0 ∧ ∃ w : Int, vD (sgU2 P) (sgL2 P) cw (vX (sgU2 P) (sgL2 P) a) = (false, w) ∧ 0 ≤ w ∧ w ≤ 240 ∧ sgB (KE 0 241 w w d1 d2 z P) D vwCl base tys ad ks t)) (fun q : Nat => base ≤ q)) 0 0 (fun q : Nat => base ≤ q) := by
  refine sg_ofW (by decide +kernel) (Nat.le_of_ble_eq_true rfl) (fun p e s m below meth c X hr hlk hb hK hC hG ls hl => ?_)
  have hS : va_S (fun q : Nat => base ≤ q) s.heap s.heap [] := va_S.rf
  have hl : lv_has ls 2 [(0, .ref a0), (1, .int x1)] := hl
  refine lv_aload_n X.1 X.2.1 dX12_takes_0 rfl (lv_at hl 0 rfl) ?_
  refine gf_X12_11e X hK hG h0 wl_6_189 dX12_takes_1 (fun f1 hf1 => ?_)
  refine lv_iconst (v := (-1)) X.1 X.2.1 dX12_takes_4 (by decide +kernel) ?_
  refine lv_icmp_ne (tgt := 16) X.1 X.2.1 dX12_takes_5 (by decide) (fun c2 => ?_) (fun c2 => ?_)
  · have i3 : (((-1) : Int) = ((-1) : Int)) = False := vq_ne c2 (vq_iv hf1) (by decide +kernel)
    exact ((c2 (iv_one hf1 (iv_c (-1) (a := (-1)) (b := (-1)) (by decide +kernel)) (by decide +kernel)))).elim
  · have i4 : ((-1) : Int) = ((-1) : Int) := vq_eq c2 (vq_iv hf1) (by decide +kernel)
    refine lv_aload_n X.1 X.2.1 dX12_takes_8 rfl (lv_at hl 0 rfl) ?_
    refine ca_X12_look_e X hK hG hC hS hb a0 h0 hl0 hav hby wl_7_137 hl.1 (rest := []) rfl (Nat.le_of_ble_eq_true rfl) ⟨Nat.le_of_ble_eq_true rfl, Nat.le_of_ble_eq_true rfl⟩ ⟨Nat.le_of_ble_eq_true rfl, Nat.le_of_ble_eq_true rfl⟩ dX12_takes_9 (fun f5 tf5 H locs htf5 hf5 hWf5 hS => ?_)
    have hBf5 := hWf5.2
    have xf5 := hWf5.1
    have hG := hBf5.2.2.2
    rw [htf5] at hG
    have b6 := vq_bdL (b := sgU2 P) hav
    have eb6 : a ≤ vX (sgU2 P) (sgL2 P) a := (vX_ge (sgU2 P) (sgL2 P) a).1
    have pb6 : a + 0 ≤ vX (sgU2 P) (sgL2 P) a := Int.le_trans (vq_pg0 a) (vX_ge (sgU2 P) (sgL2 P) a).1
    have yf5 : iv (-1) 255 f5 := vq_lk xf5 (vC_by2 hby _)
    refine lv_iload_n X.1 X.2.1 dX12_takes_12 rfl (lv_at hl 1 rfl) ?_
    refine lv_icmp_eq (tgt := 21) X.1 X.2.1 dX12_takes_13 (by decide) (fun c7 => ?_) (fun c7 => ?_)
    · have i8 : vE (vC (sgU2 P) (sgL2 P) (vX (sgU2 P) (sgL2 P) a)) = cw := vq_eq c7 xf5 hx1.1
      have mi8 : vC (sgU2 P) (sgL2 P) (vX (sgU2 P) (sgL2 P) a) = cw := vE_eq' i8 hx1.2
      refine lv_aload_n X.1 X.2.1 dX12_takes_21 rfl (lv_at hl 0 rfl) ?_
      refine lv_dup X.1 X.2.1 dX12_takes_22 rfl ?_
      refine gf_X12_10e X hK hG h0 wl_6_188 dX12_takes_23 (fun f10 hf10 => ?_)
      have xf10 : f10.toInt = (vX (sgU2 P) (sgL2 P) a) := vq_iv hf10
      have yf10 : iv 0 240 f10 := vq_240 hl0 b6 xf10
      refine lv_iconst (v := 1) X.1 X.2.1 dX12_takes_26 (by decide +kernel) ?_
      refine lv_iadd X.1 X.2.1 dX12_takes_27 ?_
      refine lv_topi (fun f11 ef11 => ?_)
      have xf11 : f11.toInt = ((vX (sgU2 P) (sgL2 P) a) + 1) := sg_exadd ef11 yf10 (iv_c 1 (a := 1) (b := 1) (by decide +kernel)) (by decide +kernel) xf10 (by decide +kernel)
      refine pf_X12_10E (b1 := ((vX (sgU2 P) (sgL2 P) a) + 1)) (b2 := ((vX (sgU2 P) (sgL2 P) a) + 1)) X hK hG hS h0 wl_6_188 (vq_of (lo := ((vX (sgU2 P) (sgL2 P) a) + 1)) (hi := ((vX (sgU2 P) (sgL2 P) a) + 1)) xf11 ⟨Int.le_refl _, Int.le_refl _⟩) dX12_takes_28 (fun H locs hG hS => ?_)
      have l12 := (vC_lt (b := sgU2 P) (n := sgL2 P) (a := (vX (sgU2 P) (sgL2 P) a)) (by rw [mi8]; omega)).2
      have b13 := vq_bd1 b6 l12
      have pb13 : a + 1 ≤ ((vX (sgU2 P) (sgL2 P) a) + 1) := vq_pg pb6 (m := 1) (Int.le_refl _) (by decide)
      refine lv_iconst (v := 1) X.1 X.2.1 dX12_takes_31 (by decide +kernel) ?_
      have spr : vD (sgU2 P) (sgL2 P) cw (vX (sgU2 P) (sgL2 P) a) = (true, vX (sgU2 P) (sgL2 P) ((vX (sgU2 P) (sgL2 P) a) + 1)) := by simp only [vD, i4, i8, mi8, cond_true, cond_false, vB_t, vB_f, if_true, if_false, eq_self, not_true_eq_false, not_false_eq_true, Int.reduceEq, Int.reduceLT, or_false, false_or, or_true, true_or]
      exact sg_zret2 X hr (sg_zn (iv_of (iv_c 1 (a := 1) (b := 1) (by decide +kernel)) (a' := 0) (b' := 1) (by decide +kernel))) hlk hS (iv_of (iv_c 1 (a := 1) (b := 1) (by decide +kernel)) (a' := 0) (b' := 1) (by decide +kernel)) (fun t ht hW => (Or.inl ⟨rfl, _, spr, vq_pgw pb13 (by decide), (b13).2, sg_post hb hK hC hG hS ht hW⟩)) dX12_takes_32
    · have i9 : (vE (vC (sgU2 P) (sgL2 P) (vX (sgU2 P) (sgL2 P) a)) = cw) = False := vq_ne c7 xf5 hx1.1
      have mi9 : (vC (sgU2 P) (sgL2 P) (vX (sgU2 P) (sgL2 P) a) = cw) = False := vE_ne' i9 hx1.2
      refine lv_aload_n X.1 X.2.1 dX12_takes_16 rfl (lv_at hl 0 rfl) ?_
      refine ca_X12_fails_e X hK hG hC hS hb a0 h0 hl0 b6 wl_7_141 hl.1 (rest := []) rfl (Nat.le_of_ble_eq_true rfl) ⟨Nat.le_of_ble_eq_true rfl, Nat.le_of_ble_eq_true rfl⟩ ⟨Nat.le_of_ble_eq_true rfl, Nat.le_of_ble_eq_true rfl⟩ dX12_takes_17 (fun f14 tf14 H locs htf14 hf14 hWf14 hS => ?_)
      have hG := hWf14.2.2.2
      rw [htf14] at hG
      obtain rfl : f14 = 0 := sg_is0 hf14
      have spr : vD (sgU2 P) (sgL2 P) cw (vX (sgU2 P) (sgL2 P) a) = (false, (vX (sgU2 P) (sgL2 P) a)) := by simp only [vD, i4, i9, mi9, cond_true, cond_false, vB_t, vB_f, if_true, if_false, eq_self, not_true_eq_false, not_false_eq_true, Int.reduceEq, Int.reduceLT, or_false, false_or, or_true, true_or]
      have hG := ke_weak (b1 := 0) (b2 := 241) (g1 := (vX (sgU2 P) (sgL2 P) a)) (g2 := (vX (sgU2 P) (sgL2 P) a)) (e1 := d1) (e2 := d2) hG (b6).1 (Int.le_trans (b6).2 (Int.le_trans hl0.2 (by decide))) (Int.le_refl _) (Int.le_refl _) (Int.le_refl _) (Int.le_refl _)
      exact sg_zret2 X hr (sg_zn (iv_of (iv_c 0 (a := 0) (b := 0) (by decide +kernel)) (a' := 0) (b' := 1) (by decide +kernel))) hlk hS (iv_of (iv_c 0 (a := 0) (b := 0) (by decide +kernel)) (a' := 0) (b' := 1) (by decide +kernel)) (fun t ht hW => (Or.inr ⟨rfl, _, spr, ((vq_bw b6 hl0)).1, ((vq_bw b6 hl0)).2, sg_post hb hK hC hG hS ht hW⟩)) dX12_takes_20

theorem ca_X12_takes_e  {a d1 d2 cw : Int} {z : sgZt}  (X : CallFix p m c cc nL s args sg_tbl own) (hK : va_K D vwCl tys s) (hG : sgG (KE a a (-1) (-1) d1 d2 z P) D vwCl (fun q : Nat => base ≤ q) tys ad ks H) (hC : sgC base s) (hS : va_S (fun q : Nat => base ≤ q) s.heap H locs) (hb : base ≤ s.heap.size) (a0 : Nat) (h0 : isK ad ks 12 a0) (x1 : Int32) (hl0 : 0 ≤ sgL2 P ∧ sgL2 P ≤ 240) (hav : 0 ≤ a ∧ a ≤ sgL2 P) (hby : sgBy2 P) (hd0 : 0 ≤ d1 ∧ d2 ≤ 6) (hx1 : x1.toInt = cw ∧ 0 < cw) (hl : Cond.methodLink own index yX12_takes ∈ sg_tbl) (hsize : ls.size = nL) (hst : st0 = [.int x1].reverse ++ .ref a0 :: rest) (hW : (rest.map fun v => v.category).sum ≤ 8) (hR : 2 ≤ R.frames ∧ 41 ≤ R.locals) (hf : cells ≤ R.cells ∧ slots ≤ R.slots) (hdg : decode cc pc = .ok (.invokevirtual index, 3)) (kk : ∀ (r : Int32) (t : State) (H1 : Heap) (locs1 : List Loc), t.heap = H1 → (fun r : Int32 => iv 0 1 r) r → ((r = 1 ∧ ∃ a1 : Int, vD (sgU2 P) (sgL2 P) cw (vX (sgU2 P) (sgL2 P) a) = (true, vX (sgU2 P) (sgL2 P) a1) ∧ a + 1 ≤ a1 ∧ a1 ≤ sgL2 P ∧ sgB (KE a1 a1 (-1) (-1) d1 d2 z P) D vwCl base tys ad ks t) ∨ (r = 0 ∧ ∃ w : Int, vD (sgU2 P) (sgL2 P) cw (vX (sgU2 P) (sgL2 P) a) = (false, w) ∧ 0 ≤ w ∧ w ≤ 240 ∧ sgB (KE 0 241 w w d1 d2 z P) D vwCl base tys ad ks t)) → va_S (fun q : Nat => base ≤ q) s.heap H1 locs1 → W p l e R s m args below meth c H1 locs1 cells slots Q (F0 m (pc + 3) ls (.int r :: rest))) : W p l e R s m args below meth c H locs cells slots Q (F0 m pc ls st0) :=
  sg_callV2i X hK hG hC hS hb (m_X12_takes_e l a0 h0 x1 hl0 hav hby hd0 hx1) h0 (k := 12) (ci := 12) rfl (C := RX12) (T := TX12) (N := 53) rfl wl_7_220 wl_1_13 wl_7_219 wl_0_60 (n := 1) (by decide +kernel) rfl rfl rfl hl hsize hst hW hR hf hdg kk

set_option maxHeartbeats 8000000 in
set_option maxRecDepth 100000 in
theorem m_X12_takes_eb (l : Launch) {D : va_G} {base : Nat} {tys : List (ClassId × FieldType)} {ad ks : List Nat} {P : sgPm}{w d1 d2 : Int} {z : sgZt}  (a0 : Nat) (h0 : isK ad ks 12 a0) (x1 : Int32) (hw0 : 0 ≤ w ∧ w ≤ 240) : Met l yX12_takes (Cond.code yX12_takes cX12_takes 2 (some .boolean) :: sg_tbl) ({ frames := 1, cells := 0, slots := 0, locals := 20 }) (va_Pc [.ref a0, .int x1] (sgB (KE 0 241 w w d1 d2 z P) D vwCl base tys ad ks)) (va_Qi (fun r (u : Int32) => u = r ∧ (fun r : Int32 => iv 0 0 r) r) (fun u t => sgB (KE 0 241 w w d1 d2 z P) D vwCl base tys ad ks t) (fun q : Nat => base ≤ q)) 0 0 (fun q : Nat => base ≤ q) := by
  refine sg_ofW (by decide +kernel) (Nat.le_of_ble_eq_true rfl) (fun p e s m below meth c X hr hlk hb hK hC hG ls hl => ?_)
  have hS : va_S (fun q : Nat => base ≤ q) s.heap s.heap [] := va_S.rf
  have hl : lv_has ls 2 [(0, .ref a0), (1, .int x1)] := hl
  refine lv_aload_n X.1 X.2.1 dX12_takes_0 rfl (lv_at hl 0 rfl) ?_
  refine gf_X12_11e X hK hG h0 wl_6_189 dX12_takes_1 (fun f1 hf1 => ?_)
  have xf1 : f1.toInt = w := vq_iv hf1
  have yf1 : iv 0 240 f1 := vq_of xf1 hw0
  refine lv_iconst (v := (-1)) X.1 X.2.1 dX12_takes_4 (by decide +kernel) ?_
  refine lv_icmp_ne (tgt := 16) X.1 X.2.1 dX12_takes_5 (by decide) (fun c2 => ?_) (fun c2 => ?_)
  · have i3 : (w = ((-1) : Int)) = False := vq_ne c2 xf1 (by decide +kernel)
    refine lv_aload_n X.1 X.2.1 dX12_takes_16 rfl (lv_at hl 0 rfl) ?_
    refine ca_X12_fails_eb X hK hG hC hS hb a0 h0 hw0 wl_7_141 hl.1 (rest := []) rfl (Nat.le_of_ble_eq_true rfl) ⟨Nat.le_of_ble_eq_true rfl, Nat.le_of_ble_eq_true rfl⟩ ⟨Nat.le_of_ble_eq_true rfl, Nat.le_of_ble_eq_true rfl⟩ dX12_takes_17 (fun f5 tf5 H locs htf5 hf5 hWf5 hS => ?_)
    have hG := hWf5.2.2.2
    rw [htf5] at hG
    obtain rfl : f5 = 0 := sg_is0 hf5
    exact sg_zret2 X hr (sg_zn (iv_of (iv_c 0 (a := 0) (b := 0) (by decide +kernel)) (a' := 0) (b' := 1) (by decide +kernel))) hlk hS (iv_c 0 (a := 0) (b := 0) (by decide +kernel)) (fun t ht hW => sg_post hb hK hC hG hS ht hW) dX12_takes_20
  · have i4 : w = ((-1) : Int) := vq_eq c2 xf1 (by decide +kernel)
    exact ((iv_no (a := 0) (b := (-1)) (iv_eqm c2 yf1 (iv_c (-1) (a := (-1)) (b := (-1)) (by decide +kernel)) (by decide +kernel)) (by decide +kernel))).elim

theorem ca_X12_takes_eb  {w d1 d2 : Int} {z : sgZt}  (X : CallFix p m c cc nL s args sg_tbl own) (hK : va_K D vwCl tys s) (hG : sgG (KE 0 241 w w d1 d2 z P) D vwCl (fun q : Nat => base ≤ q) tys ad ks H) (hC : sgC base s) (hS : va_S (fun q : Nat => base ≤ q) s.heap H locs) (hb : base ≤ s.heap.size) (a0 : Nat) (h0 : isK ad ks 12 a0) (x1 : Int32) (hw0 : 0 ≤ w ∧ w ≤ 240) (hl : Cond.methodLink own index yX12_takes ∈ sg_tbl) (hsize : ls.size = nL) (hst : st0 = [.int x1].reverse ++ .ref a0 :: rest) (hW : (rest.map fun v => v.category).sum ≤ 8) (hR : 2 ≤ R.frames ∧ 41 ≤ R.locals) (hf : cells ≤ R.cells ∧ slots ≤ R.slots) (hdg : decode cc pc = .ok (.invokevirtual index, 3)) (kk : ∀ (r : Int32) (t : State) (H1 : Heap) (locs1 : List Loc), t.heap = H1 → (fun r : Int32 => iv 0 0 r) r → (sgB (KE 0 241 w w d1 d2 z P) D vwCl base tys ad ks t) → va_S (fun q : Nat => base ≤ q) s.heap H1 locs1 → W p l e R s m args below meth c H1 locs1 cells slots Q (F0 m (pc + 3) ls (.int r :: rest))) : W p l e R s m args below meth c H locs cells slots Q (F0 m pc ls st0) :=
  sg_callV2i X hK hG hC hS hb (m_X12_takes_eb l a0 h0 x1 hw0) h0 (k := 12) (ci := 12) rfl (C := RX12) (T := TX12) (N := 53) rfl wl_7_220 wl_1_13 wl_7_219 wl_0_60 (n := 1) (by decide +kernel) rfl rfl rfl hl hsize hst hW hR hf hdg kk
end
