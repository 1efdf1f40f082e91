
section
variable {p : Program} {l : Launch} {e : Env} {R : Room} {s : State} {m : MethodId} {args : Array Value} {below : List Frame} {meth : Method} {c : Code} {H : Heap} {locs : List Loc} {cells slots : Nat} {Q : State → Prop} {cc : ByteArray} {nL pc : Nat} {ls : Array Slot} {rest : List Value} {own : String} {D : va_G} {A : Nat → Prop} {tys : List (ClassId × FieldType)} {ad ks : List Nat} {P : sgPm} {H0 : Heap} {index : Nat} {base : Nat} {st0 : List Value} {a : Nat}
theorem gf_X10_0g  {a1 a2 w1 w2 : Int} {z : sgZg} (X : CallFix p m c cc nL s args sg_tbl own) (hK : va_K D vwCl tys s) (hG : sgG (KG a1 a2 w1 w2 z P) D vwCl A tys ad ks H) (ha : isK ad ks 10 a) (hl : Cond.fieldLink own index "LawnAhead$Tape" "bytes" "[I" ∈ sg_tbl) (hdg : decode cc pc = .ok (.getfield index, 3)) (kk : ∀ x : Nat, isK ad ks 42 x → fld D H 10 a 0 (.ref x) → W p l e R s m args below meth c H locs cells slots Q (F0 m (pc + 3) ls (.ref x :: rest))) : W p l e R s m args below meth c H locs cells slots Q (F0 m pc ls (.ref a :: rest)) :=
  sg_get X hK hG ha (k := 10) (ci := 10) rfl (C := RX10) (T := TX10) (N := 4) rfl inL_X10 0 (by decide) rfl hl (fun _ h => h) hdg (fun v hv hf => by
    obtain ⟨h1, -⟩ | ⟨x, rfl, hx⟩ := hv
    · cases h1
    · exact kk x hx hf)
theorem gf_X10_1g  {a1 a2 w1 w2 : Int} {z : sgZg} (X : CallFix p m c cc nL s args sg_tbl own) (hK : va_K D vwCl tys s) (hG : sgG (KG a1 a2 w1 w2 z P) D vwCl A tys ad ks H) (ha : isK ad ks 10 a) (hl : Cond.fieldLink own index "LawnAhead$Tape" "length" "I" ∈ sg_tbl) (hdg : decode cc pc = .ok (.getfield index, 3)) (kk : ∀ x : Int32, iv 0 240 x → iv (sgC240 (sgL1 P)) (sgC240 (sgL1 P)) x → fld D H 10 a 1 (.int x) → W p l e R s m args below meth c H locs cells slots Q (F0 m (pc + 3) ls (.int x :: rest))) : W p l e R s m args below meth c H locs cells slots Q (F0 m pc ls (.ref a :: rest)) :=
  sg_get X hK hG ha (k := 10) (ci := 10) rfl (C := RX10) (T := TX10) (N := 4) rfl inL_X10 1 (by decide) rfl hl (fun _ h => h) hdg (fun v hv hf => by obtain ⟨x, rfl, hx⟩ := hv; exact kk x (sgC240_iv hx) hx hf)
theorem gg_X10_0g  {a1 a2 w1 w2 : Int} {z : sgZg} (X : CallFix p m c cc nL s args sg_tbl own) (hK : va_K D vwCl tys s) (hG : sgG (KG a1 a2 w1 w2 z P) D vwCl A tys ad ks H) (ha : isK ad ks 10 a) (hl : Cond.fieldLink own index "LawnAhead$Tape" "bytes" "[I" ∈ sg_tbl) {v : Value} (hf : fld D H 10 a 0 v) (hdg : decode cc pc = .ok (.getfield index, 3)) (kk : W p l e R s m args below meth c H locs cells slots Q (F0 m (pc + 3) ls (v :: rest))) : W p l e R s m args below meth c H locs cells slots Q (F0 m pc ls (.ref a :: rest)) :=
  sg_getf X hK hG ha (k := 10) (ci := 10) rfl (C := RX10) (T := TX10) (N := 4) rfl inL_X10 0 (by decide) (show 0 < 4 by decide) hl (fun _ h => h) hf hdg kk
theorem gg_X10_1g  {a1 a2 w1 w2 : Int} {z : sgZg} (X : CallFix p m c cc nL s args sg_tbl own) (hK : va_K D vwCl tys s) (hG : sgG (KG a1 a2 w1 w2 z P) D vwCl A tys ad ks H) (ha : isK ad ks 10 a) (hl : Cond.fieldLink own index "LawnAhead$Tape" "length" "I" ∈ sg_tbl) {v : Value} (hf : fld D H 10 a 1 v) (hdg : decode cc pc = .ok (.getfield index, 3)) (kk : W p l e R s m args below meth c H locs cells slots Q (F0 m (pc + 3) ls (v :: rest))) : W p l e R s m args below meth c H locs cells slots Q (F0 m pc ls (.ref a :: rest)) :=
  sg_getf X hK hG ha (k := 10) (ci := 10) rfl (C := RX10) (T := TX10) (N := 4) rfl inL_X10 1 (by decide) (show 1 < 4 by decide) hl (fun _ h => h) hf hdg kk
theorem al_42g  {i : Int32} {a1 a2 w1 w2 : Int} {z : sgZg} (X : CallFix p m c cc nL s args sg_tbl own) (hK : va_K D vwCl tys s) (hG : sgG (KG a1 a2 w1 w2 z P) D vwCl A tys ad ks H) (ha : isK ad ks 42 a) (hin : vp_in i 240) (hdg : decode cc pc = .ok (.iaload, 1)) (kk : ∀ x : Int32, okV ad ks ((sg_tp (sgT1 P) : Nat → sgT) i.toNatClampNeg) (.int x) → W p l e R s m args below meth c H locs cells slots Q (F0 m (pc + 1) ls (.int x :: rest))) : W p l e R s m args below meth c H locs cells slots Q (F0 m pc ls (.int i :: .ref a :: rest)) :=
  sg_iald X hK hG ha (k := 42) rfl hin hdg kk
set_option maxHeartbeats 8000000 in
set_option maxRecDepth 100000 in
theorem m_X10_sign_g (l : Launch) {D : va_G} {base : Nat} {tys : List (ClassId × FieldType)} {ad ks : List Nat} {P : sgPm}{a w1 w2 : Int} {z : sgZg}  {Hx : Heap} (a0 : Nat) (h0 : isK ad ks 10 a0) (hl0 : 0 ≤ sgL1 P ∧ sgL1 P ≤ 240) (hav : 0 ≤ a ∧ a ≤ sgL1 P) : sgPi l (KG a a w1 w2 z P) D vwCl base tys ad ks Hx yX10_sign cX10_sign 1 (some .int) ({ frames := 0, cells := 0, slots := 0, locals := 0 }) [.ref a0] (fun r : Int32 => r.toInt = vC (sgT1 P) (sgL1 P) a) := by
  refine sg_ofP (Pq := fun Hx => va_Qi (fun r (_ : Unit) => (fun r : Int32 => r.toInt = vC (sgT1 P) (sgL1 P) a) r) (fun _ t => t.heap = Hx) (fun _ : Nat => False)) (by decide +kernel) (Nat.le_of_ble_eq_true rfl) (fun p e s m below meth c X hr hlk hb hK hC hG ls hl => ?_)
  have hS : va_S (fun _ : Nat => False) s.heap s.heap [] := va_S.rf
  have hl : lv_has ls 1 [(0, .ref a0)] := hl
  refine lv_aload_n X.1 X.2.1 dX10_sign_0 rfl (lv_at hl 0 rfl) ?_
  refine gf_X10_2g X hK hG h0 wl_1_44 dX10_sign_1 (fun f1 hf1 => ?_)
  have xf1 : f1.toInt = a := vq_iv hf1
  have yf1 : iv 0 240 f1 := vq_240 hl0 hav xf1
  refine lv_aload_n X.1 X.2.1 dX10_sign_4 rfl (lv_at hl 0 rfl) ?_
  refine gf_X10_1g X hK hG h0 wl_1_43 dX10_sign_5 (fun f2 hf2 pf2 kf2 => ?_)
  have xf2 : f2.toInt = sgL1 P := sgC240_eq pf2 hl0.1 hl0.2
  refine lv_icmp_ge (tgt := 23) X.1 X.2.1 dX10_sign_8 (by decide) (fun c3 => ?_) (fun c3 => ?_)
  · have ci4 : vC (sgT1 P) (sgL1 P) a = 0 := vC_out (Int.not_lt.mp (vq_le c3 xf2 xf1))
    have i4 : ¬ a < sgL1 P := vq_le c3 xf2 xf1
    refine lv_iconst (v := 0) X.1 X.2.1 dX10_sign_23 (by decide +kernel) ?_
    exact sg_iretP X hr hlk hS (by rw [vC_out (by omega)]; decide +kernel) dX10_sign_24
  · have i5 : a < sgL1 P := vq_lt (iv_gt_of c3) xf1 xf2
    refine lv_aload_n X.1 X.2.1 dX10_sign_11 rfl (lv_at hl 0 rfl) ?_
    refine gf_X10_0g X hK hG h0 wl_1_41 dX10_sign_12 (fun q6 hq6 kq6 => ?_)
    refine lv_aload_n X.1 X.2.1 dX10_sign_15 rfl (lv_at hl 0 rfl) ?_
    refine gf_X10_2g X hK hG h0 wl_1_44 dX10_sign_16 (fun f7 hf7 => ?_)
    have xf7 : f7.toInt = a := vq_iv hf7
    have yf7 : iv 0 240 f7 := vq_240 hl0 hav xf7
    have z8 : iv 0 239 f7 := vq_239 hl0 hav i5 xf7
    refine al_42g X hK hG hq6 (iv_vpin z8 (by decide +kernel)) dX10_sign_19 (fun f9 hf9 => ?_)
    have of9 := hf9
    have hf9 : iv (-2147483648) 2147483647 f9 := iv_top f9
    have xf9 : f9.toInt = vC (sgT1 P) (sgL1 P) a := vq_tp (n := sgL1 P) of9 xf7 (hav).1 i5
    refine lv_goto (tgt := 24) X.1 X.2.1 dX10_sign_20 (by decide) ?_
    exact sg_iretP X hr hlk hS xf9 dX10_sign_24

theorem ca_X10_sign_g  {a w1 w2 : Int} {z : sgZg}  (X : CallFix p m c cc nL s args sg_tbl own) (hK : va_K D vwCl tys s) (hG : sgG (KG a a w1 w2 z P) D vwCl (fun q : Nat => base ≤ q) tys ad ks H) (hC : sgC base s) (hA : ∀ q : Nat, A q → base ≤ q) (hS : va_S A s.heap H locs) (hb : base ≤ s.heap.size) (a0 : Nat) (h0 : isK ad ks 10 a0) (hl0 : 0 ≤ sgL1 P ∧ sgL1 P ≤ 240) (hav : 0 ≤ a ∧ a ≤ sgL1 P) (hl : Cond.methodLink own index yX10_sign ∈ sg_tbl) (hsize : ls.size = nL) (hst : st0 = [].reverse ++ .ref a0 :: rest) (hW : (rest.map fun v => v.category).sum ≤ 8) (hR : 1 ≤ R.frames ∧ 20 ≤ R.locals) (hf : cells ≤ R.cells ∧ slots ≤ R.slots) (hdg : decode cc pc = .ok (.invokevirtual index, 3)) (kk : ∀ (r : Int32) (locs1 : List Loc), (fun r : Int32 => r.toInt = vC (sgT1 P) (sgL1 P) a) r → va_S A s.heap H locs1 → W p l e R s m args below meth c H locs1 cells slots Q (F0 m (pc + 3) ls (.int r :: rest))) : W p l e R s m args below meth c H locs cells slots Q (F0 m pc ls st0) :=
  sg_callPVi X hK hG hC hA hS hb (m_X10_sign_g l a0 h0 hl0 hav) h0 (k := 10) (ci := 10) rfl (C := RX10) (T := TX10) (N := 4) rfl wl_3_50 wl_1_2 wl_3_48 wl_3_49 (n := 0) (by decide +kernel) rfl rfl rfl hl hsize hst hW hR hf hdg kk

set_option maxHeartbeats 8000000 in
set_option maxRecDepth 100000 in
theorem m_X10_rewind_g (l : Launch) {D : va_G} {base : Nat} {tys : List (ClassId × FieldType)} {ad ks : List Nat} {P : sgPm}{z : sgZg}  (a0 : Nat) (h0 : isK ad ks 10 a0) (hl0 : 0 ≤ sgL1 P ∧ sgL1 P ≤ 240) : Met l yX10_rewind (Cond.code yX10_rewind cX10_rewind 1 none :: sg_tbl) ({ frames := 0, cells := 0, slots := 0, locals := 0 }) (va_Pc [.ref a0] (sgB (KG 0 240 (-2147483648) 2147483647 z P) D vwCl base tys ad ks)) (va_Qv (fun (_ : Unit) => True) (fun _ => fun t => sgB (KG (vX (sgT1 P) (sgL1 P) 0) (vX (sgT1 P) (sgL1 P) 0) (-1) (-1) z P) D vwCl base tys ad ks t) (fun q : Nat => base ≤ q)) 0 0 (fun q : Nat => base ≤ q) := by
  refine sg_ofW (by decide +kernel) (Nat.le_of_ble_eq_true rfl) (fun p e s m below meth c X hr hlk hb hK hC hG ls hl => ?_)
  have hS : va_S (fun q : Nat => base ≤ q) s.heap s.heap [] := va_S.rf
  have hl : lv_has ls 1 [(0, .ref a0)] := hl
  refine lv_aload_n X.1 X.2.1 dX10_rewind_0 rfl (lv_at hl 0 rfl) ?_
  refine lv_iconst (v := (-1)) X.1 X.2.1 dX10_rewind_1 (by decide +kernel) ?_
  refine pf_X10_3G (b1 := (-1)) (b2 := (-1)) X hK hG hS h0 wl_1_45 (vq_of (lo := (-1)) (hi := (-1)) (by decide +kernel) ⟨Int.le_refl _, Int.le_refl _⟩) dX10_rewind_2 (fun H locs hG hS => ?_)
  refine lv_aload_n X.1 X.2.1 dX10_rewind_5 rfl (lv_at hl 0 rfl) ?_
  refine lv_iconst (v := 0) X.1 X.2.1 dX10_rewind_6 (by decide +kernel) ?_
  refine pf_X10_2G (b1 := 0) (b2 := 0) X hK hG hS h0 wl_1_44 (vq_of (lo := 0) (hi := 0) (by decide +kernel) ⟨Int.le_refl _, Int.le_refl _⟩) dX10_rewind_7 (fun H locs hG hS => ?_)
  have B1_10 : ∀ (N : Nat) (H : Heap) (locs : List Loc) (ls : Array Slot) (a1 : Int), 0 ≤ a1 → a1 ≤ sgL1 P → sgG (KG a1 a1 (-1) (-1) z P) D vwCl (fun q : Nat => base ≤ q) tys ad ks H → va_S (fun q : Nat => base ≤ q) s.heap H locs → lv_has ls 1 [(0, .ref a0)] → vX (sgT1 P) (sgL1 P) 0 = vX (sgT1 P) (sgL1 P) a1 → (242 - a1).toNat ≤ N → W p l e (headSpec (Cond.code yX10_rewind cX10_rewind 1 none :: sg_tbl) ({ frames := 0, cells := 0, slots := 0, locals := 0 })).room s m #[.ref a0] below meth c H locs 0 0 (MQ below (va_Qv (fun (_ : Unit) => True) (fun _ => fun t => sgB (KG (vX (sgT1 P) (sgL1 P) 0) (vX (sgT1 P) (sgL1 P) 0) (-1) (-1) z P) D vwCl base tys ad ks t) (fun q : Nat => base ≤ q)) #[.ref a0] s 0 0 (fun q : Nat => base ≤ q)) (F0 m 10 ls []) := by
    intro N; induction N with
    | zero =>
      intro H locs ls a1 jl1 jm1 hG hS hl xf1 hN
      exact absurd hN (by have := jm1; omega)
    | succ N ih1 =>
      intro H locs ls a1 jl1 jm1 hG hS hl xf1 hN1
      refine lv_aload_n X.1 X.2.1 dX10_rewind_10 rfl (lv_at hl 0 rfl) ?_
      refine gf_X10_2g X hK hG h0 wl_1_44 dX10_rewind_11 (fun f2 hf2 => ?_)
      have xf2 : f2.toInt = a1 := vq_iv hf2
      have yf2 : iv 0 240 f2 := vq_240 hl0 (And.intro jl1 jm1) xf2
      refine lv_aload_n X.1 X.2.1 dX10_rewind_14 rfl (lv_at hl 0 rfl) ?_
      refine gf_X10_1g X hK hG h0 wl_1_43 dX10_rewind_15 (fun f3 hf3 pf3 kf3 => ?_)
      have xf3 : f3.toInt = sgL1 P := sgC240_eq pf3 hl0.1 hl0.2
      refine lv_icmp_ge (tgt := 48) X.1 X.2.1 dX10_rewind_18 (by decide) (fun c4 => ?_) (fun c4 => ?_)
      · have ci5 : vC (sgT1 P) (sgL1 P) a1 = 0 := vC_out (Int.not_lt.mp (vq_le c4 xf3 xf2))
        have i5 : ¬ a1 < sgL1 P := vq_le c4 xf3 xf2
        have hz : vX (sgT1 P) (sgL1 P) 0 = a1 := xf1.trans (vX_at (by first | omega | exact of_eq_false (by assumption)))
        rw [← hz] at hG
        exact sg_vret2 X hr hlk hS (fun t ht hW => sg_post hb hK hC hG hS ht hW) dX10_rewind_48
      · have i6 : a1 < sgL1 P := vq_lt (iv_gt_of c4) xf2 xf3
        refine lv_aload_n X.1 X.2.1 dX10_rewind_21 rfl (lv_at hl 0 rfl) ?_
        refine gf_X10_0g X hK hG h0 wl_1_41 dX10_rewind_22 (fun q7 hq7 kq7 => ?_)
        refine lv_aload_n X.1 X.2.1 dX10_rewind_25 rfl (lv_at hl 0 rfl) ?_
        refine gf_X10_2g X hK hG h0 wl_1_44 dX10_rewind_26 (fun f8 hf8 => ?_)
        have xf8 : f8.toInt = a1 := vq_iv hf8
        have yf8 : iv 0 240 f8 := vq_240 hl0 (And.intro jl1 jm1) xf8
        have z9 : iv 0 239 f8 := vq_239 hl0 (And.intro jl1 jm1) i6 xf8
        refine al_42g X hK hG hq7 (iv_vpin z9 (by decide +kernel)) dX10_rewind_29 (fun f10 hf10 => ?_)
        have of10 := hf10
        have hf10 : iv (-2147483648) 2147483647 f10 := iv_top f10
        have xf10 : f10.toInt = vC (sgT1 P) (sgL1 P) a1 := vq_tp (n := sgL1 P) of10 xf8 ((And.intro jl1 jm1)).1 i6
        refine lv_bipush (v := 32) X.1 X.2.1 dX10_rewind_30 (by decide +kernel) ?_
        refine lv_icmp_ne (tgt := 48) X.1 X.2.1 dX10_rewind_32 (by decide) (fun c11 => ?_) (fun c11 => ?_)
        · have i12 : (vC (sgT1 P) (sgL1 P) a1 = (32 : Int)) = False := vq_ne c11 xf10 (by decide +kernel)
          have hz : vX (sgT1 P) (sgL1 P) 0 = a1 := xf1.trans (vX_at (by first | omega | exact of_eq_false (by assumption)))
          rw [← hz] at hG
          exact sg_vret2 X hr hlk hS (fun t ht hW => sg_post hb hK hC hG hS ht hW) dX10_rewind_48
        · have i13 : vC (sgT1 P) (sgL1 P) a1 = (32 : Int) := vq_eq c11 xf10 (by decide +kernel)
          refine lv_aload_n X.1 X.2.1 dX10_rewind_35 rfl (lv_at hl 0 rfl) ?_
          refine lv_dup X.1 X.2.1 dX10_rewind_36 rfl ?_
          refine gf_X10_2g X hK hG h0 wl_1_44 dX10_rewind_37 (fun f14 hf14 => ?_)
          have xf14 : f14.toInt = a1 := vq_iv hf14
          have yf14 : iv 0 240 f14 := vq_240 hl0 (And.intro jl1 jm1) xf14
          refine lv_iconst (v := 1) X.1 X.2.1 dX10_rewind_40 (by decide +kernel) ?_
          refine lv_iadd X.1 X.2.1 dX10_rewind_41 ?_
          refine lv_topi (fun f15 ef15 => ?_)
          have xf15 : f15.toInt = (a1 + 1) := sg_exadd ef15 yf14 (iv_c 1 (a := 1) (b := 1) (by decide +kernel)) (by decide +kernel) xf14 (by decide +kernel)
          refine pf_X10_2G (b1 := (a1 + 1)) (b2 := (a1 + 1)) X hK hG hS h0 wl_1_44 (vq_of (lo := (a1 + 1)) (hi := (a1 + 1)) xf15 ⟨Int.le_refl _, Int.le_refl _⟩) dX10_rewind_42 (fun H locs hG hS => ?_)
          have b16 := vq_bd1 (And.intro jl1 jm1) i6
          refine lv_goto (tgt := 10) X.1 X.2.1 dX10_rewind_45 (by decide) ?_
          exact ih1 H _ _ ((a1 + 1)) (b16).1 (b16).2 hG hS (lv_sub hl [0] rfl) (xf1.trans (vX_on (by omega))) (by omega)
  exact B1_10 _ H _ _ (0) ((And.intro (Int.le_refl (0 : Int)) hl0.1)).1 ((And.intro (Int.le_refl (0 : Int)) hl0.1)).2 hG hS (lv_sub hl [0] rfl) rfl (Nat.le_refl _)

theorem ca_X10_rewind_g  {z : sgZg}  (X : CallFix p m c cc nL s args sg_tbl own) (hK : va_K D vwCl tys s) (hG : sgG (KG 0 240 (-2147483648) 2147483647 z P) D vwCl (fun q : Nat => base ≤ q) tys ad ks H) (hC : sgC base s) (hS : va_S (fun q : Nat => base ≤ q) s.heap H locs) (hb : base ≤ s.heap.size) (a0 : Nat) (h0 : isK ad ks 10 a0) (hl0 : 0 ≤ sgL1 P ∧ sgL1 P ≤ 240) (hl : Cond.methodLink own index yX10_rewind ∈ sg_tbl) (hsize : ls.size = nL) (hst : st0 = [].reverse ++ .ref a0 :: rest) (hW : (rest.map fun v => v.category).sum ≤ 8) (hR : 1 ≤ R.frames ∧ 20 ≤ R.locals) (hf : cells ≤ R.cells ∧ slots ≤ R.slots) (hdg : decode cc pc = .ok (.invokevirtual index, 3)) (kk : ∀ (t : State) (H1 : Heap) (locs1 : List Loc), t.heap = H1 → ((fun t => sgB (KG (vX (sgT1 P) (sgL1 P) 0) (vX (sgT1 P) (sgL1 P) 0) (-1) (-1) z P) D vwCl base tys ad ks t) t) → va_S (fun q : Nat => base ≤ q) s.heap H1 locs1 → W p l e R s m args below meth c H1 locs1 cells slots Q (F0 m (pc + 3) ls rest)) : W p l e R s m args below meth c H locs cells slots Q (F0 m pc ls st0) :=
  sg_callV2v X hK hG hC hS hb (m_X10_rewind_g l a0 h0 hl0) h0 (k := 10) (ci := 10) rfl (C := RX10) (T := TX10) (N := 4) rfl wl_3_33 wl_1_2 wl_3_31 wl_3_32 (n := 0) (by decide +kernel) rfl rfl rfl hl hsize hst hW hR hf hdg kk

set_option maxHeartbeats 8000000 in
set_option maxRecDepth 100000 in
theorem m_X10_step_g (l : Launch) {D : va_G} {base : Nat} {tys : List (ClassId × FieldType)} {ad ks : List Nat} {P : sgPm}{a w1 w2 : Int} {z : sgZg}  (a0 : Nat) (h0 : isK ad ks 10 a0) (hl0 : 0 ≤ sgL1 P ∧ sgL1 P ≤ 240) (hsv : 0 ≤ a ∧ a < sgL1 P) : Met l yX10_step (Cond.code yX10_step cX10_step 1 none :: sg_tbl) ({ frames := 1, cells := 0, slots := 0, locals := 14 }) (va_Pc [.ref a0] (sgB (KG a a w1 w2 z P) D vwCl base tys ad ks)) (va_Qv (fun (_ : Unit) => True) (fun _ => fun t => sgB (KG (vX (sgT1 P) (sgL1 P) (a + 1)) (vX (sgT1 P) (sgL1 P) (a + 1)) w1 w2 z P) D vwCl base tys ad ks t) (fun q : Nat => base ≤ q)) 0 0 (fun q : Nat => base ≤ q) := by
  refine sg_ofW (by decide +kernel) (Nat.le_of_ble_eq_true rfl) (fun p e s m below meth c X hr hlk hb hK hC hG ls hl => ?_)
  have hS : va_S (fun q : Nat => base ≤ q) s.heap s.heap [] := va_S.rf
  have hl : lv_has ls 1 [(0, .ref a0)] := hl
  refine lv_aload_n X.1 X.2.1 dX10_step_0 rfl (lv_at hl 0 rfl) ?_
  refine lv_dup X.1 X.2.1 dX10_step_1 rfl ?_
  refine gf_X10_2g X hK hG h0 wl_1_44 dX10_step_2 (fun f1 hf1 => ?_)
  have xf1 : f1.toInt = a := vq_iv hf1
  have yf1 : iv 0 240 f1 := vq_240 hl0 (And.intro hsv.1 (Int.le_of_lt hsv.2)) xf1
  refine lv_iconst (v := 1) X.1 X.2.1 dX10_step_5 (by decide +kernel) ?_
  refine lv_iadd X.1 X.2.1 dX10_step_6 ?_
  refine lv_topi (fun f2 ef2 => ?_)
  have xf2 : f2.toInt = (a + 1) := sg_exadd ef2 yf1 (iv_c 1 (a := 1) (b := 1) (by decide +kernel)) (by decide +kernel) xf1 (by decide +kernel)
  refine pf_X10_2G (b1 := (a + 1)) (b2 := (a + 1)) X hK hG hS h0 wl_1_44 (vq_of (lo := (a + 1)) (hi := (a + 1)) xf2 ⟨Int.le_refl _, Int.le_refl _⟩) dX10_step_7 (fun H locs hG hS => ?_)
  have b3 := vq_bd1 (And.intro hsv.1 (Int.le_of_lt hsv.2)) hsv.2
  have pb3 : a + 1 ≤ (a + 1) := vq_pg (vq_pg0 a) (m := 1) (Int.le_refl _) (by decide)
  have B4_10 : ∀ (N : Nat) (H : Heap) (locs : List Loc) (ls : Array Slot) (a4 : Int), 0 ≤ a4 → a4 ≤ sgL1 P → a + 0 ≤ a4 → sgG (KG a4 a4 w1 w2 z P) D vwCl (fun q : Nat => base ≤ q) tys ad ks H → va_S (fun q : Nat => base ≤ q) s.heap H locs → lv_has ls 1 [(0, .ref a0)] → vX (sgT1 P) (sgL1 P) (a + 1) = vX (sgT1 P) (sgL1 P) a4 → (242 - a4).toNat ≤ N → W p l e (headSpec (Cond.code yX10_step cX10_step 1 none :: sg_tbl) ({ frames := 1, cells := 0, slots := 0, locals := 14 })).room s m #[.ref a0] below meth c H locs 0 0 (MQ below (va_Qv (fun (_ : Unit) => True) (fun _ => fun t => sgB (KG (vX (sgT1 P) (sgL1 P) (a + 1)) (vX (sgT1 P) (sgL1 P) (a + 1)) w1 w2 z P) D vwCl base tys ad ks t) (fun q : Nat => base ≤ q)) #[.ref a0] s 0 0 (fun q : Nat => base ≤ q)) (F0 m 10 ls []) := by
    intro N; induction N with
    | zero =>
      intro H locs ls a4 jl4 jm4 jk4 hG hS hl xf4 hN
      exact absurd hN (by have := jm4; omega)
    | succ N ih4 =>
      intro H locs ls a4 jl4 jm4 jk4 hG hS hl xf4 hN4
      refine lv_aload_n X.1 X.2.1 dX10_step_10 rfl (lv_at hl 0 rfl) ?_
      refine gf_X10_2g X hK hG h0 wl_1_44 dX10_step_11 (fun f5 hf5 => ?_)
      have xf5 : f5.toInt = a4 := vq_iv hf5
      have yf5 : iv 0 240 f5 := vq_240 hl0 (And.intro jl4 jm4) xf5
      refine lv_aload_n X.1 X.2.1 dX10_step_14 rfl (lv_at hl 0 rfl) ?_
      refine gf_X10_1g X hK hG h0 wl_1_43 dX10_step_15 (fun f6 hf6 pf6 kf6 => ?_)
      have xf6 : f6.toInt = sgL1 P := sgC240_eq pf6 hl0.1 hl0.2
      refine lv_icmp_ge (tgt := 48) X.1 X.2.1 dX10_step_18 (by decide) (fun c7 => ?_) (fun c7 => ?_)
      · have ci8 : vC (sgT1 P) (sgL1 P) a4 = 0 := vC_out (Int.not_lt.mp (vq_le c7 xf6 xf5))
        have i8 : ¬ a4 < sgL1 P := vq_le c7 xf6 xf5
        refine lv_aload_n X.1 X.2.1 dX10_step_48 rfl (lv_at hl 0 rfl) ?_
        refine lv_aload_n X.1 X.2.1 dX10_step_49 rfl (lv_at hl 0 rfl) ?_
        refine gf_X10_2g X hK hG h0 wl_1_44 dX10_step_50 (fun f10 hf10 => ?_)
        have xf10 : f10.toInt = a4 := vq_iv hf10
        have yf10 : iv 0 240 f10 := vq_240 hl0 (And.intro jl4 jm4) xf10
        refine lv_aload_n X.1 X.2.1 dX10_step_53 rfl (lv_at hl 0 rfl) ?_
        refine gg_X10_1g X hK hG h0 wl_1_43 kf6 dX10_step_54 ?_
        refine va_mmin X.1 X.2.1 (X.2.2.1.trans hl.1.symm) X.2.2.2.1 (X.2.2.2.2 _ wl_3_63) (X.2.2.2.2 _ wl_3_64) (X.2.2.2.2 _ wl_1_15) (X.2.2.2.2 _ wl_3_65) (Nat.le_of_ble_eq_true rfl) (Nat.le_of_ble_eq_true rfl) (Nat.le_of_ble_eq_true rfl) (Nat.le_of_ble_eq_true rfl) dX10_step_57 ?_
        refine lv_topi (fun f11 ef11 => ?_)
        have x60 : f11.toInt = a4 := by rw [ef11, if_neg (fun q => by have := Int32.lt_iff_toInt_lt.mp q; omega)]; omega
        refine pf_X10_2G (b1 := a4) (b2 := a4) X hK hG hS h0 wl_1_44 (vq_of (lo := a4) (hi := a4) x60 ⟨Int.le_refl _, Int.le_refl _⟩) dX10_step_60 (fun H locs hG hS => ?_)
        have hz : vX (sgT1 P) (sgL1 P) (a + 1) = a4 := xf4.trans (vX_at (by first | omega | exact of_eq_false (by assumption)))
        rw [← hz] at hG
        exact sg_vret2 X hr hlk hS (fun t ht hW => sg_post hb hK hC hG hS ht hW) dX10_step_63
      · have i9 : a4 < sgL1 P := vq_lt (iv_gt_of c7) xf5 xf6
        refine lv_aload_n X.1 X.2.1 dX10_step_21 rfl (lv_at hl 0 rfl) ?_
        refine gf_X10_0g X hK hG h0 wl_1_41 dX10_step_22 (fun q12 hq12 kq12 => ?_)
        refine lv_aload_n X.1 X.2.1 dX10_step_25 rfl (lv_at hl 0 rfl) ?_
        refine gf_X10_2g X hK hG h0 wl_1_44 dX10_step_26 (fun f13 hf13 => ?_)
        have xf13 : f13.toInt = a4 := vq_iv hf13
        have yf13 : iv 0 240 f13 := vq_240 hl0 (And.intro jl4 jm4) xf13
        have z14 : iv 0 239 f13 := vq_239 hl0 (And.intro jl4 jm4) i9 xf13
        refine al_42g X hK hG hq12 (iv_vpin z14 (by decide +kernel)) dX10_step_29 (fun f15 hf15 => ?_)
        have of15 := hf15
        have hf15 : iv (-2147483648) 2147483647 f15 := iv_top f15
        have xf15 : f15.toInt = vC (sgT1 P) (sgL1 P) a4 := vq_tp (n := sgL1 P) of15 xf13 ((And.intro jl4 jm4)).1 i9
        refine lv_bipush (v := 32) X.1 X.2.1 dX10_step_30 (by decide +kernel) ?_
        refine lv_icmp_ne (tgt := 48) X.1 X.2.1 dX10_step_32 (by decide) (fun c16 => ?_) (fun c16 => ?_)
        · have i17 : (vC (sgT1 P) (sgL1 P) a4 = (32 : Int)) = False := vq_ne c16 xf15 (by decide +kernel)
          refine lv_aload_n X.1 X.2.1 dX10_step_48 rfl (lv_at hl 0 rfl) ?_
          refine lv_aload_n X.1 X.2.1 dX10_step_49 rfl (lv_at hl 0 rfl) ?_
          refine gf_X10_2g X hK hG h0 wl_1_44 dX10_step_50 (fun f19 hf19 => ?_)
          have xf19 : f19.toInt = a4 := vq_iv hf19
          have yf19 : iv 0 240 f19 := vq_240 hl0 (And.intro jl4 jm4) xf19
          refine lv_aload_n X.1 X.2.1 dX10_step_53 rfl (lv_at hl 0 rfl) ?_
          refine gg_X10_1g X hK hG h0 wl_1_43 kf6 dX10_step_54 ?_
          refine va_mmin X.1 X.2.1 (X.2.2.1.trans hl.1.symm) X.2.2.2.1 (X.2.2.2.2 _ wl_3_63) (X.2.2.2.2 _ wl_3_64) (X.2.2.2.2 _ wl_1_15) (X.2.2.2.2 _ wl_3_65) (Nat.le_of_ble_eq_true rfl) (Nat.le_of_ble_eq_true rfl) (Nat.le_of_ble_eq_true rfl) (Nat.le_of_ble_eq_true rfl) dX10_step_57 ?_
          refine lv_topi (fun f20 ef20 => ?_)
          have x60 : f20.toInt = a4 := by rw [ef20, if_neg (fun q => by have := Int32.lt_iff_toInt_lt.mp q; omega)]; omega
          refine pf_X10_2G (b1 := a4) (b2 := a4) X hK hG hS h0 wl_1_44 (vq_of (lo := a4) (hi := a4) x60 ⟨Int.le_refl _, Int.le_refl _⟩) dX10_step_60 (fun H locs hG hS => ?_)
          have hz : vX (sgT1 P) (sgL1 P) (a + 1) = a4 := xf4.trans (vX_at (by first | omega | exact of_eq_false (by assumption)))
          rw [← hz] at hG
          exact sg_vret2 X hr hlk hS (fun t ht hW => sg_post hb hK hC hG hS ht hW) dX10_step_63
        · have i18 : vC (sgT1 P) (sgL1 P) a4 = (32 : Int) := vq_eq c16 xf15 (by decide +kernel)
          refine lv_aload_n X.1 X.2.1 dX10_step_35 rfl (lv_at hl 0 rfl) ?_
          refine lv_dup X.1 X.2.1 dX10_step_36 rfl ?_
          refine gf_X10_2g X hK hG h0 wl_1_44 dX10_step_37 (fun f21 hf21 => ?_)
          have xf21 : f21.toInt = a4 := vq_iv hf21
          have yf21 : iv 0 240 f21 := vq_240 hl0 (And.intro jl4 jm4) xf21
          refine lv_iconst (v := 1) X.1 X.2.1 dX10_step_40 (by decide +kernel) ?_
          refine lv_iadd X.1 X.2.1 dX10_step_41 ?_
          refine lv_topi (fun f22 ef22 => ?_)
          have xf22 : f22.toInt = (a4 + 1) := sg_exadd ef22 yf21 (iv_c 1 (a := 1) (b := 1) (by decide +kernel)) (by decide +kernel) xf21 (by decide +kernel)
          refine pf_X10_2G (b1 := (a4 + 1)) (b2 := (a4 + 1)) X hK hG hS h0 wl_1_44 (vq_of (lo := (a4 + 1)) (hi := (a4 + 1)) xf22 ⟨Int.le_refl _, Int.le_refl _⟩) dX10_step_42 (fun H locs hG hS => ?_)
          have b23 := vq_bd1 (And.intro jl4 jm4) i9
          have pb23 : a + 1 ≤ (a4 + 1) := vq_pg jk4 (m := 1) (Int.le_refl _) (by decide)
          refine lv_goto (tgt := 10) X.1 X.2.1 dX10_step_45 (by decide) ?_
          exact ih4 H _ _ ((a4 + 1)) (b23).1 (b23).2 (vq_pgw pb23 (by decide)) hG hS (lv_sub hl [0] rfl) (xf4.trans (vX_on (by omega))) (by omega)
  exact B4_10 _ H _ _ ((a + 1)) (b3).1 (b3).2 (vq_pgw pb3 (by decide)) hG hS (lv_sub hl [0] rfl) rfl (Nat.le_refl _)

theorem ca_X10_step_g  {a w1 w2 : Int} {z : sgZg}  (X : CallFix p m c cc nL s args sg_tbl own) (hK : va_K D vwCl tys s) (hG : sgG (KG a a w1 w2 z P) D vwCl (fun q : Nat => base ≤ q) tys ad ks H) (hC : sgC base s) (hS : va_S (fun q : Nat => base ≤ q) s.heap H locs) (hb : base ≤ s.heap.size) (a0 : Nat) (h0 : isK ad ks 10 a0) (hl0 : 0 ≤ sgL1 P ∧ sgL1 P ≤ 240) (hsv : 0 ≤ a ∧ a < sgL1 P) (hl : Cond.methodLink own index yX10_step ∈ sg_tbl) (hsize : ls.size = nL) (hst : st0 = [].reverse ++ .ref a0 :: rest) (hW : (rest.map fun v => v.category).sum ≤ 8) (hR : 2 ≤ R.frames ∧ 34 ≤ R.locals) (hf : cells ≤ R.cells ∧ slots ≤ R.slots) (hdg : decode cc pc = .ok (.invokevirtual index, 3)) (kk : ∀ (t : State) (H1 : Heap) (locs1 : List Loc), t.heap = H1 → ((fun t => sgB (KG (vX (sgT1 P) (sgL1 P) (a + 1)) (vX (sgT1 P) (sgL1 P) (a + 1)) w1 w2 z P) D vwCl base tys ad ks t) t) → va_S (fun q : Nat => base ≤ q) s.heap H1 locs1 → W p l e R s m args below meth c H1 locs1 cells slots Q (F0 m (pc + 3) ls rest)) : W p l e R s m args below meth c H locs cells slots Q (F0 m pc ls st0) :=
  sg_callV2v X hK hG hC hS hb (m_X10_step_g l a0 h0 hl0 hsv) h0 (k := 10) (ci := 10) rfl (C := RX10) (T := TX10) (N := 4) rfl wl_3_62 wl_1_2 wl_3_60 wl_3_61 (n := 0) (by decide +kernel) rfl rfl rfl hl hsize hst hW hR hf hdg kk

set_option maxHeartbeats 8000000 in
set_option maxRecDepth 100000 in
theorem m_X10_wrong_g (l : Launch) {D : va_G} {base : Nat} {tys : List (ClassId × FieldType)} {ad ks : List Nat} {P : sgPm}{a w1 w2 : Int} {z : sgZg}  (a0 : Nat) (h0 : isK ad ks 10 a0) (hl0 : 0 ≤ sgL1 P ∧ sgL1 P ≤ 240) (hav : 0 ≤ a ∧ a ≤ sgL1 P) : Met l yX10_wrong (Cond.code yX10_wrong cX10_wrong 1 (some .boolean) :: sg_tbl) ({ frames := 0, cells := 0, slots := 0, locals := 0 }) (va_Pc [.ref a0] (sgB (KG a a w1 w2 z P) D vwCl base tys ad ks)) (va_Qi (fun r (u : Int32) => u = r ∧ (fun r : Int32 => iv 0 0 r) r) (fun u t => sgB (KG a a a a z P) D vwCl base tys ad ks t) (fun q : Nat => base ≤ q)) 0 0 (fun q : Nat => base ≤ q) := by
  refine sg_ofW (by decide +kernel) (Nat.le_of_ble_eq_true rfl) (fun p e s m below meth c X hr hlk hb hK hC hG ls hl => ?_)
  have hS : va_S (fun q : Nat => base ≤ q) s.heap s.heap [] := va_S.rf
  have hl : lv_has ls 1 [(0, .ref a0)] := hl
  refine lv_aload_n X.1 X.2.1 dX10_wrong_0 rfl (lv_at hl 0 rfl) ?_
  refine lv_aload_n X.1 X.2.1 dX10_wrong_1 rfl (lv_at hl 0 rfl) ?_
  refine gf_X10_2g X hK hG h0 wl_1_44 dX10_wrong_2 (fun f1 hf1 => ?_)
  have xf1 : f1.toInt = a := vq_iv hf1
  have yf1 : iv 0 240 f1 := vq_240 hl0 hav xf1
  refine pf_X10_3G (b1 := a) (b2 := a) X hK hG hS h0 wl_1_45 (vq_of (lo := a) (hi := a) xf1 ⟨Int.le_refl _, Int.le_refl _⟩) dX10_wrong_5 (fun H locs hG hS => ?_)
  refine lv_iconst (v := 0) X.1 X.2.1 dX10_wrong_8 (by decide +kernel) ?_
  exact sg_zret2 X hr (sg_zn (iv_of (iv_c 0 (a := 0) (b := 0) (by decide +kernel)) (a' := 0) (b' := 1) (by decide +kernel))) hlk hS (iv_c 0 (a := 0) (b := 0) (by decide +kernel)) (fun t ht hW => sg_post hb hK hC hG hS ht hW) dX10_wrong_9

theorem ca_X10_wrong_g  {a w1 w2 : Int} {z : sgZg}  (X : CallFix p m c cc nL s args sg_tbl own) (hK : va_K D vwCl tys s) (hG : sgG (KG a a w1 w2 z P) D vwCl (fun q : Nat => base ≤ q) tys ad ks H) (hC : sgC base s) (hS : va_S (fun q : Nat => base ≤ q) s.heap H locs) (hb : base ≤ s.heap.size) (a0 : Nat) (h0 : isK ad ks 10 a0) (hl0 : 0 ≤ sgL1 P ∧ sgL1 P ≤ 240) (hav : 0 ≤ a ∧ a ≤ sgL1 P) (hl : Cond.methodLink own index yX10_wrong ∈ sg_tbl) (hsize : ls.size = nL) (hst : st0 = [].reverse ++ .ref a0 :: rest) (hW : (rest.map fun v => v.category).sum ≤ 8) (hR : 1 ≤ R.frames ∧ 20 ≤ R.locals) (hf : cells ≤ R.cells ∧ slots ≤ R.slots) (hdg : decode cc pc = .ok (.invokevirtual index, 3)) (kk : ∀ (r : Int32) (t : State) (H1 : Heap) (locs1 : List Loc), t.heap = H1 → (fun r : Int32 => iv 0 0 r) r → (sgB (KG a a a a z P) D vwCl base tys ad ks t) → va_S (fun q : Nat => base ≤ q) s.heap H1 locs1 → W p l e R s m args below meth c H1 locs1 cells slots Q (F0 m (pc + 3) ls (.int r :: rest))) : W p l e R s m args below meth c H locs cells slots Q (F0 m pc ls st0) :=
  sg_callV2i X hK hG hC hS hb (m_X10_wrong_g l a0 h0 hl0 hav) h0 (k := 10) (ci := 10) rfl (C := RX10) (T := TX10) (N := 4) rfl wl_3_58 wl_1_2 wl_3_56 wl_3_57 (n := 0) (by decide +kernel) rfl rfl rfl hl hsize hst hW hR hf hdg kk

set_option maxHeartbeats 8000000 in
set_option maxRecDepth 100000 in
theorem m_X10_wrongAsWhole_g (l : Launch) {D : va_G} {base : Nat} {tys : List (ClassId × FieldType)} {ad ks : List Nat} {P : sgPm}{a w1 w2 : Int} {z : sgZg}  (a0 : Nat) (h0 : isK ad ks 10 a0) (hl0 : 0 ≤ sgL1 P ∧ sgL1 P ≤ 240) (hav : 0 ≤ a ∧ a ≤ sgL1 P) : Met l yX10_wrongAsWhole (Cond.code yX10_wrongAsWhole cX10_wrongAsWhole 1 (some .boolean) :: sg_tbl) ({ frames := 0, cells := 0, slots := 0, locals := 0 }) (va_Pc [.ref a0] (sgB (KG a a w1 w2 z P) D vwCl base tys ad ks)) (va_Qi (fun r (u : Int32) => u = r ∧ (fun r : Int32 => iv 0 0 r) r) (fun u t => sgB (KG a a (sgL1 P) (sgL1 P) z P) D vwCl base tys ad ks t) (fun q : Nat => base ≤ q)) 0 0 (fun q : Nat => base ≤ q) := by
  refine sg_ofW (by decide +kernel) (Nat.le_of_ble_eq_true rfl) (fun p e s m below meth c X hr hlk hb hK hC hG ls hl => ?_)
  have hS : va_S (fun q : Nat => base ≤ q) s.heap s.heap [] := va_S.rf
  have hl : lv_has ls 1 [(0, .ref a0)] := hl
  refine lv_aload_n X.1 X.2.1 dX10_wrongAsWhole_0 rfl (lv_at hl 0 rfl) ?_
  refine lv_aload_n X.1 X.2.1 dX10_wrongAsWhole_1 rfl (lv_at hl 0 rfl) ?_
  refine gf_X10_1g X hK hG h0 wl_1_43 dX10_wrongAsWhole_2 (fun f1 hf1 pf1 kf1 => ?_)
  have xf1 : f1.toInt = sgL1 P := sgC240_eq pf1 hl0.1 hl0.2
  refine pf_X10_3G (b1 := (sgL1 P)) (b2 := (sgL1 P)) X hK hG hS h0 wl_1_45 (vq_of (lo := (sgL1 P)) (hi := (sgL1 P)) xf1 ⟨Int.le_refl _, Int.le_refl _⟩) dX10_wrongAsWhole_5 (fun H locs hG hS => ?_)
  refine lv_iconst (v := 0) X.1 X.2.1 dX10_wrongAsWhole_8 (by decide +kernel) ?_
  exact sg_zret2 X hr (sg_zn (iv_of (iv_c 0 (a := 0) (b := 0) (by decide +kernel)) (a' := 0) (b' := 1) (by decide +kernel))) hlk hS (iv_c 0 (a := 0) (b := 0) (by decide +kernel)) (fun t ht hW => sg_post hb hK hC hG hS ht hW) dX10_wrongAsWhole_9

theorem ca_X10_wrongAsWhole_g  {a w1 w2 : Int} {z : sgZg}  (X : CallFix p m c cc nL s args sg_tbl own) (hK : va_K D vwCl tys s) (hG : sgG (KG a a w1 w2 z P) D vwCl (fun q : Nat => base ≤ q) tys ad ks H) (hC : sgC base s) (hS : va_S (fun q : Nat => base ≤ q) s.heap H locs) (hb : base ≤ s.heap.size) (a0 : Nat) (h0 : isK ad ks 10 a0) (hl0 : 0 ≤ sgL1 P ∧ sgL1 P ≤ 240) (hav : 0 ≤ a ∧ a ≤ sgL1 P) (hl : Cond.methodLink own index yX10_wrongAsWhole ∈ sg_tbl) (hsize : ls.size = nL) (hst : st0 = [].reverse ++ .ref a0 :: rest) (hW : (rest.map fun v => v.category).sum ≤ 8) (hR : 1 ≤ R.frames ∧ 20 ≤ R.locals) (hf : cells ≤ R.cells ∧ slots ≤ R.slots) (hdg : decode cc pc = .ok (.invokevirtual index, 3)) (kk : ∀ (r : Int32) (t : State) (H1 : Heap) (locs1 : List Loc), t.heap = H1 → (fun r : Int32 => iv 0 0 r) r → (sgB (KG a a (sgL1 P) (sgL1 P) z P) D vwCl base tys ad ks t) → va_S (fun q : Nat => base ≤ q) s.heap H1 locs1 → W p l e R s m args below meth c H1 locs1 cells slots Q (F0 m (pc + 3) ls (.int r :: rest))) : W p l e R s m args below meth c H locs cells slots Q (F0 m pc ls st0) :=
  sg_callV2i X hK hG hC hS hb (m_X10_wrongAsWhole_g l a0 h0 hl0 hav) h0 (k := 10) (ci := 10) rfl (C := RX10) (T := TX10) (N := 4) rfl wl_3_204 wl_1_2 wl_3_202 wl_3_203 (n := 0) (by decide +kernel) rfl rfl rfl hl hsize hst hW hR hf hdg kk

set_option maxHeartbeats 8000000 in
set_option maxRecDepth 100000 in
theorem m_X10_number_g2 (l : Launch) {D : va_G} {base : Nat} {tys : List (ClassId × FieldType)} {ad ks : List Nat} {P : sgPm}{a w1 w2 lo hi : Int} {z : sgZg}  (a0 : Nat) (h0 : isK ad ks 10 a0) (x1 : Int32) (h1 : iv 2 2 x1) (x2 : Int32) (x3 : Int32) (hl0 : 0 ≤ sgL1 P ∧ sgL1 P ≤ 240) (hav : 0 ≤ a ∧ a ≤ sgL1 P) (hlh : x2.toInt = lo ∧ x3.toInt = hi) : Met l yX10_number (Cond.code yX10_number cX10_number 6 (some .int) :: sg_tbl) ({ frames := 0, cells := 0, slots := 0, locals := 0 }) (va_Pc [.ref a0, .int x1, .int x2, .int x3] (sgB (KG a a w1 w2 z P) D vwCl base tys ad ks)) (va_Qi (fun r (u : Int32) => u = r ∧ (fun r : Int32 => True) r) (fun u t => (∃ a1 v : Int, vNd (sgT1 P) (sgL1 P) lo hi 2 false 0 a = (true, a1, v) ∧ u.toInt = v ∧ lo ≤ v ∧ v ≤ hi ∧ 0 ≤ v ∧ v ≤ 99 ∧ a + 1 ≤ a1 ∧ a1 ≤ sgL1 P ∧ sgB (KG a1 a1 w1 w2 z P) D vwCl base tys ad ks t) ∨ (u = -1 ∧ ∃ w : Int, vNd (sgT1 P) (sgL1 P) lo hi 2 false 0 a = (false, w, 0) ∧ sgB (KG 0 240 w w z P) D vwCl base tys ad ks t)) (fun q : Nat => base ≤ q)) 0 0 (fun q : Nat => base ≤ q) := by
  refine sg_ofW (by decide +kernel) (Nat.le_of_ble_eq_true rfl) (fun p e s m below meth c X hr hlk hb hK hC hG ls hl => ?_)
  have hS : va_S (fun q : Nat => base ≤ q) s.heap s.heap [] := va_S.rf
  have hl : lv_has ls 6 [(0, .ref a0), (1, .int x1), (2, .int x2), (3, .int x3)] := hl
  refine lv_iconst (v := 0) X.1 X.2.1 dX10_number_0 (by decide +kernel) ?_
  refine lv_istore (lv' := [(4, .int 0), (0, .ref a0), (1, .int x1), (2, .int x2), (3, .int x3)]) X.1 X.2.1 dX10_number_1 hl (by decide) rfl (fun ls hl => ?_)
  refine lv_iconst (v := 0) X.1 X.2.1 dX10_number_3 (by decide +kernel) ?_
  refine lv_istore (lv' := [(5, .int 0), (4, .int 0), (0, .ref a0), (1, .int x1), (2, .int x2), (3, .int x3)]) X.1 X.2.1 dX10_number_4 hl (by decide) rfl (fun ls hl => ?_)
  refine lv_aload_n X.1 X.2.1 dX10_number_6 rfl (lv_at hl 2 rfl) ?_
  refine gf_X10_2g X hK hG h0 wl_1_44 dX10_number_7 (fun f1 hf1 => ?_)
  have xf1 : f1.toInt = a := vq_iv hf1
  have yf1 : iv 0 240 f1 := vq_240 hl0 hav xf1
  refine lv_aload_n X.1 X.2.1 dX10_number_10 rfl (lv_at hl 2 rfl) ?_
  refine gf_X10_1g X hK hG h0 wl_1_43 dX10_number_11 (fun f2 hf2 pf2 kf2 => ?_)
  have xf2 : f2.toInt = sgL1 P := sgC240_eq pf2 hl0.1 hl0.2
  have B4_97 : ∀ (H : Heap) (locs : List Loc) (ls : Array Slot) (z4_4 : Int32) (z4_5 : Int32) (a4 : Int), 0 ≤ a4 → a4 ≤ sgL1 P → a + 0 ≤ a4 → sgG (KG a4 a4 w1 w2 z P) D vwCl (fun q : Nat => base ≤ q) tys ad ks H → va_S (fun q : Nat => base ≤ q) s.heap H locs → lv_has ls 6 [(0, .ref a0), (2, .int x2), (3, .int x3), (4, .int z4_4), (5, .int z4_5)] → iv 0 99 z4_4 → iv 0 2 z4_5 → (vNd (sgT1 P) (sgL1 P) lo hi 2 false 0 a = vNe (sgT1 P) (sgL1 P) lo hi (z4_5 : Int32).toInt (z4_4 : Int32).toInt a4 ∧ a + (z4_5 : Int32).toInt = a4) → W p l e (headSpec (Cond.code yX10_number cX10_number 6 (some .int) :: sg_tbl) ({ frames := 0, cells := 0, slots := 0, locals := 0 })).room s m #[.ref a0, .int x1, .int x2, .int x3] below meth c H locs 0 0 (MQ below (va_Qi (fun r (u : Int32) => u = r ∧ (fun r : Int32 => True) r) (fun u t => (∃ a1 v : Int, vNd (sgT1 P) (sgL1 P) lo hi 2 false 0 a = (true, a1, v) ∧ u.toInt = v ∧ lo ≤ v ∧ v ≤ hi ∧ 0 ≤ v ∧ v ≤ 99 ∧ a + 1 ≤ a1 ∧ a1 ≤ sgL1 P ∧ sgB (KG a1 a1 w1 w2 z P) D vwCl base tys ad ks t) ∨ (u = -1 ∧ ∃ w : Int, vNd (sgT1 P) (sgL1 P) lo hi 2 false 0 a = (false, w, 0) ∧ sgB (KG 0 240 w w z P) D vwCl base tys ad ks t)) (fun q : Nat => base ≤ q)) #[.ref a0, .int x1, .int x2, .int x3] s 0 0 (fun q : Nat => base ≤ q)) (F0 m 97 ls []) := by
    intro H locs ls z4_4 z4_5 a4 jl4 jm4 jk4 hG hS hl hz4_4 hz4_5 xf4
    refine lv_iload X.1 X.2.1 dX10_number_97 (lv_at hl 4 rfl) ?_
    refine lv_if_eq (tgt := 114) X.1 X.2.1 dX10_number_99 (by decide) (fun c5 => ?_) (fun c5 => ?_)
    · have i6 : z4_5.toInt = (0 : Int) := vq_eq c5 rfl (by decide +kernel)
      refine lv_aload_n X.1 X.2.1 dX10_number_114 rfl (lv_at hl 0 rfl) ?_
      refine lv_iload X.1 X.2.1 dX10_number_115 (lv_at hl 4 rfl) ?_
      refine lv_if_ne (tgt := 127) X.1 X.2.1 dX10_number_117 (by decide) (fun c8 => ?_) (fun c8 => ?_)
      · have i9 : (z4_5.toInt = (0 : Int)) = False := vq_ne c8 rfl (by decide +kernel)
        exact ((c8 (iv_one (iv_eqm (a' := 0) (b' := 0) c5 hz4_5 (iv_c 0 (a := 0) (b := 0) (by decide +kernel)) (by decide +kernel)) (iv_c 0 (a := 0) (b := 0) (by decide +kernel)) (by decide +kernel)))).elim
      · have i10 : z4_5.toInt = (0 : Int) := vq_eq c8 rfl (by decide +kernel)
        refine lv_aload_n X.1 X.2.1 dX10_number_120 rfl (lv_at hl 0 rfl) ?_
        refine gf_X10_2g X hK hG h0 wl_1_44 dX10_number_121 (fun f11 hf11 => ?_)
        have xf11 : f11.toInt = a4 := vq_iv hf11
        have yf11 : iv 0 240 f11 := vq_240 hl0 (And.intro jl4 jm4) xf11
        refine lv_goto (tgt := 133) X.1 X.2.1 dX10_number_124 (by decide) ?_
        refine pf_X10_3G (b1 := a4) (b2 := a4) X hK hG hS h0 wl_1_45 (vq_of (lo := a4) (hi := a4) xf11 ⟨Int.le_refl _, Int.le_refl _⟩) dX10_number_133 (fun H locs hG hS => ?_)
        refine lv_iconst (v := (-1)) X.1 X.2.1 dX10_number_136 (by decide +kernel) ?_
        have spr : vNd (sgT1 P) (sgL1 P) lo hi 2 false 0 a = (false, a4, 0) := xf4.1.trans (by simp only [vNe, i6, i10, cond_true, cond_false, vB_t, vB_f, if_true, if_false, eq_self, not_true_eq_false, not_false_eq_true, Int.reduceEq, Int.reduceLT, or_false, false_or, or_true, true_or])
        have hG := kg_weak (b1 := 0) (b2 := 240) (c1 := a4) (c2 := a4) hG ((And.intro jl4 jm4)).1 (Int.le_trans ((And.intro jl4 jm4)).2 hl0.2) (Int.le_refl _) (Int.le_refl _)
        exact sg_iret2 X hr hlk hS trivial (fun t ht hW => (Or.inr ⟨rfl, _, spr, sg_post hb hK hC hG hS ht hW⟩)) dX10_number_137
    · have i7 : (z4_5.toInt = (0 : Int)) = False := vq_ne c5 rfl (by decide +kernel)
      refine lv_iload X.1 X.2.1 dX10_number_102 (lv_at hl 3 rfl) ?_
      refine lv_iload_n X.1 X.2.1 dX10_number_104 rfl (lv_at hl 1 rfl) ?_
      refine lv_icmp_lt (tgt := 114) X.1 X.2.1 dX10_number_105 (by decide) (fun c12 => ?_) (fun c12 => ?_)
      · have i13 : z4_4.toInt < lo := vq_lt c12 rfl hlh.1
        refine lv_aload_n X.1 X.2.1 dX10_number_114 rfl (lv_at hl 0 rfl) ?_
        refine lv_iload X.1 X.2.1 dX10_number_115 (lv_at hl 4 rfl) ?_
        refine lv_if_ne (tgt := 127) X.1 X.2.1 dX10_number_117 (by decide) (fun c15 => ?_) (fun c15 => ?_)
        · have i16 : (z4_5.toInt = (0 : Int)) = False := vq_ne c15 rfl (by decide +kernel)
          refine lv_aload_n X.1 X.2.1 dX10_number_127 rfl (lv_at hl 0 rfl) ?_
          refine gf_X10_2g X hK hG h0 wl_1_44 dX10_number_128 (fun f18 hf18 => ?_)
          have xf18 : f18.toInt = a4 := vq_iv hf18
          have yf18 : iv 0 240 f18 := vq_240 hl0 (And.intro jl4 jm4) xf18
          refine lv_iconst (v := 1) X.1 X.2.1 dX10_number_131 (by decide +kernel) ?_
          refine lv_isub X.1 X.2.1 dX10_number_132 ?_
          refine lv_topi (fun f19 ef19 => ?_)
          have xf19 : f19.toInt = (a4 - 1) := sg_exsub ef19 yf18 (iv_c 1 (a := 1) (b := 1) (by decide +kernel)) (by decide +kernel) xf18 (by decide +kernel)
          refine pf_X10_3G (b1 := (a4 - 1)) (b2 := (a4 - 1)) X hK hG hS h0 wl_1_45 (vq_of (lo := (a4 - 1)) (hi := (a4 - 1)) xf19 ⟨Int.le_refl _, Int.le_refl _⟩) dX10_number_133 (fun H locs hG hS => ?_)
          refine lv_iconst (v := (-1)) X.1 X.2.1 dX10_number_136 (by decide +kernel) ?_
          have spr : vNd (sgT1 P) (sgL1 P) lo hi 2 false 0 a = (false, (a4 - 1), 0) := xf4.1.trans (by simp only [vNe, i7, i13, i16, cond_true, cond_false, vB_t, vB_f, if_true, if_false, eq_self, not_true_eq_false, not_false_eq_true, Int.reduceEq, Int.reduceLT, or_false, false_or, or_true, true_or])
          have hG := kg_weak (b1 := 0) (b2 := 240) (c1 := (a4 - 1)) (c2 := (a4 - 1)) hG ((And.intro jl4 jm4)).1 (Int.le_trans ((And.intro jl4 jm4)).2 hl0.2) (Int.le_refl _) (Int.le_refl _)
          exact sg_iret2 X hr hlk hS trivial (fun t ht hW => (Or.inr ⟨rfl, _, spr, sg_post hb hK hC hG hS ht hW⟩)) dX10_number_137
        · have i17 : z4_5.toInt = (0 : Int) := vq_eq c15 rfl (by decide +kernel)
          exact ((iv_no (a := 1) (b := 0) (iv_eqm c15 (iv_ne_lo (a' := 1) c5 hz4_5 (by decide +kernel)) (iv_c 0 (a := 0) (b := 0) (by decide +kernel)) (by decide +kernel)) (by decide +kernel))).elim
      · have i14 : ¬ z4_4.toInt < lo := vq_le (iv_ge_of c12) hlh.1 rfl
        refine lv_iload X.1 X.2.1 dX10_number_108 (lv_at hl 3 rfl) ?_
        refine lv_iload_n X.1 X.2.1 dX10_number_110 rfl (lv_at hl 2 rfl) ?_
        refine lv_icmp_le (tgt := 138) X.1 X.2.1 dX10_number_111 (by decide) (fun c20 => ?_) (fun c20 => ?_)
        · have i21 : ¬ hi < z4_4.toInt := vq_le c20 rfl hlh.2
          have B23_138 : ∀ (N : Nat) (H : Heap) (locs : List Loc) (ls : Array Slot) (a23 : Int), 0 ≤ a23 → a23 ≤ sgL1 P → a + 0 ≤ a23 → sgG (KG a23 a23 w1 w2 z P) D vwCl (fun q : Nat => base ≤ q) tys ad ks H → va_S (fun q : Nat => base ≤ q) s.heap H locs → lv_has ls 6 [(0, .ref a0), (4, .int z4_4), (5, .int z4_5)] → vX (sgT1 P) (sgL1 P) a4 = vX (sgT1 P) (sgL1 P) a23 → (242 - a23).toNat ≤ N → W p l e (headSpec (Cond.code yX10_number cX10_number 6 (some .int) :: sg_tbl) ({ frames := 0, cells := 0, slots := 0, locals := 0 })).room s m #[.ref a0, .int x1, .int x2, .int x3] below meth c H locs 0 0 (MQ below (va_Qi (fun r (u : Int32) => u = r ∧ (fun r : Int32 => True) r) (fun u t => (∃ a1 v : Int, vNd (sgT1 P) (sgL1 P) lo hi 2 false 0 a = (true, a1, v) ∧ u.toInt = v ∧ lo ≤ v ∧ v ≤ hi ∧ 0 ≤ v ∧ v ≤ 99 ∧ a + 1 ≤ a1 ∧ a1 ≤ sgL1 P ∧ sgB (KG a1 a1 w1 w2 z P) D vwCl base tys ad ks t) ∨ (u = -1 ∧ ∃ w : Int, vNd (sgT1 P) (sgL1 P) lo hi 2 false 0 a = (false, w, 0) ∧ sgB (KG 0 240 w w z P) D vwCl base tys ad ks t)) (fun q : Nat => base ≤ q)) #[.ref a0, .int x1, .int x2, .int x3] s 0 0 (fun q : Nat => base ≤ q)) (F0 m 138 ls []) := by
            intro N; induction N with
            | zero =>
              intro H locs ls a23 jl23 jm23 jk23 hG hS hl xf23 hN
              exact absurd hN (by have := jm23; omega)
            | succ N ih23 =>
              intro H locs ls a23 jl23 jm23 jk23 hG hS hl xf23 hN23
              refine lv_aload_n X.1 X.2.1 dX10_number_138 rfl (lv_at hl 0 rfl) ?_
              refine gf_X10_2g X hK hG h0 wl_1_44 dX10_number_139 (fun f24 hf24 => ?_)
              have xf24 : f24.toInt = a23 := vq_iv hf24
              have yf24 : iv 0 240 f24 := vq_240 hl0 (And.intro jl23 jm23) xf24
              refine lv_aload_n X.1 X.2.1 dX10_number_142 rfl (lv_at hl 0 rfl) ?_
              refine gf_X10_1g X hK hG h0 wl_1_43 dX10_number_143 (fun f25 hf25 pf25 kf25 => ?_)
              have xf25 : f25.toInt = sgL1 P := sgC240_eq pf25 hl0.1 hl0.2
              refine lv_icmp_ge (tgt := 176) X.1 X.2.1 dX10_number_146 (by decide) (fun c26 => ?_) (fun c26 => ?_)
              · have ci27 : vC (sgT1 P) (sgL1 P) a23 = 0 := vC_out (Int.not_lt.mp (vq_le c26 xf25 xf24))
                have i27 : ¬ a23 < sgL1 P := vq_le c26 xf25 xf24
                refine lv_iload X.1 X.2.1 dX10_number_176 (lv_at hl 1 rfl) ?_
                have hz : vX (sgT1 P) (sgL1 P) a4 = a23 := xf23.trans (vX_at (by first | omega | exact of_eq_false (by assumption)))
                rw [← hz] at hG
                have hz2 := (vX_ge (sgT1 P) (sgL1 P) a4).1
                have spr : vNd (sgT1 P) (sgL1 P) lo hi 2 false 0 a = (true, vX (sgT1 P) (sgL1 P) a4, z4_4.toInt) := xf4.1.trans (by simp only [vNe, i7, i14, i21, ci27, i27, cond_true, cond_false, vB_t, vB_f, if_true, if_false, eq_self, not_true_eq_false, not_false_eq_true, Int.reduceEq, Int.reduceLT, or_false, false_or, or_true, true_or])
                have hv7 := (hz4_4).1
                have hv8 := (hz4_4).2
                have hv9 := xf4.2
                have hv10 := ((iv_ne_lo (a' := 1) c5 hz4_5 (by decide +kernel))).1
                exact sg_iret2 X hr hlk hS trivial (fun t ht hW => (Or.inl ⟨_, _, spr, rfl, by omega, by omega, by omega, by omega, by omega, by omega, sg_post hb hK hC hG hS ht hW⟩)) dX10_number_178
              · have i28 : a23 < sgL1 P := vq_lt (iv_gt_of c26) xf24 xf25
                refine lv_aload_n X.1 X.2.1 dX10_number_149 rfl (lv_at hl 0 rfl) ?_
                refine gf_X10_0g X hK hG h0 wl_1_41 dX10_number_150 (fun q29 hq29 kq29 => ?_)
                refine lv_aload_n X.1 X.2.1 dX10_number_153 rfl (lv_at hl 0 rfl) ?_
                refine gf_X10_2g X hK hG h0 wl_1_44 dX10_number_154 (fun f30 hf30 => ?_)
                have xf30 : f30.toInt = a23 := vq_iv hf30
                have yf30 : iv 0 240 f30 := vq_240 hl0 (And.intro jl23 jm23) xf30
                have z31 : iv 0 239 f30 := vq_239 hl0 (And.intro jl23 jm23) i28 xf30
                refine al_42g X hK hG hq29 (iv_vpin z31 (by decide +kernel)) dX10_number_157 (fun f32 hf32 => ?_)
                have of32 := hf32
                have hf32 : iv (-2147483648) 2147483647 f32 := iv_top f32
                have xf32 : f32.toInt = vC (sgT1 P) (sgL1 P) a23 := vq_tp (n := sgL1 P) of32 xf30 ((And.intro jl23 jm23)).1 i28
                refine lv_bipush (v := 32) X.1 X.2.1 dX10_number_158 (by decide +kernel) ?_
                refine lv_icmp_ne (tgt := 176) X.1 X.2.1 dX10_number_160 (by decide) (fun c33 => ?_) (fun c33 => ?_)
                · have i34 : (vC (sgT1 P) (sgL1 P) a23 = (32 : Int)) = False := vq_ne c33 xf32 (by decide +kernel)
                  refine lv_iload X.1 X.2.1 dX10_number_176 (lv_at hl 1 rfl) ?_
                  have hz : vX (sgT1 P) (sgL1 P) a4 = a23 := xf23.trans (vX_at (by first | omega | exact of_eq_false (by assumption)))
                  rw [← hz] at hG
                  have hz2 := (vX_ge (sgT1 P) (sgL1 P) a4).1
                  have spr : vNd (sgT1 P) (sgL1 P) lo hi 2 false 0 a = (true, vX (sgT1 P) (sgL1 P) a4, z4_4.toInt) := xf4.1.trans (by simp only [vNe, i7, i14, i21, i28, i34, cond_true, cond_false, vB_t, vB_f, if_true, if_false, eq_self, not_true_eq_false, not_false_eq_true, Int.reduceEq, Int.reduceLT, or_false, false_or, or_true, true_or])
                  have hv7 := (hz4_4).1
                  have hv8 := (hz4_4).2
                  have hv9 := xf4.2
                  have hv10 := ((iv_ne_lo (a' := 1) c5 hz4_5 (by decide +kernel))).1
                  exact sg_iret2 X hr hlk hS trivial (fun t ht hW => (Or.inl ⟨_, _, spr, rfl, by omega, by omega, by omega, by omega, by omega, by omega, sg_post hb hK hC hG hS ht hW⟩)) dX10_number_178
                · have i35 : vC (sgT1 P) (sgL1 P) a23 = (32 : Int) := vq_eq c33 xf32 (by decide +kernel)
                  refine lv_aload_n X.1 X.2.1 dX10_number_163 rfl (lv_at hl 0 rfl) ?_
                  refine lv_dup X.1 X.2.1 dX10_number_164 rfl ?_
                  refine gf_X10_2g X hK hG h0 wl_1_44 dX10_number_165 (fun f36 hf36 => ?_)
                  have xf36 : f36.toInt = a23 := vq_iv hf36
                  have yf36 : iv 0 240 f36 := vq_240 hl0 (And.intro jl23 jm23) xf36
                  refine lv_iconst (v := 1) X.1 X.2.1 dX10_number_168 (by decide +kernel) ?_
                  refine lv_iadd X.1 X.2.1 dX10_number_169 ?_
                  refine lv_topi (fun f37 ef37 => ?_)
                  have xf37 : f37.toInt = (a23 + 1) := sg_exadd ef37 yf36 (iv_c 1 (a := 1) (b := 1) (by decide +kernel)) (by decide +kernel) xf36 (by decide +kernel)
                  refine pf_X10_2G (b1 := (a23 + 1)) (b2 := (a23 + 1)) X hK hG hS h0 wl_1_44 (vq_of (lo := (a23 + 1)) (hi := (a23 + 1)) xf37 ⟨Int.le_refl _, Int.le_refl _⟩) dX10_number_170 (fun H locs hG hS => ?_)
                  have b38 := vq_bd1 (And.intro jl23 jm23) i28
                  have pb38 : a + 1 ≤ (a23 + 1) := vq_pg jk23 (m := 1) (Int.le_refl _) (by decide)
                  refine lv_goto (tgt := 138) X.1 X.2.1 dX10_number_173 (by decide) ?_
                  exact ih23 H _ _ ((a23 + 1)) (b38).1 (b38).2 (vq_pgw pb38 (by decide)) hG hS (lv_sub hl [0, 1, 2] rfl) (xf23.trans (vX_on (by omega))) (by omega)
          exact B23_138 _ H _ _ (a4) ((And.intro jl4 jm4)).1 ((And.intro jl4 jm4)).2 (vq_pgw jk4 (by decide)) hG hS (lv_sub hl [0, 3, 4] rfl) rfl (Nat.le_refl _)
        · have i22 : hi < z4_4.toInt := vq_lt (iv_gt_of c20) hlh.2 rfl
          refine lv_aload_n X.1 X.2.1 dX10_number_114 rfl (lv_at hl 0 rfl) ?_
          refine lv_iload X.1 X.2.1 dX10_number_115 (lv_at hl 4 rfl) ?_
          refine lv_if_ne (tgt := 127) X.1 X.2.1 dX10_number_117 (by decide) (fun c39 => ?_) (fun c39 => ?_)
          · have i40 : (z4_5.toInt = (0 : Int)) = False := vq_ne c39 rfl (by decide +kernel)
            refine lv_aload_n X.1 X.2.1 dX10_number_127 rfl (lv_at hl 0 rfl) ?_
            refine gf_X10_2g X hK hG h0 wl_1_44 dX10_number_128 (fun f42 hf42 => ?_)
            have xf42 : f42.toInt = a4 := vq_iv hf42
            have yf42 : iv 0 240 f42 := vq_240 hl0 (And.intro jl4 jm4) xf42
            refine lv_iconst (v := 1) X.1 X.2.1 dX10_number_131 (by decide +kernel) ?_
            refine lv_isub X.1 X.2.1 dX10_number_132 ?_
            refine lv_topi (fun f43 ef43 => ?_)
            have xf43 : f43.toInt = (a4 - 1) := sg_exsub ef43 yf42 (iv_c 1 (a := 1) (b := 1) (by decide +kernel)) (by decide +kernel) xf42 (by decide +kernel)
            refine pf_X10_3G (b1 := (a4 - 1)) (b2 := (a4 - 1)) X hK hG hS h0 wl_1_45 (vq_of (lo := (a4 - 1)) (hi := (a4 - 1)) xf43 ⟨Int.le_refl _, Int.le_refl _⟩) dX10_number_133 (fun H locs hG hS => ?_)
            refine lv_iconst (v := (-1)) X.1 X.2.1 dX10_number_136 (by decide +kernel) ?_
            have spr : vNd (sgT1 P) (sgL1 P) lo hi 2 false 0 a = (false, (a4 - 1), 0) := xf4.1.trans (by simp only [vNe, i7, i14, i22, i40, cond_true, cond_false, vB_t, vB_f, if_true, if_false, eq_self, not_true_eq_false, not_false_eq_true, Int.reduceEq, Int.reduceLT, or_false, false_or, or_true, true_or])
            have hG := kg_weak (b1 := 0) (b2 := 240) (c1 := (a4 - 1)) (c2 := (a4 - 1)) hG ((And.intro jl4 jm4)).1 (Int.le_trans ((And.intro jl4 jm4)).2 hl0.2) (Int.le_refl _) (Int.le_refl _)
            exact sg_iret2 X hr hlk hS trivial (fun t ht hW => (Or.inr ⟨rfl, _, spr, sg_post hb hK hC hG hS ht hW⟩)) dX10_number_137
          · have i41 : z4_5.toInt = (0 : Int) := vq_eq c39 rfl (by decide +kernel)
            exact ((iv_no (a := 1) (b := 0) (iv_eqm c39 (iv_ne_lo (a' := 1) c5 hz4_5 (by decide +kernel)) (iv_c 0 (a := 0) (b := 0) (by decide +kernel)) (by decide +kernel)) (by decide +kernel))).elim
  refine lv_icmp_ge (tgt := 97) X.1 X.2.1 dX10_number_14 (by decide) (fun c3 => ?_) (fun c3 => ?_)
  · have ci44 : vC (sgT1 P) (sgL1 P) a = 0 := vC_out (Int.not_lt.mp (vq_le c3 xf2 xf1))
    have i44 : ¬ a < sgL1 P := vq_le c3 xf2 xf1
    exact B4_97 s.heap _ _ 0 0 (a) (hav).1 (hav).2 (vq_pgw (vq_pg0 a) (by decide)) hG hS (lv_sub hl [2, 4, 5, 1, 0] rfl) (iv_of (iv_c 0 (a := 0) (b := 0) (by decide +kernel)) (a' := 0) (b' := 99) (by decide +kernel)) (iv_of (iv_c 0 (a := 0) (b := 0) (by decide +kernel)) (a' := 0) (b' := 2) (by decide +kernel)) ⟨by rw [show (0 : Int32).toInt = 0 from by decide +kernel]; exact vNd_end0 (vq_n48 ci44), by rw [show (0 : Int32).toInt = 0 from by decide +kernel]; omega⟩
  · have i45 : a < sgL1 P := vq_lt (iv_gt_of c3) xf1 xf2
    refine lv_aload_n X.1 X.2.1 dX10_number_17 rfl (lv_at hl 2 rfl) ?_
    refine gf_X10_0g X hK hG h0 wl_1_41 dX10_number_18 (fun q46 hq46 kq46 => ?_)
    refine lv_aload_n X.1 X.2.1 dX10_number_21 rfl (lv_at hl 2 rfl) ?_
    refine gf_X10_2g X hK hG h0 wl_1_44 dX10_number_22 (fun f47 hf47 => ?_)
    have xf47 : f47.toInt = a := vq_iv hf47
    have yf47 : iv 0 240 f47 := vq_240 hl0 hav xf47
    have z48 : iv 0 239 f47 := vq_239 hl0 hav i45 xf47
    refine al_42g X hK hG hq46 (iv_vpin z48 (by decide +kernel)) dX10_number_25 (fun f49 hf49 => ?_)
    have of49 := hf49
    have hf49 : iv (-2147483648) 2147483647 f49 := iv_top f49
    have xf49 : f49.toInt = vC (sgT1 P) (sgL1 P) a := vq_tp (n := sgL1 P) of49 xf47 (hav).1 i45
    refine lv_bipush (v := 48) X.1 X.2.1 dX10_number_26 (by decide +kernel) ?_
    refine lv_icmp_lt (tgt := 97) X.1 X.2.1 dX10_number_28 (by decide) (fun c50 => ?_) (fun c50 => ?_)
    · have i51 : vC (sgT1 P) (sgL1 P) a < (48 : Int) := vq_lt c50 xf49 (by decide +kernel)
      exact B4_97 s.heap _ _ 0 0 (a) (hav).1 (hav).2 (vq_pgw (vq_pg0 a) (by decide)) hG hS (lv_sub hl [2, 4, 5, 1, 0] rfl) (iv_of (iv_c 0 (a := 0) (b := 0) (by decide +kernel)) (a' := 0) (b' := 99) (by decide +kernel)) (iv_of (iv_c 0 (a := 0) (b := 0) (by decide +kernel)) (a' := 0) (b' := 2) (by decide +kernel)) ⟨by rw [show (0 : Int32).toInt = 0 from by decide +kernel]; exact vNd_end0 (Or.inl i51), by rw [show (0 : Int32).toInt = 0 from by decide +kernel]; omega⟩
    · have i52 : ¬ vC (sgT1 P) (sgL1 P) a < (48 : Int) := vq_le (iv_ge_of c50) (by decide +kernel) xf49
      refine lv_aload_n X.1 X.2.1 dX10_number_31 rfl (lv_at hl 2 rfl) ?_
      refine gg_X10_0g X hK hG h0 wl_1_41 kq46 dX10_number_32 ?_
      refine lv_aload_n X.1 X.2.1 dX10_number_35 rfl (lv_at hl 2 rfl) ?_
      refine gf_X10_2g X hK hG h0 wl_1_44 dX10_number_36 (fun f53 hf53 => ?_)
      have xf53 : f53.toInt = a := vq_iv hf53
      have yf53 : iv 0 240 f53 := vq_240 hl0 hav xf53
      have z54 : iv 0 239 f53 := vq_239 hl0 hav i45 xf53
      refine al_42g X hK hG hq46 (iv_vpin z54 (by decide +kernel)) dX10_number_39 (fun f55 hf55 => ?_)
      have of55 := hf55
      have hf55 : iv (-2147483648) 2147483647 f55 := iv_top f55
      have xf55 : f55.toInt = vC (sgT1 P) (sgL1 P) a := vq_tp (n := sgL1 P) of55 xf53 (hav).1 i45
      refine lv_bipush (v := 57) X.1 X.2.1 dX10_number_40 (by decide +kernel) ?_
      refine lv_icmp_gt (tgt := 97) X.1 X.2.1 dX10_number_42 (by decide) (fun c56 => ?_) (fun c56 => ?_)
      · have i57 : (57 : Int) < vC (sgT1 P) (sgL1 P) a := vq_lt c56 (by decide +kernel) xf55
        exact B4_97 s.heap _ _ 0 0 (a) (hav).1 (hav).2 (vq_pgw (vq_pg0 a) (by decide)) hG hS (lv_sub hl [2, 4, 5, 1, 0] rfl) (iv_of (iv_c 0 (a := 0) (b := 0) (by decide +kernel)) (a' := 0) (b' := 99) (by decide +kernel)) (iv_of (iv_c 0 (a := 0) (b := 0) (by decide +kernel)) (a' := 0) (b' := 2) (by decide +kernel)) ⟨by rw [show (0 : Int32).toInt = 0 from by decide +kernel]; exact vNd_end0 (Or.inr i57), by rw [show (0 : Int32).toInt = 0 from by decide +kernel]; omega⟩
      · have i58 : ¬ (57 : Int) < vC (sgT1 P) (sgL1 P) a := vq_le (iv_ge_of c56) xf55 (by decide +kernel)
        refine lv_iload X.1 X.2.1 dX10_number_45 (lv_at hl 0 rfl) ?_
        refine lv_iload_n X.1 X.2.1 dX10_number_47 rfl (lv_at hl 3 rfl) ?_
        refine lv_icmp_ne (tgt := 61) X.1 X.2.1 dX10_number_48 (by decide) (fun c59 => ?_) (fun c59 => ?_)
        · have i60 : ((0 : Int) = x1.toInt) = False := vq_ne c59 (by decide +kernel) rfl
          refine lv_iload X.1 X.2.1 dX10_number_61 (lv_at hl 1 rfl) ?_
          refine lv_bipush (v := 10) X.1 X.2.1 dX10_number_63 (by decide +kernel) ?_
          refine lv_imul X.1 X.2.1 dX10_number_65 ?_
          refine lv_topi (fun f62 ef62 => ?_)
          have xf62 : f62.toInt = (0 * 10) := sg_exmul ef62 (iv_c 0 (a := 0) (b := 0) (by decide +kernel)) (iv_c 10 (a := 10) (b := 10) (by decide +kernel)) (by decide +kernel) (by decide +kernel) (by decide +kernel)
          refine lv_aload_n X.1 X.2.1 dX10_number_66 rfl (lv_at hl 2 rfl) ?_
          refine gg_X10_0g X hK hG h0 wl_1_41 kq46 dX10_number_67 ?_
          refine lv_aload_n X.1 X.2.1 dX10_number_70 rfl (lv_at hl 2 rfl) ?_
          refine gf_X10_2g X hK hG h0 wl_1_44 dX10_number_71 (fun f63 hf63 => ?_)
          have xf63 : f63.toInt = a := vq_iv hf63
          have yf63 : iv 0 240 f63 := vq_240 hl0 hav xf63
          have z64 : iv 0 239 f63 := vq_239 hl0 hav i45 xf63
          refine al_42g X hK hG hq46 (iv_vpin z64 (by decide +kernel)) dX10_number_74 (fun f65 hf65 => ?_)
          have of65 := hf65
          have hf65 : iv (-2147483648) 2147483647 f65 := iv_top f65
          have xf65 : f65.toInt = vC (sgT1 P) (sgL1 P) a := vq_tp (n := sgL1 P) of65 xf63 (hav).1 i45
          have y66 : iv 48 57 f65 := vq_57 xf65 i52 i58
          refine lv_iadd X.1 X.2.1 dX10_number_75 ?_
          refine lv_topi (fun f67 ef67 => ?_)
          have xf67 : f67.toInt = ((0 * 10) + vC (sgT1 P) (sgL1 P) a) := sg_exadd ef67 (iv_mul (a' := 0) (b' := 0) ef62 (iv_c 0 (a := 0) (b := 0) (by decide +kernel)) (iv_c 10 (a := 10) (b := 10) (by decide +kernel)) (by decide +kernel)) y66 (by decide +kernel) xf62 xf65
          refine lv_bipush (v := 48) X.1 X.2.1 dX10_number_76 (by decide +kernel) ?_
          refine lv_isub X.1 X.2.1 dX10_number_78 ?_
          refine lv_topi (fun f68 ef68 => ?_)
          have xf68 : f68.toInt = (((0 * 10) + vC (sgT1 P) (sgL1 P) a) - 48) := sg_exsub ef68 (iv_add (a' := 48) (b' := 57) ef67 (iv_mul (a' := 0) (b' := 0) ef62 (iv_c 0 (a := 0) (b := 0) (by decide +kernel)) (iv_c 10 (a := 10) (b := 10) (by decide +kernel)) (by decide +kernel)) y66 (by decide +kernel)) (iv_c 48 (a := 48) (b := 48) (by decide +kernel)) (by decide +kernel) xf67 (by decide +kernel)
          refine lv_istore (lv' := [(4, .int f68), (5, .int 0), (0, .ref a0), (1, .int x1), (2, .int x2), (3, .int x3)]) X.1 X.2.1 dX10_number_79 hl (by decide) rfl (fun ls hl => ?_)
          obtain ⟨y69, ey69⟩ : ∃ y : Int32, y = 0 + Int32.ofInt 1 := ⟨_, rfl⟩
          have xy69 : y69.toInt = (0 + 1) := sg_exadd ey69 (iv_c 0 (a := 0) (b := 0) (by decide +kernel)) (iv_c _ (a := 1) (b := 1) (by decide +kernel)) (by decide +kernel) (by decide +kernel) (by decide +kernel)
          refine lv_iinc (v := y69) (lv' := [(5, .int y69), (4, .int f68), (0, .ref a0), (1, .int x1), (2, .int x2), (3, .int x3)]) X.1 X.2.1 dX10_number_81 hl (k := 1) rfl ey69.symm (by decide) rfl (fun ls hl => ?_)
          refine lv_aload_n X.1 X.2.1 dX10_number_84 rfl (lv_at hl 2 rfl) ?_
          refine lv_dup X.1 X.2.1 dX10_number_85 rfl ?_
          refine gf_X10_2g X hK hG h0 wl_1_44 dX10_number_86 (fun f70 hf70 => ?_)
          have xf70 : f70.toInt = a := vq_iv hf70
          have yf70 : iv 0 240 f70 := vq_240 hl0 hav xf70
          refine lv_iconst (v := 1) X.1 X.2.1 dX10_number_89 (by decide +kernel) ?_
          refine lv_iadd X.1 X.2.1 dX10_number_90 ?_
          refine lv_topi (fun f71 ef71 => ?_)
          have xf71 : f71.toInt = (a + 1) := sg_exadd ef71 yf70 (iv_c 1 (a := 1) (b := 1) (by decide +kernel)) (by decide +kernel) xf70 (by decide +kernel)
          refine pf_X10_2G (b1 := (a + 1)) (b2 := (a + 1)) X hK hG hS h0 wl_1_44 (vq_of (lo := (a + 1)) (hi := (a + 1)) xf71 ⟨Int.le_refl _, Int.le_refl _⟩) dX10_number_91 (fun H locs hG hS => ?_)
          have b72 := vq_bd1 hav i45
          have pb72 : a + 1 ≤ (a + 1) := vq_pg (vq_pg0 a) (m := 1) (Int.le_refl _) (by decide)
          refine lv_goto (tgt := 6) X.1 X.2.1 dX10_number_94 (by decide) ?_
          refine lv_aload_n X.1 X.2.1 dX10_number_6 rfl (lv_at hl 2 rfl) ?_
          refine gf_X10_2g X hK hG h0 wl_1_44 dX10_number_7 (fun f73 hf73 => ?_)
          have xf73 : f73.toInt = (a + 1) := vq_iv hf73
          have yf73 : iv 0 240 f73 := vq_240 hl0 b72 xf73
          refine lv_aload_n X.1 X.2.1 dX10_number_10 rfl (lv_at hl 2 rfl) ?_
          refine gf_X10_1g X hK hG h0 wl_1_43 dX10_number_11 (fun f74 hf74 pf74 kf74 => ?_)
          have xf74 : f74.toInt = sgL1 P := sgC240_eq pf74 hl0.1 hl0.2
          refine lv_icmp_ge (tgt := 97) X.1 X.2.1 dX10_number_14 (by decide) (fun c75 => ?_) (fun c75 => ?_)
          · have ci76 : vC (sgT1 P) (sgL1 P) (a + 1) = 0 := vC_out (Int.not_lt.mp (vq_le c75 xf74 xf73))
            have i76 : ¬ (a + 1) < sgL1 P := vq_le c75 xf74 xf73
            exact B4_97 H _ _ f68 y69 ((a + 1)) (b72).1 (b72).2 (vq_pgw pb72 (by decide)) hG hS (lv_sub hl [2, 4, 5, 1, 0] rfl) (iv_of (iv_sub (a' := 0) (b' := 9) ef68 (iv_add (a' := 48) (b' := 57) ef67 (iv_mul (a' := 0) (b' := 0) ef62 (iv_c 0 (a := 0) (b := 0) (by decide +kernel)) (iv_c 10 (a := 10) (b := 10) (by decide +kernel)) (by decide +kernel)) y66 (by decide +kernel)) (iv_c 48 (a := 48) (b := 48) (by decide +kernel)) (by decide +kernel)) (a' := 0) (b' := 99) (by decide +kernel)) (iv_of (iv_add (a' := 1) (b' := 1) ey69 (iv_c 0 (a := 0) (b := 0) (by decide +kernel)) (iv_c _ (a := 1) (b := 1) (by decide +kernel)) (by decide +kernel)) (a' := 0) (b' := 2) (by decide +kernel)) ⟨by rw [xy69, xf68]; exact (vNd_more (Int.not_lt.mp i52) (Int.not_lt.mp i58)).trans (vNd_end1 (vq_n48 ci76) (by decide)), by rw [xy69]; omega⟩
          · have i77 : (a + 1) < sgL1 P := vq_lt (iv_gt_of c75) xf73 xf74
            refine lv_aload_n X.1 X.2.1 dX10_number_17 rfl (lv_at hl 2 rfl) ?_
            refine gf_X10_0g X hK hG h0 wl_1_41 dX10_number_18 (fun q78 hq78 kq78 => ?_)
            refine lv_aload_n X.1 X.2.1 dX10_number_21 rfl (lv_at hl 2 rfl) ?_
            refine gf_X10_2g X hK hG h0 wl_1_44 dX10_number_22 (fun f79 hf79 => ?_)
            have xf79 : f79.toInt = (a + 1) := vq_iv hf79
            have yf79 : iv 0 240 f79 := vq_240 hl0 b72 xf79
            have z80 : iv 0 239 f79 := vq_239 hl0 b72 i77 xf79
            refine al_42g X hK hG hq78 (iv_vpin z80 (by decide +kernel)) dX10_number_25 (fun f81 hf81 => ?_)
            have of81 := hf81
            have hf81 : iv (-2147483648) 2147483647 f81 := iv_top f81
            have xf81 : f81.toInt = vC (sgT1 P) (sgL1 P) (a + 1) := vq_tp (n := sgL1 P) of81 xf79 (b72).1 i77
            refine lv_bipush (v := 48) X.1 X.2.1 dX10_number_26 (by decide +kernel) ?_
            refine lv_icmp_lt (tgt := 97) X.1 X.2.1 dX10_number_28 (by decide) (fun c82 => ?_) (fun c82 => ?_)
            · have i83 : vC (sgT1 P) (sgL1 P) (a + 1) < (48 : Int) := vq_lt c82 xf81 (by decide +kernel)
              exact B4_97 H _ _ f68 y69 ((a + 1)) (b72).1 (b72).2 (vq_pgw pb72 (by decide)) hG hS (lv_sub hl [2, 4, 5, 1, 0] rfl) (iv_of (iv_sub (a' := 0) (b' := 9) ef68 (iv_add (a' := 48) (b' := 57) ef67 (iv_mul (a' := 0) (b' := 0) ef62 (iv_c 0 (a := 0) (b := 0) (by decide +kernel)) (iv_c 10 (a := 10) (b := 10) (by decide +kernel)) (by decide +kernel)) y66 (by decide +kernel)) (iv_c 48 (a := 48) (b := 48) (by decide +kernel)) (by decide +kernel)) (a' := 0) (b' := 99) (by decide +kernel)) (iv_of (iv_add (a' := 1) (b' := 1) ey69 (iv_c 0 (a := 0) (b := 0) (by decide +kernel)) (iv_c _ (a := 1) (b := 1) (by decide +kernel)) (by decide +kernel)) (a' := 0) (b' := 2) (by decide +kernel)) ⟨by rw [xy69, xf68]; exact (vNd_more (Int.not_lt.mp i52) (Int.not_lt.mp i58)).trans (vNd_end1 (Or.inl i83) (by decide)), by rw [xy69]; omega⟩
            · have i84 : ¬ vC (sgT1 P) (sgL1 P) (a + 1) < (48 : Int) := vq_le (iv_ge_of c82) (by decide +kernel) xf81
              refine lv_aload_n X.1 X.2.1 dX10_number_31 rfl (lv_at hl 2 rfl) ?_
              refine gg_X10_0g X hK hG h0 wl_1_41 kq78 dX10_number_32 ?_
              refine lv_aload_n X.1 X.2.1 dX10_number_35 rfl (lv_at hl 2 rfl) ?_
              refine gf_X10_2g X hK hG h0 wl_1_44 dX10_number_36 (fun f85 hf85 => ?_)
              have xf85 : f85.toInt = (a + 1) := vq_iv hf85
              have yf85 : iv 0 240 f85 := vq_240 hl0 b72 xf85
              have z86 : iv 0 239 f85 := vq_239 hl0 b72 i77 xf85
              refine al_42g X hK hG hq78 (iv_vpin z86 (by decide +kernel)) dX10_number_39 (fun f87 hf87 => ?_)
              have of87 := hf87
              have hf87 : iv (-2147483648) 2147483647 f87 := iv_top f87
              have xf87 : f87.toInt = vC (sgT1 P) (sgL1 P) (a + 1) := vq_tp (n := sgL1 P) of87 xf85 (b72).1 i77
              refine lv_bipush (v := 57) X.1 X.2.1 dX10_number_40 (by decide +kernel) ?_
              refine lv_icmp_gt (tgt := 97) X.1 X.2.1 dX10_number_42 (by decide) (fun c88 => ?_) (fun c88 => ?_)
              · have i89 : (57 : Int) < vC (sgT1 P) (sgL1 P) (a + 1) := vq_lt c88 (by decide +kernel) xf87
                exact B4_97 H _ _ f68 y69 ((a + 1)) (b72).1 (b72).2 (vq_pgw pb72 (by decide)) hG hS (lv_sub hl [2, 4, 5, 1, 0] rfl) (iv_of (iv_sub (a' := 0) (b' := 9) ef68 (iv_add (a' := 48) (b' := 57) ef67 (iv_mul (a' := 0) (b' := 0) ef62 (iv_c 0 (a := 0) (b := 0) (by decide +kernel)) (iv_c 10 (a := 10) (b := 10) (by decide +kernel)) (by decide +kernel)) y66 (by decide +kernel)) (iv_c 48 (a := 48) (b := 48) (by decide +kernel)) (by decide +kernel)) (a' := 0) (b' := 99) (by decide +kernel)) (iv_of (iv_add (a' := 1) (b' := 1) ey69 (iv_c 0 (a := 0) (b := 0) (by decide +kernel)) (iv_c _ (a := 1) (b := 1) (by decide +kernel)) (by decide +kernel)) (a' := 0) (b' := 2) (by decide +kernel)) ⟨by rw [xy69, xf68]; exact (vNd_more (Int.not_lt.mp i52) (Int.not_lt.mp i58)).trans (vNd_end1 (Or.inr i89) (by decide)), by rw [xy69]; omega⟩
              · have i90 : ¬ (57 : Int) < vC (sgT1 P) (sgL1 P) (a + 1) := vq_le (iv_ge_of c88) xf87 (by decide +kernel)
                refine lv_iload X.1 X.2.1 dX10_number_45 (lv_at hl 0 rfl) ?_
                refine lv_iload_n X.1 X.2.1 dX10_number_47 rfl (lv_at hl 3 rfl) ?_
                refine lv_icmp_ne (tgt := 61) X.1 X.2.1 dX10_number_48 (by decide) (fun c91 => ?_) (fun c91 => ?_)
                · have i92 : (((0 + 1) : Int) = x1.toInt) = False := vq_ne c91 xy69 rfl
                  refine lv_iload X.1 X.2.1 dX10_number_61 (lv_at hl 1 rfl) ?_
                  refine lv_bipush (v := 10) X.1 X.2.1 dX10_number_63 (by decide +kernel) ?_
                  refine lv_imul X.1 X.2.1 dX10_number_65 ?_
                  refine lv_topi (fun f94 ef94 => ?_)
                  have xf94 : f94.toInt = ((((0 * 10) + vC (sgT1 P) (sgL1 P) a) - 48) * 10) := sg_exmul ef94 (iv_sub (a' := 0) (b' := 9) ef68 (iv_add (a' := 48) (b' := 57) ef67 (iv_mul (a' := 0) (b' := 0) ef62 (iv_c 0 (a := 0) (b := 0) (by decide +kernel)) (iv_c 10 (a := 10) (b := 10) (by decide +kernel)) (by decide +kernel)) y66 (by decide +kernel)) (iv_c 48 (a := 48) (b := 48) (by decide +kernel)) (by decide +kernel)) (iv_c 10 (a := 10) (b := 10) (by decide +kernel)) (by decide +kernel) xf68 (by decide +kernel)
                  refine lv_aload_n X.1 X.2.1 dX10_number_66 rfl (lv_at hl 2 rfl) ?_
                  refine gg_X10_0g X hK hG h0 wl_1_41 kq78 dX10_number_67 ?_
                  refine lv_aload_n X.1 X.2.1 dX10_number_70 rfl (lv_at hl 2 rfl) ?_
                  refine gf_X10_2g X hK hG h0 wl_1_44 dX10_number_71 (fun f95 hf95 => ?_)
                  have xf95 : f95.toInt = (a + 1) := vq_iv hf95
                  have yf95 : iv 0 240 f95 := vq_240 hl0 b72 xf95
                  have z96 : iv 0 239 f95 := vq_239 hl0 b72 i77 xf95
                  refine al_42g X hK hG hq78 (iv_vpin z96 (by decide +kernel)) dX10_number_74 (fun f97 hf97 => ?_)
                  have of97 := hf97
                  have hf97 : iv (-2147483648) 2147483647 f97 := iv_top f97
                  have xf97 : f97.toInt = vC (sgT1 P) (sgL1 P) (a + 1) := vq_tp (n := sgL1 P) of97 xf95 (b72).1 i77
                  have y98 : iv 48 57 f97 := vq_57 xf97 i84 i90
                  refine lv_iadd X.1 X.2.1 dX10_number_75 ?_
                  refine lv_topi (fun f99 ef99 => ?_)
                  have xf99 : f99.toInt = (((((0 * 10) + vC (sgT1 P) (sgL1 P) a) - 48) * 10) + vC (sgT1 P) (sgL1 P) (a + 1)) := sg_exadd ef99 (iv_mul (a' := 0) (b' := 90) ef94 (iv_sub (a' := 0) (b' := 9) ef68 (iv_add (a' := 48) (b' := 57) ef67 (iv_mul (a' := 0) (b' := 0) ef62 (iv_c 0 (a := 0) (b := 0) (by decide +kernel)) (iv_c 10 (a := 10) (b := 10) (by decide +kernel)) (by decide +kernel)) y66 (by decide +kernel)) (iv_c 48 (a := 48) (b := 48) (by decide +kernel)) (by decide +kernel)) (iv_c 10 (a := 10) (b := 10) (by decide +kernel)) (by decide +kernel)) y98 (by decide +kernel) xf94 xf97
                  refine lv_bipush (v := 48) X.1 X.2.1 dX10_number_76 (by decide +kernel) ?_
                  refine lv_isub X.1 X.2.1 dX10_number_78 ?_
                  refine lv_topi (fun f100 ef100 => ?_)
                  have xf100 : f100.toInt = ((((((0 * 10) + vC (sgT1 P) (sgL1 P) a) - 48) * 10) + vC (sgT1 P) (sgL1 P) (a + 1)) - 48) := sg_exsub ef100 (iv_add (a' := 48) (b' := 147) ef99 (iv_mul (a' := 0) (b' := 90) ef94 (iv_sub (a' := 0) (b' := 9) ef68 (iv_add (a' := 48) (b' := 57) ef67 (iv_mul (a' := 0) (b' := 0) ef62 (iv_c 0 (a := 0) (b := 0) (by decide +kernel)) (iv_c 10 (a := 10) (b := 10) (by decide +kernel)) (by decide +kernel)) y66 (by decide +kernel)) (iv_c 48 (a := 48) (b := 48) (by decide +kernel)) (by decide +kernel)) (iv_c 10 (a := 10) (b := 10) (by decide +kernel)) (by decide +kernel)) y98 (by decide +kernel)) (iv_c 48 (a := 48) (b := 48) (by decide +kernel)) (by decide +kernel) xf99 (by decide +kernel)
                  refine lv_istore (lv' := [(4, .int f100), (5, .int y69), (0, .ref a0), (1, .int x1), (2, .int x2), (3, .int x3)]) X.1 X.2.1 dX10_number_79 hl (by decide) rfl (fun ls hl => ?_)
                  obtain ⟨y101, ey101⟩ : ∃ y : Int32, y = y69 + Int32.ofInt 1 := ⟨_, rfl⟩
                  have xy101 : y101.toInt = ((0 + 1) + 1) := sg_exadd ey101 (iv_add (a' := 1) (b' := 1) ey69 (iv_c 0 (a := 0) (b := 0) (by decide +kernel)) (iv_c _ (a := 1) (b := 1) (by decide +kernel)) (by decide +kernel)) (iv_c _ (a := 1) (b := 1) (by decide +kernel)) (by decide +kernel) xy69 (by decide +kernel)
                  refine lv_iinc (v := y101) (lv' := [(5, .int y101), (4, .int f100), (0, .ref a0), (1, .int x1), (2, .int x2), (3, .int x3)]) X.1 X.2.1 dX10_number_81 hl (k := 1) rfl ey101.symm (by decide) rfl (fun ls hl => ?_)
                  refine lv_aload_n X.1 X.2.1 dX10_number_84 rfl (lv_at hl 2 rfl) ?_
                  refine lv_dup X.1 X.2.1 dX10_number_85 rfl ?_
                  refine gf_X10_2g X hK hG h0 wl_1_44 dX10_number_86 (fun f102 hf102 => ?_)
                  have xf102 : f102.toInt = (a + 1) := vq_iv hf102
                  have yf102 : iv 0 240 f102 := vq_240 hl0 b72 xf102
                  refine lv_iconst (v := 1) X.1 X.2.1 dX10_number_89 (by decide +kernel) ?_
                  refine lv_iadd X.1 X.2.1 dX10_number_90 ?_
                  refine lv_topi (fun f103 ef103 => ?_)
                  have xf103 : f103.toInt = ((a + 1) + 1) := sg_exadd ef103 yf102 (iv_c 1 (a := 1) (b := 1) (by decide +kernel)) (by decide +kernel) xf102 (by decide +kernel)
                  refine pf_X10_2G (b1 := ((a + 1) + 1)) (b2 := ((a + 1) + 1)) X hK hG hS h0 wl_1_44 (vq_of (lo := ((a + 1) + 1)) (hi := ((a + 1) + 1)) xf103 ⟨Int.le_refl _, Int.le_refl _⟩) dX10_number_91 (fun H locs hG hS => ?_)
                  have b104 := vq_bd1 b72 i77
                  have pb104 : a + 2 ≤ ((a + 1) + 1) := vq_pg pb72 (m := 1) (Int.le_refl _) (by decide)
                  refine lv_goto (tgt := 6) X.1 X.2.1 dX10_number_94 (by decide) ?_
                  refine lv_aload_n X.1 X.2.1 dX10_number_6 rfl (lv_at hl 2 rfl) ?_
                  refine gf_X10_2g X hK hG h0 wl_1_44 dX10_number_7 (fun f105 hf105 => ?_)
                  have xf105 : f105.toInt = ((a + 1) + 1) := vq_iv hf105
                  have yf105 : iv 0 240 f105 := vq_240 hl0 b104 xf105
                  refine lv_aload_n X.1 X.2.1 dX10_number_10 rfl (lv_at hl 2 rfl) ?_
                  refine gf_X10_1g X hK hG h0 wl_1_43 dX10_number_11 (fun f106 hf106 pf106 kf106 => ?_)
                  have xf106 : f106.toInt = sgL1 P := sgC240_eq pf106 hl0.1 hl0.2
                  refine lv_icmp_ge (tgt := 97) X.1 X.2.1 dX10_number_14 (by decide) (fun c107 => ?_) (fun c107 => ?_)
                  · have ci108 : vC (sgT1 P) (sgL1 P) ((a + 1) + 1) = 0 := vC_out (Int.not_lt.mp (vq_le c107 xf106 xf105))
                    have i108 : ¬ ((a + 1) + 1) < sgL1 P := vq_le c107 xf106 xf105
                    exact B4_97 H _ _ f100 y101 (((a + 1) + 1)) (b104).1 (b104).2 (vq_pgw pb104 (by decide)) hG hS (lv_sub hl [2, 4, 5, 1, 0] rfl) (iv_sub (a' := 0) (b' := 99) ef100 (iv_add (a' := 48) (b' := 147) ef99 (iv_mul (a' := 0) (b' := 90) ef94 (iv_sub (a' := 0) (b' := 9) ef68 (iv_add (a' := 48) (b' := 57) ef67 (iv_mul (a' := 0) (b' := 0) ef62 (iv_c 0 (a := 0) (b := 0) (by decide +kernel)) (iv_c 10 (a := 10) (b := 10) (by decide +kernel)) (by decide +kernel)) y66 (by decide +kernel)) (iv_c 48 (a := 48) (b := 48) (by decide +kernel)) (by decide +kernel)) (iv_c 10 (a := 10) (b := 10) (by decide +kernel)) (by decide +kernel)) y98 (by decide +kernel)) (iv_c 48 (a := 48) (b := 48) (by decide +kernel)) (by decide +kernel)) (iv_of (iv_add (a' := 2) (b' := 2) ey101 (iv_add (a' := 1) (b' := 1) ey69 (iv_c 0 (a := 0) (b := 0) (by decide +kernel)) (iv_c _ (a := 1) (b := 1) (by decide +kernel)) (by decide +kernel)) (iv_c _ (a := 1) (b := 1) (by decide +kernel)) (by decide +kernel)) (a' := 0) (b' := 2) (by decide +kernel)) ⟨by rw [xy101, xf100]; exact (vNd_more (Int.not_lt.mp i52) (Int.not_lt.mp i58)).trans ((vNd_more (Int.not_lt.mp i84) (Int.not_lt.mp i90)).trans (vNd_end1 (vq_n48 ci108) (by decide))), by rw [xy101]; omega⟩
                  · have i109 : ((a + 1) + 1) < sgL1 P := vq_lt (iv_gt_of c107) xf105 xf106
                    refine lv_aload_n X.1 X.2.1 dX10_number_17 rfl (lv_at hl 2 rfl) ?_
                    refine gf_X10_0g X hK hG h0 wl_1_41 dX10_number_18 (fun q110 hq110 kq110 => ?_)
                    refine lv_aload_n X.1 X.2.1 dX10_number_21 rfl (lv_at hl 2 rfl) ?_
                    refine gf_X10_2g X hK hG h0 wl_1_44 dX10_number_22 (fun f111 hf111 => ?_)
                    have xf111 : f111.toInt = ((a + 1) + 1) := vq_iv hf111
                    have yf111 : iv 0 240 f111 := vq_240 hl0 b104 xf111
                    have z112 : iv 0 239 f111 := vq_239 hl0 b104 i109 xf111
                    refine al_42g X hK hG hq110 (iv_vpin z112 (by decide +kernel)) dX10_number_25 (fun f113 hf113 => ?_)
                    have of113 := hf113
                    have hf113 : iv (-2147483648) 2147483647 f113 := iv_top f113
                    have xf113 : f113.toInt = vC (sgT1 P) (sgL1 P) ((a + 1) + 1) := vq_tp (n := sgL1 P) of113 xf111 (b104).1 i109
                    refine lv_bipush (v := 48) X.1 X.2.1 dX10_number_26 (by decide +kernel) ?_
                    refine lv_icmp_lt (tgt := 97) X.1 X.2.1 dX10_number_28 (by decide) (fun c114 => ?_) (fun c114 => ?_)
                    · have i115 : vC (sgT1 P) (sgL1 P) ((a + 1) + 1) < (48 : Int) := vq_lt c114 xf113 (by decide +kernel)
                      exact B4_97 H _ _ f100 y101 (((a + 1) + 1)) (b104).1 (b104).2 (vq_pgw pb104 (by decide)) hG hS (lv_sub hl [2, 4, 5, 1, 0] rfl) (iv_sub (a' := 0) (b' := 99) ef100 (iv_add (a' := 48) (b' := 147) ef99 (iv_mul (a' := 0) (b' := 90) ef94 (iv_sub (a' := 0) (b' := 9) ef68 (iv_add (a' := 48) (b' := 57) ef67 (iv_mul (a' := 0) (b' := 0) ef62 (iv_c 0 (a := 0) (b := 0) (by decide +kernel)) (iv_c 10 (a := 10) (b := 10) (by decide +kernel)) (by decide +kernel)) y66 (by decide +kernel)) (iv_c 48 (a := 48) (b := 48) (by decide +kernel)) (by decide +kernel)) (iv_c 10 (a := 10) (b := 10) (by decide +kernel)) (by decide +kernel)) y98 (by decide +kernel)) (iv_c 48 (a := 48) (b := 48) (by decide +kernel)) (by decide +kernel)) (iv_of (iv_add (a' := 2) (b' := 2) ey101 (iv_add (a' := 1) (b' := 1) ey69 (iv_c 0 (a := 0) (b := 0) (by decide +kernel)) (iv_c _ (a := 1) (b := 1) (by decide +kernel)) (by decide +kernel)) (iv_c _ (a := 1) (b := 1) (by decide +kernel)) (by decide +kernel)) (a' := 0) (b' := 2) (by decide +kernel)) ⟨by rw [xy101, xf100]; exact (vNd_more (Int.not_lt.mp i52) (Int.not_lt.mp i58)).trans ((vNd_more (Int.not_lt.mp i84) (Int.not_lt.mp i90)).trans (vNd_end1 (Or.inl i115) (by decide))), by rw [xy101]; omega⟩
                    · have i116 : ¬ vC (sgT1 P) (sgL1 P) ((a + 1) + 1) < (48 : Int) := vq_le (iv_ge_of c114) (by decide +kernel) xf113
                      refine lv_aload_n X.1 X.2.1 dX10_number_31 rfl (lv_at hl 2 rfl) ?_
                      refine gg_X10_0g X hK hG h0 wl_1_41 kq110 dX10_number_32 ?_
                      refine lv_aload_n X.1 X.2.1 dX10_number_35 rfl (lv_at hl 2 rfl) ?_
                      refine gf_X10_2g X hK hG h0 wl_1_44 dX10_number_36 (fun f117 hf117 => ?_)
                      have xf117 : f117.toInt = ((a + 1) + 1) := vq_iv hf117
                      have yf117 : iv 0 240 f117 := vq_240 hl0 b104 xf117
                      have z118 : iv 0 239 f117 := vq_239 hl0 b104 i109 xf117
                      refine al_42g X hK hG hq110 (iv_vpin z118 (by decide +kernel)) dX10_number_39 (fun f119 hf119 => ?_)
                      have of119 := hf119
                      have hf119 : iv (-2147483648) 2147483647 f119 := iv_top f119
                      have xf119 : f119.toInt = vC (sgT1 P) (sgL1 P) ((a + 1) + 1) := vq_tp (n := sgL1 P) of119 xf117 (b104).1 i109
                      refine lv_bipush (v := 57) X.1 X.2.1 dX10_number_40 (by decide +kernel) ?_
                      refine lv_icmp_gt (tgt := 97) X.1 X.2.1 dX10_number_42 (by decide) (fun c120 => ?_) (fun c120 => ?_)
                      · have i121 : (57 : Int) < vC (sgT1 P) (sgL1 P) ((a + 1) + 1) := vq_lt c120 (by decide +kernel) xf119
                        exact B4_97 H _ _ f100 y101 (((a + 1) + 1)) (b104).1 (b104).2 (vq_pgw pb104 (by decide)) hG hS (lv_sub hl [2, 4, 5, 1, 0] rfl) (iv_sub (a' := 0) (b' := 99) ef100 (iv_add (a' := 48) (b' := 147) ef99 (iv_mul (a' := 0) (b' := 90) ef94 (iv_sub (a' := 0) (b' := 9) ef68 (iv_add (a' := 48) (b' := 57) ef67 (iv_mul (a' := 0) (b' := 0) ef62 (iv_c 0 (a := 0) (b := 0) (by decide +kernel)) (iv_c 10 (a := 10) (b := 10) (by decide +kernel)) (by decide +kernel)) y66 (by decide +kernel)) (iv_c 48 (a := 48) (b := 48) (by decide +kernel)) (by decide +kernel)) (iv_c 10 (a := 10) (b := 10) (by decide +kernel)) (by decide +kernel)) y98 (by decide +kernel)) (iv_c 48 (a := 48) (b := 48) (by decide +kernel)) (by decide +kernel)) (iv_of (iv_add (a' := 2) (b' := 2) ey101 (iv_add (a' := 1) (b' := 1) ey69 (iv_c 0 (a := 0) (b := 0) (by decide +kernel)) (iv_c _ (a := 1) (b := 1) (by decide +kernel)) (by decide +kernel)) (iv_c _ (a := 1) (b := 1) (by decide +kernel)) (by decide +kernel)) (a' := 0) (b' := 2) (by decide +kernel)) ⟨by rw [xy101, xf100]; exact (vNd_more (Int.not_lt.mp i52) (Int.not_lt.mp i58)).trans ((vNd_more (Int.not_lt.mp i84) (Int.not_lt.mp i90)).trans (vNd_end1 (Or.inr i121) (by decide))), by rw [xy101]; omega⟩
                      · have i122 : ¬ (57 : Int) < vC (sgT1 P) (sgL1 P) ((a + 1) + 1) := vq_le (iv_ge_of c120) xf119 (by decide +kernel)
                        refine lv_iload X.1 X.2.1 dX10_number_45 (lv_at hl 0 rfl) ?_
                        refine lv_iload_n X.1 X.2.1 dX10_number_47 rfl (lv_at hl 3 rfl) ?_
                        refine lv_icmp_ne (tgt := 61) X.1 X.2.1 dX10_number_48 (by decide) (fun c123 => ?_) (fun c123 => ?_)
                        · have i124 : ((((0 + 1) + 1) : Int) = x1.toInt) = False := vq_ne c123 xy101 rfl
                          exact ((c123 (iv_one (iv_add (a' := 2) (b' := 2) ey101 (iv_add (a' := 1) (b' := 1) ey69 (iv_c 0 (a := 0) (b := 0) (by decide +kernel)) (iv_c _ (a := 1) (b := 1) (by decide +kernel)) (by decide +kernel)) (iv_c _ (a := 1) (b := 1) (by decide +kernel)) (by decide +kernel)) h1 (by decide +kernel)))).elim
                        · have i125 : (((0 + 1) + 1) : Int) = x1.toInt := vq_eq c123 xy101 rfl
                          refine lv_aload_n X.1 X.2.1 dX10_number_51 rfl (lv_at hl 2 rfl) ?_
                          refine lv_aload_n X.1 X.2.1 dX10_number_52 rfl (lv_at hl 2 rfl) ?_
                          refine gf_X10_2g X hK hG h0 wl_1_44 dX10_number_53 (fun f126 hf126 => ?_)
                          have xf126 : f126.toInt = ((a + 1) + 1) := vq_iv hf126
                          have yf126 : iv 0 240 f126 := vq_240 hl0 b104 xf126
                          refine pf_X10_3G (b1 := ((a + 1) + 1)) (b2 := ((a + 1) + 1)) X hK hG hS h0 wl_1_45 (vq_of (lo := ((a + 1) + 1)) (hi := ((a + 1) + 1)) xf126 ⟨Int.le_refl _, Int.le_refl _⟩) dX10_number_56 (fun H locs hG hS => ?_)
                          refine lv_iconst (v := (-1)) X.1 X.2.1 dX10_number_59 (by decide +kernel) ?_
                          have spr : vNd (sgT1 P) (sgL1 P) lo hi 2 false 0 a = (false, ((a + 1) + 1), 0) := (vNd_more (Int.not_lt.mp i52) (Int.not_lt.mp i58)).trans ((vNd_more (Int.not_lt.mp i84) (Int.not_lt.mp i90)).trans (vNd_many (Int.not_lt.mp i116) (Int.not_lt.mp i122)))
                          have hG := kg_weak (b1 := 0) (b2 := 240) (c1 := ((a + 1) + 1)) (c2 := ((a + 1) + 1)) hG (b104).1 (Int.le_trans (b104).2 hl0.2) (Int.le_refl _) (Int.le_refl _)
                          exact sg_iret2 X hr hlk hS trivial (fun t ht hW => (Or.inr ⟨rfl, _, spr, sg_post hb hK hC hG hS ht hW⟩)) dX10_number_60
                · have i93 : ((0 + 1) : Int) = x1.toInt := vq_eq c91 xy69 rfl
                  exact ((iv_no (a := 2) (b := 1) (iv_eqm c91 (iv_add (a' := 1) (b' := 1) ey69 (iv_c 0 (a := 0) (b := 0) (by decide +kernel)) (iv_c _ (a := 1) (b := 1) (by decide +kernel)) (by decide +kernel)) h1 (by decide +kernel)) (by decide +kernel))).elim
        · have i61 : (0 : Int) = x1.toInt := vq_eq c59 (by decide +kernel) rfl
          exact ((iv_no (a := 2) (b := 0) (iv_eqm c59 (iv_c 0 (a := 0) (b := 0) (by decide +kernel)) h1 (by decide +kernel)) (by decide +kernel))).elim

theorem ca_X10_number_g2  {a w1 w2 lo hi : Int} {z : sgZg}  (X : CallFix p m c cc nL s args sg_tbl own) (hK : va_K D vwCl tys s) (hG : sgG (KG a a w1 w2 z P) D vwCl (fun q : Nat => base ≤ q) tys ad ks H) (hC : sgC base s) (hS : va_S (fun q : Nat => base ≤ q) s.heap H locs) (hb : base ≤ s.heap.size) (a0 : Nat) (h0 : isK ad ks 10 a0) (x1 : Int32) (h1 : iv 2 2 x1) (x2 : Int32) (x3 : Int32) (hl0 : 0 ≤ sgL1 P ∧ sgL1 P ≤ 240) (hav : 0 ≤ a ∧ a ≤ sgL1 P) (hlh : x2.toInt = lo ∧ x3.toInt = hi) (hl : Cond.methodLink own index yX10_number ∈ sg_tbl) (hsize : ls.size = nL) (hst : st0 = [.int x1, .int x2, .int x3].reverse ++ .ref a0 :: rest) (hW : (rest.map fun v => v.category).sum ≤ 8) (hR : 1 ≤ R.frames ∧ 25 ≤ R.locals) (hf : cells ≤ R.cells ∧ slots ≤ R.slots) (hdg : decode cc pc = .ok (.invokevirtual index, 3)) (kk : ∀ (r : Int32) (t : State) (H1 : Heap) (locs1 : List Loc), t.heap = H1 → (fun r : Int32 => True) r → ((∃ a1 v : Int, vNd (sgT1 P) (sgL1 P) lo hi 2 false 0 a = (true, a1, v) ∧ r.toInt = v ∧ lo ≤ v ∧ v ≤ hi ∧ 0 ≤ v ∧ v ≤ 99 ∧ a + 1 ≤ a1 ∧ a1 ≤ sgL1 P ∧ sgB (KG a1 a1 w1 w2 z P) D vwCl base tys ad ks t) ∨ (r = -1 ∧ ∃ w : Int, vNd (sgT1 P) (sgL1 P) lo hi 2 false 0 a = (false, w, 0) ∧ sgB (KG 0 240 w w z P) D vwCl base tys ad ks t)) → va_S (fun q : Nat => base ≤ q) s.heap H1 locs1 → W p l e R s m args below meth c H1 locs1 cells slots Q (F0 m (pc + 3) ls (.int r :: rest))) : W p l e R s m args below meth c H locs cells slots Q (F0 m pc ls st0) :=
  sg_callV2i X hK hG hC hS hb (m_X10_number_g2 l a0 h0 x1 h1 x2 x3 hl0 hav hlh) h0 (k := 10) (ci := 10) rfl (C := RX10) (T := TX10) (N := 4) rfl wl_3_162 wl_1_2 wl_3_160 wl_3_161 (n := 3) (by decide +kernel) rfl rfl rfl hl hsize hst hW hR hf hdg kk

set_option maxHeartbeats 8000000 in
set_option maxRecDepth 100000 in
theorem m_X10_ended_g (l : Launch) {D : va_G} {base : Nat} {tys : List (ClassId × FieldType)} {ad ks : List Nat} {P : sgPm}{a w1 w2 : Int} {z : sgZg}  (a0 : Nat) (h0 : isK ad ks 10 a0) (hl0 : 0 ≤ sgL1 P ∧ sgL1 P ≤ 240) (hav : 0 ≤ a ∧ a ≤ sgL1 P) : Met l yX10_ended (Cond.code yX10_ended cX10_ended 1 (some .boolean) :: sg_tbl) ({ frames := 1, cells := 0, slots := 0, locals := 20 }) (va_Pc [.ref a0] (sgB (KG a a w1 w2 z P) D vwCl base tys ad ks)) (va_Qi (fun r (u : Int32) => u = r ∧ (fun r : Int32 => iv 0 1 r) r) (fun u t => (u = 1 ∧ ∃ a1 : Int, vEn (sgT1 P) (sgL1 P) a = (true, a1) ∧ a + 0 ≤ a1 ∧ a1 ≤ sgL1 P ∧ sgB (KG a1 a1 w1 w2 z P) D vwCl base tys ad ks t) ∨ (u = 0 ∧ ∃ w : Int, vEn (sgT1 P) (sgL1 P) a = (false, w) ∧ sgB (KG 0 240 w w z P) D vwCl base tys ad ks t)) (fun q : Nat => base ≤ q)) 0 0 (fun q : Nat => base ≤ q) := by
  refine sg_ofW (by decide +kernel) (Nat.le_of_ble_eq_true rfl) (fun p e s m below meth c X hr hlk hb hK hC hG ls hl => ?_)
  have hS : va_S (fun q : Nat => base ≤ q) s.heap s.heap [] := va_S.rf
  have hl : lv_has ls 1 [(0, .ref a0)] := hl
  refine lv_aload_n X.1 X.2.1 dX10_ended_0 rfl (lv_at hl 0 rfl) ?_
  refine ca_X10_sign_g X hK hG hC (fun _ h => h) hS hb a0 h0 hl0 hav wl_3_171 hl.1 (rest := []) rfl (Nat.le_of_ble_eq_true rfl) ⟨Nat.le_of_ble_eq_true rfl, Nat.le_of_ble_eq_true rfl⟩ ⟨Nat.le_of_ble_eq_true rfl, Nat.le_of_ble_eq_true rfl⟩ dX10_ended_1 (fun f1 locs hf1 hS => ?_)
  refine lv_if_eq (tgt := 14) X.1 X.2.1 dX10_ended_4 (by decide) (fun c2 => ?_) (fun c2 => ?_)
  · have i3 : vC (sgT1 P) (sgL1 P) a = (0 : Int) := vq_eq c2 hf1 (by decide +kernel)
    refine lv_iconst (v := 1) X.1 X.2.1 dX10_ended_14 (by decide +kernel) ?_
    refine lv_goto (tgt := 19) X.1 X.2.1 dX10_ended_15 (by decide) ?_
    have spr : vEn (sgT1 P) (sgL1 P) a = (true, a) := by simp only [vEn, i3, cond_true, cond_false, vB_t, vB_f, if_true, if_false, eq_self, not_true_eq_false, not_false_eq_true, Int.reduceEq, Int.reduceLT, or_false, false_or, or_true, true_or]
    exact sg_zret2 X hr (sg_zn (iv_of (iv_c 1 (a := 1) (b := 1) (by decide +kernel)) (a' := 0) (b' := 1) (by decide +kernel))) hlk hS (iv_of (iv_c 1 (a := 1) (b := 1) (by decide +kernel)) (a' := 0) (b' := 1) (by decide +kernel)) (fun t ht hW => (Or.inl ⟨rfl, _, spr, vq_pgw (vq_pg0 a) (by decide), (hav).2, sg_post hb hK hC hG hS ht hW⟩)) dX10_ended_19
  · have i4 : (vC (sgT1 P) (sgL1 P) a = (0 : Int)) = False := vq_ne c2 hf1 (by decide +kernel)
    refine lv_aload_n X.1 X.2.1 dX10_ended_7 rfl (lv_at hl 0 rfl) ?_
    refine ca_X10_wrong_g X hK hG hC hS hb a0 h0 hl0 hav wl_3_172 hl.1 (rest := []) rfl (Nat.le_of_ble_eq_true rfl) ⟨Nat.le_of_ble_eq_true rfl, Nat.le_of_ble_eq_true rfl⟩ ⟨Nat.le_of_ble_eq_true rfl, Nat.le_of_ble_eq_true rfl⟩ dX10_ended_8 (fun f5 tf5 H locs htf5 hf5 hWf5 hS => ?_)
    have hG := hWf5.2.2.2
    rw [htf5] at hG
    obtain rfl : f5 = 0 := sg_is0 hf5
    refine lv_if_eq (tgt := 18) X.1 X.2.1 dX10_ended_11 (by decide) (fun c6 => ?_) (fun c6 => ?_)
    · refine lv_iconst (v := 0) X.1 X.2.1 dX10_ended_18 (by decide +kernel) ?_
      have spr : vEn (sgT1 P) (sgL1 P) a = (false, a) := by simp only [vEn, i4, cond_true, cond_false, vB_t, vB_f, if_true, if_false, eq_self, not_true_eq_false, not_false_eq_true, Int.reduceEq, Int.reduceLT, or_false, false_or, or_true, true_or]
      have hG := kg_weak (b1 := 0) (b2 := 240) (c1 := a) (c2 := a) hG (hav).1 (Int.le_trans (hav).2 hl0.2) (Int.le_refl _) (Int.le_refl _)
      exact sg_zret2 X hr (sg_zn (iv_of (iv_c 0 (a := 0) (b := 0) (by decide +kernel)) (a' := 0) (b' := 1) (by decide +kernel))) hlk hS (iv_of (iv_c 0 (a := 0) (b := 0) (by decide +kernel)) (a' := 0) (b' := 1) (by decide +kernel)) (fun t ht hW => (Or.inr ⟨rfl, _, spr, sg_post hb hK hC hG hS ht hW⟩)) dX10_ended_19
    · exact ((c6 (iv_one (iv_c 0 (a := 0) (b := 0) (by decide +kernel)) (iv_c 0 (a := 0) (b := 0) (by decide +kernel)) (by decide +kernel)))).elim

theorem ca_X10_ended_g  {a w1 w2 : Int} {z : sgZg}  (X : CallFix p m c cc nL s args sg_tbl own) (hK : va_K D vwCl tys s) (hG : sgG (KG a a w1 w2 z P) D vwCl (fun q : Nat => base ≤ q) tys ad ks H) (hC : sgC base s) (hS : va_S (fun q : Nat => base ≤ q) s.heap H locs) (hb : base ≤ s.heap.size) (a0 : Nat) (h0 : isK ad ks 10 a0) (hl0 : 0 ≤ sgL1 P ∧ sgL1 P ≤ 240) (hav : 0 ≤ a ∧ a ≤ sgL1 P) (hl : Cond.methodLink own index yX10_ended ∈ sg_tbl) (hsize : ls.size = nL) (hst : st0 = [].reverse ++ .ref a0 :: rest) (hW : (rest.map fun v => v.category).sum ≤ 8) (hR : 2 ≤ R.frames ∧ 40 ≤ R.locals) (hf : cells ≤ R.cells ∧ slots ≤ R.slots) (hdg : decode cc pc = .ok (.invokevirtual index, 3)) (kk : ∀ (r : Int32) (t : State) (H1 : Heap) (locs1 : List Loc), t.heap = H1 → (fun r : Int32 => iv 0 1 r) r → ((r = 1 ∧ ∃ a1 : Int, vEn (sgT1 P) (sgL1 P) a = (true, a1) ∧ a + 0 ≤ a1 ∧ a1 ≤ sgL1 P ∧ sgB (KG a1 a1 w1 w2 z P) D vwCl base tys ad ks t) ∨ (r = 0 ∧ ∃ w : Int, vEn (sgT1 P) (sgL1 P) a = (false, w) ∧ sgB (KG 0 240 w w z P) D vwCl base tys ad ks t)) → va_S (fun q : Nat => base ≤ q) s.heap H1 locs1 → W p l e R s m args below meth c H1 locs1 cells slots Q (F0 m (pc + 3) ls (.int r :: rest))) : W p l e R s m args below meth c H locs cells slots Q (F0 m pc ls st0) :=
  sg_callV2i X hK hG hC hS hb (m_X10_ended_g l a0 h0 hl0 hav) h0 (k := 10) (ci := 10) rfl (C := RX10) (T := TX10) (N := 4) rfl wl_3_170 wl_1_2 wl_3_168 wl_3_169 (n := 0) (by decide +kernel) rfl rfl rfl hl hsize hst hW hR hf hdg kk
end
