
section
variable {p : Program} {l : Launch} {e : Env} {R : Room} {s : State} {m : MethodId} {args : Array Value} {below : List Frame} {meth : Method} {c : Code} {H : Heap} {locs : List Loc} {cells slots : Nat} {Q : State → Prop} {cc : ByteArray} {nL pc : Nat} {ls : Array Slot} {rest : List Value} {own : String} {D : va_G} {A : Nat → Prop} {tys : List (ClassId × FieldType)} {ad ks : List Nat} {P : sgPm} {H0 : Heap} {index : Nat} {base : Nat} {st0 : List Value} {a : Nat}
theorem gf_X10_0a  {a1 a2 w1 w2 : Int} (X : CallFix p m c cc nL s args sg_tbl own) (hK : va_K D vwCl tys s) (hG : sgG (KA a1 a2 w1 w2 P) D vwCl A tys ad ks H) (ha : isK ad ks 10 a) (hl : Cond.fieldLink own index "LawnAhead$Tape" "bytes" "[I" ∈ sg_tbl) (hdg : decode cc pc = .ok (.getfield index, 3)) (kk : ∀ x : Nat, isK ad ks 42 x → fld D H 10 a 0 (.ref x) → W p l e R s m args below meth c H locs cells slots Q (F0 m (pc + 3) ls (.ref x :: rest))) : W p l e R s m args below meth c H locs cells slots Q (F0 m pc ls (.ref a :: rest)) :=
  sg_get X hK hG ha (k := 10) (ci := 10) rfl (C := RX10) (T := TX10) (N := 4) rfl inL_X10 0 (by decide) rfl hl (fun _ h => h) hdg (fun v hv hf => by
    obtain ⟨h1, -⟩ | ⟨x, rfl, hx⟩ := hv
    · cases h1
    · exact kk x hx hf)
theorem gf_X10_1a  {a1 a2 w1 w2 : Int} (X : CallFix p m c cc nL s args sg_tbl own) (hK : va_K D vwCl tys s) (hG : sgG (KA a1 a2 w1 w2 P) D vwCl A tys ad ks H) (ha : isK ad ks 10 a) (hl : Cond.fieldLink own index "LawnAhead$Tape" "length" "I" ∈ sg_tbl) (hdg : decode cc pc = .ok (.getfield index, 3)) (kk : ∀ x : Int32, iv 0 240 x → iv (sgC240 (sgL1 P)) (sgC240 (sgL1 P)) x → fld D H 10 a 1 (.int x) → W p l e R s m args below meth c H locs cells slots Q (F0 m (pc + 3) ls (.int x :: rest))) : W p l e R s m args below meth c H locs cells slots Q (F0 m pc ls (.ref a :: rest)) :=
  sg_get X hK hG ha (k := 10) (ci := 10) rfl (C := RX10) (T := TX10) (N := 4) rfl inL_X10 1 (by decide) rfl hl (fun _ h => h) hdg (fun v hv hf => by obtain ⟨x, rfl, hx⟩ := hv; exact kk x (sgC240_iv hx) hx hf)
theorem gg_X10_1a  {a1 a2 w1 w2 : Int} (X : CallFix p m c cc nL s args sg_tbl own) (hK : va_K D vwCl tys s) (hG : sgG (KA a1 a2 w1 w2 P) D vwCl A tys ad ks H) (ha : isK ad ks 10 a) (hl : Cond.fieldLink own index "LawnAhead$Tape" "length" "I" ∈ sg_tbl) {v : Value} (hf : fld D H 10 a 1 v) (hdg : decode cc pc = .ok (.getfield index, 3)) (kk : W p l e R s m args below meth c H locs cells slots Q (F0 m (pc + 3) ls (v :: rest))) : W p l e R s m args below meth c H locs cells slots Q (F0 m pc ls (.ref a :: rest)) :=
  sg_getf X hK hG ha (k := 10) (ci := 10) rfl (C := RX10) (T := TX10) (N := 4) rfl inL_X10 1 (by decide) (show 1 < 4 by decide) hl (fun _ h => h) hf hdg kk
theorem al_42a  {i : Int32} {a1 a2 w1 w2 : Int} (X : CallFix p m c cc nL s args sg_tbl own) (hK : va_K D vwCl tys s) (hG : sgG (KA a1 a2 w1 w2 P) D vwCl A tys ad ks H) (ha : isK ad ks 42 a) (hin : vp_in i 240) (hdg : decode cc pc = .ok (.iaload, 1)) (kk : ∀ x : Int32, okV ad ks ((sg_tp (sgT1 P) : Nat → sgT) i.toNatClampNeg) (.int x) → W p l e R s m args below meth c H locs cells slots Q (F0 m (pc + 1) ls (.int x :: rest))) : W p l e R s m args below meth c H locs cells slots Q (F0 m pc ls (.int i :: .ref a :: rest)) :=
  sg_iald X hK hG ha (k := 42) rfl hin hdg kk
set_option maxHeartbeats 8000000 in
set_option maxRecDepth 100000 in
theorem m_X10_sign_v (l : Launch) {D : va_G} {base : Nat} {tys : List (ClassId × FieldType)} {ad ks : List Nat} {P : sgPm}{a w1 w2 : Int}  {Hx : Heap} (a0 : Nat) (h0 : isK ad ks 10 a0) (hl0 : 0 ≤ sgL1 P ∧ sgL1 P ≤ 240) (hav : 0 ≤ a ∧ a ≤ sgL1 P) : sgPi l (KA a a w1 w2 P) D vwCl base tys ad ks Hx yX10_sign cX10_sign 1 (some .int) ({ frames := 0, cells := 0, slots := 0, locals := 0 }) [.ref a0] (fun r : Int32 => r.toInt = vC (sgT1 P) (sgL1 P) a) := by
  refine sg_ofP (Pq := fun Hx => va_Qi (fun r (_ : Unit) => (fun r : Int32 => r.toInt = vC (sgT1 P) (sgL1 P) a) r) (fun _ t => t.heap = Hx) (fun _ : Nat => False)) (by decide +kernel) (Nat.le_of_ble_eq_true rfl) (fun p e s m below meth c X hr hlk hb hK hC hG ls hl => ?_)
  have hS : va_S (fun _ : Nat => False) s.heap s.heap [] := va_S.rf
  have hl : lv_has ls 1 [(0, .ref a0)] := hl
  refine lv_aload_n X.1 X.2.1 dX10_sign_0 rfl (lv_at hl 0 rfl) ?_
  refine gf_X10_2a X hK hG h0 wl_1_44 dX10_sign_1 (fun f1 hf1 => ?_)
  have xf1 : f1.toInt = a := vq_iv hf1
  have yf1 : iv 0 240 f1 := ⟨by omega, by omega⟩
  refine lv_aload_n X.1 X.2.1 dX10_sign_4 rfl (lv_at hl 0 rfl) ?_
  refine gf_X10_1a X hK hG h0 wl_1_43 dX10_sign_5 (fun f2 hf2 pf2 kf2 => ?_)
  have xf2 : f2.toInt = sgL1 P := sgC240_eq pf2 (by omega) (by omega)
  refine lv_icmp_ge (tgt := 23) X.1 X.2.1 dX10_sign_8 (by decide) (fun c3 => ?_) (fun c3 => ?_)
  · have i4 : ¬ a < sgL1 P := vq_le c3 xf2 xf1
    refine lv_iconst (v := 0) X.1 X.2.1 dX10_sign_23 (by decide +kernel) ?_
    exact sg_iretP X hr hlk hS (by rw [vC_out (by omega)]; decide +kernel) dX10_sign_24
  · have i5 : a < sgL1 P := vq_lt (iv_gt_of c3) xf1 xf2
    refine lv_aload_n X.1 X.2.1 dX10_sign_11 rfl (lv_at hl 0 rfl) ?_
    refine gf_X10_0a X hK hG h0 wl_1_41 dX10_sign_12 (fun q6 hq6 kq6 => ?_)
    refine lv_aload_n X.1 X.2.1 dX10_sign_15 rfl (lv_at hl 0 rfl) ?_
    refine gf_X10_2a X hK hG h0 wl_1_44 dX10_sign_16 (fun f7 hf7 => ?_)
    have xf7 : f7.toInt = a := vq_iv hf7
    have yf7 : iv 0 240 f7 := ⟨by omega, by omega⟩
    have z8 : iv 0 239 f7 := ⟨by omega, by omega⟩
    refine al_42a X hK hG hq6 (iv_vpin z8 (by decide +kernel)) dX10_sign_19 (fun f9 hf9 => ?_)
    have of9 := hf9
    have hf9 : iv (-2147483648) 2147483647 f9 := iv_top f9
    have xf9 : f9.toInt = vC (sgT1 P) (sgL1 P) a := vq_tp (n := sgL1 P) of9 xf7 (by omega) (by omega)
    refine lv_goto (tgt := 24) X.1 X.2.1 dX10_sign_20 (by decide) ?_
    exact sg_iretP X hr hlk hS xf9 dX10_sign_24

theorem ca_X10_sign_v  {a w1 w2 : Int}  (X : CallFix p m c cc nL s args sg_tbl own) (hK : va_K D vwCl tys s) (hG : sgG (KA a a w1 w2 P) D vwCl (fun q : Nat => base ≤ q) tys ad ks H) (hC : sgC base s) (hA : ∀ q : Nat, A q → base ≤ q) (hS : va_S A s.heap H locs) (hb : base ≤ s.heap.size) (a0 : Nat) (h0 : isK ad ks 10 a0) (hl0 : 0 ≤ sgL1 P ∧ sgL1 P ≤ 240) (hav : 0 ≤ a ∧ a ≤ sgL1 P) (hl : Cond.methodLink own index yX10_sign ∈ sg_tbl) (hsize : ls.size = nL) (hst : st0 = [].reverse ++ .ref a0 :: rest) (hW : (rest.map fun v => v.category).sum ≤ 8) (hR : 1 ≤ R.frames ∧ 20 ≤ R.locals) (hf : cells ≤ R.cells ∧ slots ≤ R.slots) (hdg : decode cc pc = .ok (.invokevirtual index, 3)) (kk : ∀ (r : Int32) (locs1 : List Loc), (fun r : Int32 => r.toInt = vC (sgT1 P) (sgL1 P) a) r → va_S A s.heap H locs1 → W p l e R s m args below meth c H locs1 cells slots Q (F0 m (pc + 3) ls (.int r :: rest))) : W p l e R s m args below meth c H locs cells slots Q (F0 m pc ls st0) :=
  sg_callPVi X hK hG hC hA hS hb (m_X10_sign_v l a0 h0 hl0 hav) h0 (k := 10) (ci := 10) rfl (C := RX10) (T := TX10) (N := 4) rfl wl_3_50 wl_1_2 wl_3_48 wl_3_49 (n := 0) (by decide +kernel) rfl rfl rfl hl hsize hst hW hR hf hdg kk

set_option maxHeartbeats 8000000 in
set_option maxRecDepth 100000 in
theorem m_X10_rewind_v (l : Launch) {D : va_G} {base : Nat} {tys : List (ClassId × FieldType)} {ad ks : List Nat} {P : sgPm} (a0 : Nat) (h0 : isK ad ks 10 a0) (hl0 : 0 ≤ sgL1 P ∧ sgL1 P ≤ 240) : Met l yX10_rewind (Cond.code yX10_rewind cX10_rewind 1 none :: sg_tbl) ({ frames := 0, cells := 0, slots := 0, locals := 0 }) (va_Pc [.ref a0] (sgB (KT P) D vwCl base tys ad ks)) (va_Qv (fun (_ : Unit) => True) (fun _ => fun t => sgB (KA (vX (sgT1 P) (sgL1 P) 0) (vX (sgT1 P) (sgL1 P) 0) (-1) (-1) P) D vwCl base tys ad ks t) (fun q : Nat => base ≤ q)) 0 0 (fun q : Nat => base ≤ q) := by
  refine sg_ofW (by decide +kernel) (Nat.le_of_ble_eq_true rfl) (fun p e s m below meth c X hr hlk hb hK hC hG ls hl => ?_)
  have hS : va_S (fun q : Nat => base ≤ q) s.heap s.heap [] := va_S.rf
  have hl : lv_has ls 1 [(0, .ref a0)] := hl
  have hG := ka_of hG
  refine lv_aload_n X.1 X.2.1 dX10_rewind_0 rfl (lv_at hl 0 rfl) ?_
  refine lv_iconst (v := (-1)) X.1 X.2.1 dX10_rewind_1 (by decide +kernel) ?_
  refine pf_X10_3A (b1 := ((-1))) (b2 := ((-1))) X hK hG hS h0 wl_1_45 (vq_of (lo := ((-1))) (hi := ((-1))) (by decide +kernel) ⟨Int.le_refl _, Int.le_refl _⟩) dX10_rewind_2 (fun H locs hG hS => ?_)
  refine lv_aload_n X.1 X.2.1 dX10_rewind_5 rfl (lv_at hl 0 rfl) ?_
  refine lv_iconst (v := 0) X.1 X.2.1 dX10_rewind_6 (by decide +kernel) ?_
  refine pf_X10_2A (b1 := (0)) (b2 := (0)) X hK hG hS h0 wl_1_44 (vq_of (lo := (0)) (hi := (0)) (by decide +kernel) ⟨Int.le_refl _, Int.le_refl _⟩) dX10_rewind_7 (fun H locs hG hS => ?_)
  have B1_10 : ∀ (N : Nat) (H : Heap) (locs : List Loc) (ls : Array Slot) (a1 : Int), 0 ≤ a1 → a1 ≤ sgL1 P → sgG (KA a1 a1 ((-1)) ((-1)) P) D vwCl (fun q : Nat => base ≤ q) tys ad ks H → va_S (fun q : Nat => base ≤ q) s.heap H locs → lv_has ls 1 [(0, .ref a0)] → vX (sgT1 P) (sgL1 P) 0 = vX (sgT1 P) (sgL1 P) a1 → (242 - a1).toNat ≤ N → W p l e (headSpec (Cond.code yX10_rewind cX10_rewind 1 none :: sg_tbl) ({ frames := 0, cells := 0, slots := 0, locals := 0 })).room s m #[.ref a0] below meth c H locs 0 0 (MQ below (va_Qv (fun (_ : Unit) => True) (fun _ => fun t => sgB (KA (vX (sgT1 P) (sgL1 P) 0) (vX (sgT1 P) (sgL1 P) 0) (-1) (-1) P) D vwCl base tys ad ks t) (fun q : Nat => base ≤ q)) #[.ref a0] s 0 0 (fun q : Nat => base ≤ q)) (F0 m 10 ls []) := by
    intro N; induction N with
    | zero =>
      intro H locs ls a1 jl1 jm1 hG hS hl xf1 hN
      exact absurd hN (by have := jm1; omega)
    | succ N ih1 =>
      intro H locs ls a1 jl1 jm1 hG hS hl xf1 hN1
      refine lv_aload_n X.1 X.2.1 dX10_rewind_10 rfl (lv_at hl 0 rfl) ?_
      refine gf_X10_2a X hK hG h0 wl_1_44 dX10_rewind_11 (fun f2 hf2 => ?_)
      have xf2 : f2.toInt = a1 := vq_iv hf2
      have yf2 : iv 0 240 f2 := ⟨by omega, by omega⟩
      refine lv_aload_n X.1 X.2.1 dX10_rewind_14 rfl (lv_at hl 0 rfl) ?_
      refine gf_X10_1a X hK hG h0 wl_1_43 dX10_rewind_15 (fun f3 hf3 pf3 kf3 => ?_)
      have xf3 : f3.toInt = sgL1 P := sgC240_eq pf3 (by omega) (by omega)
      refine lv_icmp_ge (tgt := 48) X.1 X.2.1 dX10_rewind_18 (by decide) (fun c4 => ?_) (fun c4 => ?_)
      · have i5 : ¬ a1 < sgL1 P := vq_le c4 xf3 xf2
        have hz : vX (sgT1 P) (sgL1 P) 0 = a1 := xf1.trans (vX_at (by first | (rw [vC_out (by omega)]; decide) | omega))
        rw [← hz] at hG
        exact sg_vret2 X hr hlk hS (fun t ht hW => sg_post hb hK hC hG hS ht hW) dX10_rewind_48
      · have i6 : a1 < sgL1 P := vq_lt (iv_gt_of c4) xf2 xf3
        refine lv_aload_n X.1 X.2.1 dX10_rewind_21 rfl (lv_at hl 0 rfl) ?_
        refine gf_X10_0a X hK hG h0 wl_1_41 dX10_rewind_22 (fun q7 hq7 kq7 => ?_)
        refine lv_aload_n X.1 X.2.1 dX10_rewind_25 rfl (lv_at hl 0 rfl) ?_
        refine gf_X10_2a X hK hG h0 wl_1_44 dX10_rewind_26 (fun f8 hf8 => ?_)
        have xf8 : f8.toInt = a1 := vq_iv hf8
        have yf8 : iv 0 240 f8 := ⟨by omega, by omega⟩
        have z9 : iv 0 239 f8 := ⟨by omega, by omega⟩
        refine al_42a X hK hG hq7 (iv_vpin z9 (by decide +kernel)) dX10_rewind_29 (fun f10 hf10 => ?_)
        have of10 := hf10
        have hf10 : iv (-2147483648) 2147483647 f10 := iv_top f10
        have xf10 : f10.toInt = vC (sgT1 P) (sgL1 P) a1 := vq_tp (n := sgL1 P) of10 xf8 (by omega) (by omega)
        refine lv_bipush (v := 32) X.1 X.2.1 dX10_rewind_30 (by decide +kernel) ?_
        refine lv_icmp_ne (tgt := 48) X.1 X.2.1 dX10_rewind_32 (by decide) (fun c11 => ?_) (fun c11 => ?_)
        · have i12 : ¬ vC (sgT1 P) (sgL1 P) a1 = 32 := vq_ne c11 xf10 (by decide +kernel)
          have hz : vX (sgT1 P) (sgL1 P) 0 = a1 := xf1.trans (vX_at (by first | (rw [vC_out (by omega)]; decide) | omega))
          rw [← hz] at hG
          exact sg_vret2 X hr hlk hS (fun t ht hW => sg_post hb hK hC hG hS ht hW) dX10_rewind_48
        · have i13 : vC (sgT1 P) (sgL1 P) a1 = 32 := vq_eq c11 xf10 (by decide +kernel)
          refine lv_aload_n X.1 X.2.1 dX10_rewind_35 rfl (lv_at hl 0 rfl) ?_
          refine lv_dup X.1 X.2.1 dX10_rewind_36 rfl ?_
          refine gf_X10_2a X hK hG h0 wl_1_44 dX10_rewind_37 (fun f14 hf14 => ?_)
          have xf14 : f14.toInt = a1 := vq_iv hf14
          have yf14 : iv 0 240 f14 := ⟨by omega, by omega⟩
          refine lv_iconst (v := 1) X.1 X.2.1 dX10_rewind_40 (by decide +kernel) ?_
          refine lv_iadd X.1 X.2.1 dX10_rewind_41 ?_
          refine lv_topi (fun f15 ef15 => ?_)
          have xf15 : f15.toInt = (a1 + 1) := sg_exadd ef15 yf14 (iv_c 1 (a := 1) (b := 1) (by decide +kernel)) (by decide +kernel) xf14 (by decide +kernel)
          refine pf_X10_2A (b1 := ((a1 + 1))) (b2 := ((a1 + 1))) X hK hG hS h0 wl_1_44 (vq_of (lo := ((a1 + 1))) (hi := ((a1 + 1))) xf15 ⟨Int.le_refl _, Int.le_refl _⟩) dX10_rewind_42 (fun H locs hG hS => ?_)
          refine lv_goto (tgt := 10) X.1 X.2.1 dX10_rewind_45 (by decide) ?_
          exact ih1 H _ _ (((a1 + 1))) (by omega) (by omega) hG hS (lv_sub hl [0] rfl) (xf1.trans (vX_on (by omega))) (by omega)
  exact B1_10 _ H _ _ ((0)) (by omega) (by omega) hG hS (lv_sub hl [0] rfl) rfl (Nat.le_refl _)

theorem ca_X10_rewind_v   (X : CallFix p m c cc nL s args sg_tbl own) (hK : va_K D vwCl tys s) (hG : sgG (KT P) D vwCl (fun q : Nat => base ≤ q) tys ad ks H) (hC : sgC base s) (hS : va_S (fun q : Nat => base ≤ q) s.heap H locs) (hb : base ≤ s.heap.size) (a0 : Nat) (h0 : isK ad ks 10 a0) (hl0 : 0 ≤ sgL1 P ∧ sgL1 P ≤ 240) (hl : Cond.methodLink own index yX10_rewind ∈ sg_tbl) (hsize : ls.size = nL) (hst : st0 = [].reverse ++ .ref a0 :: rest) (hW : (rest.map fun v => v.category).sum ≤ 8) (hR : 1 ≤ R.frames ∧ 20 ≤ R.locals) (hf : cells ≤ R.cells ∧ slots ≤ R.slots) (hdg : decode cc pc = .ok (.invokevirtual index, 3)) (kk : ∀ (t : State) (H1 : Heap) (locs1 : List Loc), t.heap = H1 → ((fun t => sgB (KA (vX (sgT1 P) (sgL1 P) 0) (vX (sgT1 P) (sgL1 P) 0) (-1) (-1) P) D vwCl base tys ad ks t) t) → va_S (fun q : Nat => base ≤ q) s.heap H1 locs1 → W p l e R s m args below meth c H1 locs1 cells slots Q (F0 m (pc + 3) ls rest)) : W p l e R s m args below meth c H locs cells slots Q (F0 m pc ls st0) :=
  sg_callV2v X hK hG hC hS hb (m_X10_rewind_v l a0 h0 hl0) h0 (k := 10) (ci := 10) rfl (C := RX10) (T := TX10) (N := 4) rfl wl_3_33 wl_1_2 wl_3_31 wl_3_32 (n := 0) (by decide +kernel) rfl rfl rfl hl hsize hst hW hR hf hdg kk

set_option maxHeartbeats 8000000 in
set_option maxRecDepth 100000 in
theorem m_X10_step_v (l : Launch) {D : va_G} {base : Nat} {tys : List (ClassId × FieldType)} {ad ks : List Nat} {P : sgPm}{a w1 w2 : Int}  (a0 : Nat) (h0 : isK ad ks 10 a0) (hl0 : 0 ≤ sgL1 P ∧ sgL1 P ≤ 240) (hsv : 0 ≤ a ∧ a < sgL1 P) : Met l yX10_step (Cond.code yX10_step cX10_step 1 none :: sg_tbl) ({ frames := 1, cells := 0, slots := 0, locals := 14 }) (va_Pc [.ref a0] (sgB (KA a a w1 w2 P) D vwCl base tys ad ks)) (va_Qv (fun (_ : Unit) => True) (fun _ => fun t => sgB (KA (vX (sgT1 P) (sgL1 P) (a + 1)) (vX (sgT1 P) (sgL1 P) (a + 1)) w1 w2 P) D vwCl base tys ad ks t) (fun q : Nat => base ≤ q)) 0 0 (fun q : Nat => base ≤ q) := by
  refine sg_ofW (by decide +kernel) (Nat.le_of_ble_eq_true rfl) (fun p e s m below meth c X hr hlk hb hK hC hG ls hl => ?_)
  have hS : va_S (fun q : Nat => base ≤ q) s.heap s.heap [] := va_S.rf
  have hl : lv_has ls 1 [(0, .ref a0)] := hl
  refine lv_aload_n X.1 X.2.1 dX10_step_0 rfl (lv_at hl 0 rfl) ?_
  refine lv_dup X.1 X.2.1 dX10_step_1 rfl ?_
  refine gf_X10_2a X hK hG h0 wl_1_44 dX10_step_2 (fun f1 hf1 => ?_)
  have xf1 : f1.toInt = a := vq_iv hf1
  have yf1 : iv 0 240 f1 := ⟨by omega, by omega⟩
  refine lv_iconst (v := 1) X.1 X.2.1 dX10_step_5 (by decide +kernel) ?_
  refine lv_iadd X.1 X.2.1 dX10_step_6 ?_
  refine lv_topi (fun f2 ef2 => ?_)
  have xf2 : f2.toInt = (a + 1) := sg_exadd ef2 yf1 (iv_c 1 (a := 1) (b := 1) (by decide +kernel)) (by decide +kernel) xf1 (by decide +kernel)
  refine pf_X10_2A (b1 := ((a + 1))) (b2 := ((a + 1))) X hK hG hS h0 wl_1_44 (vq_of (lo := ((a + 1))) (hi := ((a + 1))) xf2 ⟨Int.le_refl _, Int.le_refl _⟩) dX10_step_7 (fun H locs hG hS => ?_)
  have B3_10 : ∀ (N : Nat) (H : Heap) (locs : List Loc) (ls : Array Slot) (a3 : Int), 0 ≤ a3 → a3 ≤ sgL1 P → sgG (KA a3 a3 w1 w2 P) D vwCl (fun q : Nat => base ≤ q) tys ad ks H → va_S (fun q : Nat => base ≤ q) s.heap H locs → lv_has ls 1 [(0, .ref a0)] → vX (sgT1 P) (sgL1 P) (a + 1) = vX (sgT1 P) (sgL1 P) a3 → (242 - a3).toNat ≤ N → W p l e (headSpec (Cond.code yX10_step cX10_step 1 none :: sg_tbl) ({ frames := 1, cells := 0, slots := 0, locals := 14 })).room s m #[.ref a0] below meth c H locs 0 0 (MQ below (va_Qv (fun (_ : Unit) => True) (fun _ => fun t => sgB (KA (vX (sgT1 P) (sgL1 P) (a + 1)) (vX (sgT1 P) (sgL1 P) (a + 1)) w1 w2 P) D vwCl base tys ad ks t) (fun q : Nat => base ≤ q)) #[.ref a0] s 0 0 (fun q : Nat => base ≤ q)) (F0 m 10 ls []) := by
    intro N; induction N with
    | zero =>
      intro H locs ls a3 jl3 jm3 hG hS hl xf3 hN
      exact absurd hN (by have := jm3; omega)
    | succ N ih3 =>
      intro H locs ls a3 jl3 jm3 hG hS hl xf3 hN3
      refine lv_aload_n X.1 X.2.1 dX10_step_10 rfl (lv_at hl 0 rfl) ?_
      refine gf_X10_2a X hK hG h0 wl_1_44 dX10_step_11 (fun f4 hf4 => ?_)
      have xf4 : f4.toInt = a3 := vq_iv hf4
      have yf4 : iv 0 240 f4 := ⟨by omega, by omega⟩
      refine lv_aload_n X.1 X.2.1 dX10_step_14 rfl (lv_at hl 0 rfl) ?_
      refine gf_X10_1a X hK hG h0 wl_1_43 dX10_step_15 (fun f5 hf5 pf5 kf5 => ?_)
      have xf5 : f5.toInt = sgL1 P := sgC240_eq pf5 (by omega) (by omega)
      refine lv_icmp_ge (tgt := 48) X.1 X.2.1 dX10_step_18 (by decide) (fun c6 => ?_) (fun c6 => ?_)
      · have i7 : ¬ a3 < sgL1 P := vq_le c6 xf5 xf4
        refine lv_aload_n X.1 X.2.1 dX10_step_48 rfl (lv_at hl 0 rfl) ?_
        refine lv_aload_n X.1 X.2.1 dX10_step_49 rfl (lv_at hl 0 rfl) ?_
        refine gf_X10_2a X hK hG h0 wl_1_44 dX10_step_50 (fun f9 hf9 => ?_)
        have xf9 : f9.toInt = a3 := vq_iv hf9
        have yf9 : iv 0 240 f9 := ⟨by omega, by omega⟩
        refine lv_aload_n X.1 X.2.1 dX10_step_53 rfl (lv_at hl 0 rfl) ?_
        refine gg_X10_1a X hK hG h0 wl_1_43 kf5 dX10_step_54 ?_
        refine va_mmin X.1 X.2.1 (X.2.2.1.trans hl.1.symm) X.2.2.2.1 (X.2.2.2.2 _ wl_3_63) (X.2.2.2.2 _ wl_3_64) (X.2.2.2.2 _ wl_1_15) (X.2.2.2.2 _ wl_3_65) (Nat.le_of_ble_eq_true rfl) (Nat.le_of_ble_eq_true rfl) (Nat.le_of_ble_eq_true rfl) (Nat.le_of_ble_eq_true rfl) dX10_step_57 ?_
        refine lv_topi (fun f10 ef10 => ?_)
        have x60 : f10.toInt = a3 := by rw [ef10, if_neg (fun q => by have := Int32.lt_iff_toInt_lt.mp q; omega)]; omega
        refine pf_X10_2A (b1 := (a3)) (b2 := (a3)) X hK hG hS h0 wl_1_44 (vq_of (lo := (a3)) (hi := (a3)) x60 ⟨Int.le_refl _, Int.le_refl _⟩) dX10_step_60 (fun H locs hG hS => ?_)
        have hz : vX (sgT1 P) (sgL1 P) (a + 1) = (a3) := xf3.trans (vX_at (by first | (rw [vC_out (by omega)]; decide) | omega))
        rw [← hz] at hG
        exact sg_vret2 X hr hlk hS (fun t ht hW => sg_post hb hK hC hG hS ht hW) dX10_step_63
      · have i8 : a3 < sgL1 P := vq_lt (iv_gt_of c6) xf4 xf5
        refine lv_aload_n X.1 X.2.1 dX10_step_21 rfl (lv_at hl 0 rfl) ?_
        refine gf_X10_0a X hK hG h0 wl_1_41 dX10_step_22 (fun q11 hq11 kq11 => ?_)
        refine lv_aload_n X.1 X.2.1 dX10_step_25 rfl (lv_at hl 0 rfl) ?_
        refine gf_X10_2a X hK hG h0 wl_1_44 dX10_step_26 (fun f12 hf12 => ?_)
        have xf12 : f12.toInt = a3 := vq_iv hf12
        have yf12 : iv 0 240 f12 := ⟨by omega, by omega⟩
        have z13 : iv 0 239 f12 := ⟨by omega, by omega⟩
        refine al_42a X hK hG hq11 (iv_vpin z13 (by decide +kernel)) dX10_step_29 (fun f14 hf14 => ?_)
        have of14 := hf14
        have hf14 : iv (-2147483648) 2147483647 f14 := iv_top f14
        have xf14 : f14.toInt = vC (sgT1 P) (sgL1 P) a3 := vq_tp (n := sgL1 P) of14 xf12 (by omega) (by omega)
        refine lv_bipush (v := 32) X.1 X.2.1 dX10_step_30 (by decide +kernel) ?_
        refine lv_icmp_ne (tgt := 48) X.1 X.2.1 dX10_step_32 (by decide) (fun c15 => ?_) (fun c15 => ?_)
        · have i16 : ¬ vC (sgT1 P) (sgL1 P) a3 = 32 := vq_ne c15 xf14 (by decide +kernel)
          refine lv_aload_n X.1 X.2.1 dX10_step_48 rfl (lv_at hl 0 rfl) ?_
          refine lv_aload_n X.1 X.2.1 dX10_step_49 rfl (lv_at hl 0 rfl) ?_
          refine gf_X10_2a X hK hG h0 wl_1_44 dX10_step_50 (fun f18 hf18 => ?_)
          have xf18 : f18.toInt = a3 := vq_iv hf18
          have yf18 : iv 0 240 f18 := ⟨by omega, by omega⟩
          refine lv_aload_n X.1 X.2.1 dX10_step_53 rfl (lv_at hl 0 rfl) ?_
          refine gg_X10_1a X hK hG h0 wl_1_43 kf5 dX10_step_54 ?_
          refine va_mmin X.1 X.2.1 (X.2.2.1.trans hl.1.symm) X.2.2.2.1 (X.2.2.2.2 _ wl_3_63) (X.2.2.2.2 _ wl_3_64) (X.2.2.2.2 _ wl_1_15) (X.2.2.2.2 _ wl_3_65) (Nat.le_of_ble_eq_true rfl) (Nat.le_of_ble_eq_true rfl) (Nat.le_of_ble_eq_true rfl) (Nat.le_of_ble_eq_true rfl) dX10_step_57 ?_
          refine lv_topi (fun f19 ef19 => ?_)
          have x60 : f19.toInt = a3 := by rw [ef19, if_neg (fun q => by have := Int32.lt_iff_toInt_lt.mp q; omega)]; omega
          refine pf_X10_2A (b1 := (a3)) (b2 := (a3)) X hK hG hS h0 wl_1_44 (vq_of (lo := (a3)) (hi := (a3)) x60 ⟨Int.le_refl _, Int.le_refl _⟩) dX10_step_60 (fun H locs hG hS => ?_)
          have hz : vX (sgT1 P) (sgL1 P) (a + 1) = (a3) := xf3.trans (vX_at (by first | (rw [vC_out (by omega)]; decide) | omega))
          rw [← hz] at hG
          exact sg_vret2 X hr hlk hS (fun t ht hW => sg_post hb hK hC hG hS ht hW) dX10_step_63
        · have i17 : vC (sgT1 P) (sgL1 P) a3 = 32 := vq_eq c15 xf14 (by decide +kernel)
          refine lv_aload_n X.1 X.2.1 dX10_step_35 rfl (lv_at hl 0 rfl) ?_
          refine lv_dup X.1 X.2.1 dX10_step_36 rfl ?_
          refine gf_X10_2a X hK hG h0 wl_1_44 dX10_step_37 (fun f20 hf20 => ?_)
          have xf20 : f20.toInt = a3 := vq_iv hf20
          have yf20 : iv 0 240 f20 := ⟨by omega, by omega⟩
          refine lv_iconst (v := 1) X.1 X.2.1 dX10_step_40 (by decide +kernel) ?_
          refine lv_iadd X.1 X.2.1 dX10_step_41 ?_
          refine lv_topi (fun f21 ef21 => ?_)
          have xf21 : f21.toInt = (a3 + 1) := sg_exadd ef21 yf20 (iv_c 1 (a := 1) (b := 1) (by decide +kernel)) (by decide +kernel) xf20 (by decide +kernel)
          refine pf_X10_2A (b1 := ((a3 + 1))) (b2 := ((a3 + 1))) X hK hG hS h0 wl_1_44 (vq_of (lo := ((a3 + 1))) (hi := ((a3 + 1))) xf21 ⟨Int.le_refl _, Int.le_refl _⟩) dX10_step_42 (fun H locs hG hS => ?_)
          refine lv_goto (tgt := 10) X.1 X.2.1 dX10_step_45 (by decide) ?_
          exact ih3 H _ _ (((a3 + 1))) (by omega) (by omega) hG hS (lv_sub hl [0] rfl) (xf3.trans (vX_on (by omega))) (by omega)
  exact B3_10 _ H _ _ (((a + 1))) (by omega) (by omega) hG hS (lv_sub hl [0] rfl) rfl (Nat.le_refl _)

theorem ca_X10_step_v  {a w1 w2 : Int}  (X : CallFix p m c cc nL s args sg_tbl own) (hK : va_K D vwCl tys s) (hG : sgG (KA a a w1 w2 P) D vwCl (fun q : Nat => base ≤ q) tys ad ks H) (hC : sgC base s) (hS : va_S (fun q : Nat => base ≤ q) s.heap H locs) (hb : base ≤ s.heap.size) (a0 : Nat) (h0 : isK ad ks 10 a0) (hl0 : 0 ≤ sgL1 P ∧ sgL1 P ≤ 240) (hsv : 0 ≤ a ∧ a < sgL1 P) (hl : Cond.methodLink own index yX10_step ∈ sg_tbl) (hsize : ls.size = nL) (hst : st0 = [].reverse ++ .ref a0 :: rest) (hW : (rest.map fun v => v.category).sum ≤ 8) (hR : 2 ≤ R.frames ∧ 34 ≤ R.locals) (hf : cells ≤ R.cells ∧ slots ≤ R.slots) (hdg : decode cc pc = .ok (.invokevirtual index, 3)) (kk : ∀ (t : State) (H1 : Heap) (locs1 : List Loc), t.heap = H1 → ((fun t => sgB (KA (vX (sgT1 P) (sgL1 P) (a + 1)) (vX (sgT1 P) (sgL1 P) (a + 1)) w1 w2 P) D vwCl base tys ad ks t) t) → va_S (fun q : Nat => base ≤ q) s.heap H1 locs1 → W p l e R s m args below meth c H1 locs1 cells slots Q (F0 m (pc + 3) ls rest)) : W p l e R s m args below meth c H locs cells slots Q (F0 m pc ls st0) :=
  sg_callV2v X hK hG hC hS hb (m_X10_step_v l a0 h0 hl0 hsv) h0 (k := 10) (ci := 10) rfl (C := RX10) (T := TX10) (N := 4) rfl wl_3_62 wl_1_2 wl_3_60 wl_3_61 (n := 0) (by decide +kernel) rfl rfl rfl hl hsize hst hW hR hf hdg kk

set_option maxHeartbeats 8000000 in
set_option maxRecDepth 100000 in
theorem m_X10_wrong_v (l : Launch) {D : va_G} {base : Nat} {tys : List (ClassId × FieldType)} {ad ks : List Nat} {P : sgPm}{a w1 w2 : Int}  (a0 : Nat) (h0 : isK ad ks 10 a0) (hl0 : 0 ≤ sgL1 P ∧ sgL1 P ≤ 240) (hav : 0 ≤ a ∧ a ≤ sgL1 P) : Met l yX10_wrong (Cond.code yX10_wrong cX10_wrong 1 (some .boolean) :: sg_tbl) ({ frames := 0, cells := 0, slots := 0, locals := 0 }) (va_Pc [.ref a0] (sgB (KA a a w1 w2 P) D vwCl base tys ad ks)) (va_Qi (fun r (u : Int32) => u = r ∧ (fun r : Int32 => iv 0 0 r) r) (fun u t => sgB (KA a a a a P) D vwCl base tys ad ks t) (fun q : Nat => base ≤ q)) 0 0 (fun q : Nat => base ≤ q) := by
  refine sg_ofW (by decide +kernel) (Nat.le_of_ble_eq_true rfl) (fun p e s m below meth c X hr hlk hb hK hC hG ls hl => ?_)
  have hS : va_S (fun q : Nat => base ≤ q) s.heap s.heap [] := va_S.rf
  have hl : lv_has ls 1 [(0, .ref a0)] := hl
  refine lv_aload_n X.1 X.2.1 dX10_wrong_0 rfl (lv_at hl 0 rfl) ?_
  refine lv_aload_n X.1 X.2.1 dX10_wrong_1 rfl (lv_at hl 0 rfl) ?_
  refine gf_X10_2a X hK hG h0 wl_1_44 dX10_wrong_2 (fun f1 hf1 => ?_)
  have xf1 : f1.toInt = a := vq_iv hf1
  have yf1 : iv 0 240 f1 := ⟨by omega, by omega⟩
  refine pf_X10_3A (b1 := (a)) (b2 := (a)) X hK hG hS h0 wl_1_45 (vq_of (lo := (a)) (hi := (a)) xf1 ⟨Int.le_refl _, Int.le_refl _⟩) dX10_wrong_5 (fun H locs hG hS => ?_)
  refine lv_iconst (v := 0) X.1 X.2.1 dX10_wrong_8 (by decide +kernel) ?_
  exact sg_zret2 X hr (sg_zn (iv_of (iv_c 0 (a := 0) (b := 0) (by decide +kernel)) (a' := 0) (b' := 1) (by decide +kernel))) hlk hS (iv_c 0 (a := 0) (b := 0) (by decide +kernel)) (fun t ht hW => sg_post hb hK hC hG hS ht hW) dX10_wrong_9

theorem ca_X10_wrong_v  {a w1 w2 : Int}  (X : CallFix p m c cc nL s args sg_tbl own) (hK : va_K D vwCl tys s) (hG : sgG (KA a a w1 w2 P) D vwCl (fun q : Nat => base ≤ q) tys ad ks H) (hC : sgC base s) (hS : va_S (fun q : Nat => base ≤ q) s.heap H locs) (hb : base ≤ s.heap.size) (a0 : Nat) (h0 : isK ad ks 10 a0) (hl0 : 0 ≤ sgL1 P ∧ sgL1 P ≤ 240) (hav : 0 ≤ a ∧ a ≤ sgL1 P) (hl : Cond.methodLink own index yX10_wrong ∈ sg_tbl) (hsize : ls.size = nL) (hst : st0 = [].reverse ++ .ref a0 :: rest) (hW : (rest.map fun v => v.category).sum ≤ 8) (hR : 1 ≤ R.frames ∧ 20 ≤ R.locals) (hf : cells ≤ R.cells ∧ slots ≤ R.slots) (hdg : decode cc pc = .ok (.invokevirtual index, 3)) (kk : ∀ (r : Int32) (t : State) (H1 : Heap) (locs1 : List Loc), t.heap = H1 → (fun r : Int32 => iv 0 0 r) r → (sgB (KA a a a a P) D vwCl base tys ad ks t) → va_S (fun q : Nat => base ≤ q) s.heap H1 locs1 → W p l e R s m args below meth c H1 locs1 cells slots Q (F0 m (pc + 3) ls (.int r :: rest))) : W p l e R s m args below meth c H locs cells slots Q (F0 m pc ls st0) :=
  sg_callV2i X hK hG hC hS hb (m_X10_wrong_v l a0 h0 hl0 hav) h0 (k := 10) (ci := 10) rfl (C := RX10) (T := TX10) (N := 4) rfl wl_3_58 wl_1_2 wl_3_56 wl_3_57 (n := 0) (by decide +kernel) rfl rfl rfl hl hsize hst hW hR hf hdg kk

set_option maxHeartbeats 8000000 in
set_option maxRecDepth 100000 in
theorem m_X10_wrongAsWhole_v (l : Launch) {D : va_G} {base : Nat} {tys : List (ClassId × FieldType)} {ad ks : List Nat} {P : sgPm}{a w1 w2 : Int}  (a0 : Nat) (h0 : isK ad ks 10 a0) (hl0 : 0 ≤ sgL1 P ∧ sgL1 P ≤ 240) (hav : 0 ≤ a ∧ a ≤ sgL1 P) : Met l yX10_wrongAsWhole (Cond.code yX10_wrongAsWhole cX10_wrongAsWhole 1 (some .boolean) :: sg_tbl) ({ frames := 0, cells := 0, slots := 0, locals := 0 }) (va_Pc [.ref a0] (sgB (KA a a w1 w2 P) D vwCl base tys ad ks)) (va_Qi (fun r (u : Int32) => u = r ∧ (fun r : Int32 => iv 0 0 r) r) (fun u t => sgB (KA a a (sgL1 P) (sgL1 P) P) D vwCl base tys ad ks t) (fun q : Nat => base ≤ q)) 0 0 (fun q : Nat => base ≤ q) := by
  refine sg_ofW (by decide +kernel) (Nat.le_of_ble_eq_true rfl) (fun p e s m below meth c X hr hlk hb hK hC hG ls hl => ?_)
  have hS : va_S (fun q : Nat => base ≤ q) s.heap s.heap [] := va_S.rf
  have hl : lv_has ls 1 [(0, .ref a0)] := hl
  refine lv_aload_n X.1 X.2.1 dX10_wrongAsWhole_0 rfl (lv_at hl 0 rfl) ?_
  refine lv_aload_n X.1 X.2.1 dX10_wrongAsWhole_1 rfl (lv_at hl 0 rfl) ?_
  refine gf_X10_1a X hK hG h0 wl_1_43 dX10_wrongAsWhole_2 (fun f1 hf1 pf1 kf1 => ?_)
  have xf1 : f1.toInt = sgL1 P := sgC240_eq pf1 (by omega) (by omega)
  refine pf_X10_3A (b1 := (sgL1 P)) (b2 := (sgL1 P)) X hK hG hS h0 wl_1_45 (vq_of (lo := (sgL1 P)) (hi := (sgL1 P)) xf1 ⟨Int.le_refl _, Int.le_refl _⟩) dX10_wrongAsWhole_5 (fun H locs hG hS => ?_)
  refine lv_iconst (v := 0) X.1 X.2.1 dX10_wrongAsWhole_8 (by decide +kernel) ?_
  exact sg_zret2 X hr (sg_zn (iv_of (iv_c 0 (a := 0) (b := 0) (by decide +kernel)) (a' := 0) (b' := 1) (by decide +kernel))) hlk hS (iv_c 0 (a := 0) (b := 0) (by decide +kernel)) (fun t ht hW => sg_post hb hK hC hG hS ht hW) dX10_wrongAsWhole_9

theorem ca_X10_wrongAsWhole_v  {a w1 w2 : Int}  (X : CallFix p m c cc nL s args sg_tbl own) (hK : va_K D vwCl tys s) (hG : sgG (KA a a w1 w2 P) D vwCl (fun q : Nat => base ≤ q) tys ad ks H) (hC : sgC base s) (hS : va_S (fun q : Nat => base ≤ q) s.heap H locs) (hb : base ≤ s.heap.size) (a0 : Nat) (h0 : isK ad ks 10 a0) (hl0 : 0 ≤ sgL1 P ∧ sgL1 P ≤ 240) (hav : 0 ≤ a ∧ a ≤ sgL1 P) (hl : Cond.methodLink own index yX10_wrongAsWhole ∈ sg_tbl) (hsize : ls.size = nL) (hst : st0 = [].reverse ++ .ref a0 :: rest) (hW : (rest.map fun v => v.category).sum ≤ 8) (hR : 1 ≤ R.frames ∧ 20 ≤ R.locals) (hf : cells ≤ R.cells ∧ slots ≤ R.slots) (hdg : decode cc pc = .ok (.invokevirtual index, 3)) (kk : ∀ (r : Int32) (t : State) (H1 : Heap) (locs1 : List Loc), t.heap = H1 → (fun r : Int32 => iv 0 0 r) r → (sgB (KA a a (sgL1 P) (sgL1 P) P) D vwCl base tys ad ks t) → va_S (fun q : Nat => base ≤ q) s.heap H1 locs1 → W p l e R s m args below meth c H1 locs1 cells slots Q (F0 m (pc + 3) ls (.int r :: rest))) : W p l e R s m args below meth c H locs cells slots Q (F0 m pc ls st0) :=
  sg_callV2i X hK hG hC hS hb (m_X10_wrongAsWhole_v l a0 h0 hl0 hav) h0 (k := 10) (ci := 10) rfl (C := RX10) (T := TX10) (N := 4) rfl wl_3_204 wl_1_2 wl_3_202 wl_3_203 (n := 0) (by decide +kernel) rfl rfl rfl hl hsize hst hW hR hf hdg kk

set_option maxHeartbeats 8000000 in
set_option maxRecDepth 100000 in
theorem m_X10_demand_v (l : Launch) {D : va_G} {base : Nat} {tys : List (ClassId × FieldType)} {ad ks : List Nat} {P : sgPm}{a w1 w2 cw : Int}  (a0 : Nat) (h0 : isK ad ks 10 a0) (x1 : Int32) (hl0 : 0 ≤ sgL1 P ∧ sgL1 P ≤ 240) (hav : 0 ≤ a ∧ a ≤ sgL1 P) (hx1 : x1.toInt = cw ∧ cw ≠ 0) : Met l yX10_demand (Cond.code yX10_demand cX10_demand 2 (some .boolean) :: sg_tbl) ({ frames := 2, cells := 0, slots := 0, locals := 34 }) (va_Pc [.ref a0, .int x1] (sgB (KA a a w1 w2 P) D vwCl base tys ad ks)) (va_Qi (fun r (u : Int32) => u = r ∧ (fun r : Int32 => iv 0 1 r) r) (fun u t => (u = 1 ∧ ∃ a1 : Int, vD (sgT1 P) (sgL1 P) cw a = (true, a1) ∧ a + 0 ≤ a1 ∧ a1 ≤ sgL1 P ∧ sgB (KA a1 a1 w1 w2 P) D vwCl base tys ad ks t) ∨ (u = 0 ∧ ∃ w : Int, vD (sgT1 P) (sgL1 P) cw a = (false, w) ∧ sgB (KA 0 240 w w P) D vwCl base tys ad ks t)) (fun q : Nat => base ≤ q)) 0 0 (fun q : Nat => base ≤ q) := by
  refine sg_ofW (by decide +kernel) (Nat.le_of_ble_eq_true rfl) (fun p e s m below meth c X hr hlk hb hK hC hG ls hl => ?_)
  have hS : va_S (fun q : Nat => base ≤ q) s.heap s.heap [] := va_S.rf
  have hl : lv_has ls 2 [(0, .ref a0), (1, .int x1)] := hl
  refine lv_aload_n X.1 X.2.1 dX10_demand_0 rfl (lv_at hl 0 rfl) ?_
  refine ca_X10_sign_v X hK hG hC (fun _ h => h) hS hb a0 h0 ⟨by omega, by omega⟩ ⟨by omega, by omega⟩ wl_3_171 hl.1 (rest := []) rfl (Nat.le_of_ble_eq_true rfl) ⟨Nat.le_of_ble_eq_true rfl, Nat.le_of_ble_eq_true rfl⟩ ⟨Nat.le_of_ble_eq_true rfl, Nat.le_of_ble_eq_true rfl⟩ dX10_demand_1 (fun f1 locs hf1 hS => ?_)
  refine lv_iload_n X.1 X.2.1 dX10_demand_4 rfl (lv_at hl 1 rfl) ?_
  refine lv_icmp_eq (tgt := 13) X.1 X.2.1 dX10_demand_5 (by decide) (fun c2 => ?_) (fun c2 => ?_)
  · have i3 : vC (sgT1 P) (sgL1 P) a = cw := vq_eq c2 hf1 hx1.1
    refine lv_aload_n X.1 X.2.1 dX10_demand_13 rfl (lv_at hl 0 rfl) ?_
    refine ca_X10_step_v X hK hG hC hS hb a0 h0 ⟨by omega, by omega⟩ (vC_lt (b := sgT1 P) (by first | omega | exact vCm_ne (by assumption) | exact vLet_ne (by omega))) wl_3_218 hl.1 (rest := []) rfl (Nat.le_of_ble_eq_true rfl) ⟨Nat.le_of_ble_eq_true rfl, Nat.le_of_ble_eq_true rfl⟩ ⟨Nat.le_of_ble_eq_true rfl, Nat.le_of_ble_eq_true rfl⟩ dX10_demand_14 (fun tg5 H locs htg5 hWg5 hS => ?_)
    have lv6 := vC_lt (b := sgT1 P) (n := sgL1 P) (a := a) (by first | omega | exact vCm_ne (by assumption) | exact vLet_ne (by omega))
    have b7 := vX_ge (sgT1 P) (sgL1 P) (a + 1)
    have cb7 := b7.2.1 (by omega)
    have hG := hWg5.2.2.2
    rw [htg5] at hG
    refine lv_iconst (v := 1) X.1 X.2.1 dX10_demand_17 (by decide +kernel) ?_
    have spr : vD (sgT1 P) (sgL1 P) cw a = (true, (vX (sgT1 P) (sgL1 P) (a + 1))) := by simp only [vD, i3, vB_t, vB_f, if_true, if_false, eq_self, not_true_eq_false, not_false_eq_true, Int.reduceEq, or_false, false_or, or_true, true_or]
    exact sg_zret2 X hr (sg_zn (iv_of (iv_c 1 (a := 1) (b := 1) (by decide +kernel)) (a' := 0) (b' := 1) (by decide +kernel))) hlk hS (iv_of (iv_c 1 (a := 1) (b := 1) (by decide +kernel)) (a' := 0) (b' := 1) (by decide +kernel)) (fun t ht hW => (Or.inl ⟨rfl, _, spr, by omega, by omega, sg_post hb hK hC hG hS ht hW⟩)) dX10_demand_18
  · have i4 : ¬ vC (sgT1 P) (sgL1 P) a = cw := vq_ne c2 hf1 hx1.1
    refine lv_aload_n X.1 X.2.1 dX10_demand_8 rfl (lv_at hl 0 rfl) ?_
    refine ca_X10_wrong_v X hK hG hC hS hb a0 h0 ⟨by omega, by omega⟩ ⟨by omega, by omega⟩ wl_3_172 hl.1 (rest := []) rfl (Nat.le_of_ble_eq_true rfl) ⟨Nat.le_of_ble_eq_true rfl, Nat.le_of_ble_eq_true rfl⟩ ⟨Nat.le_of_ble_eq_true rfl, Nat.le_of_ble_eq_true rfl⟩ dX10_demand_9 (fun f8 tf8 H locs htf8 hf8 hWf8 hS => ?_)
    have hG := hWf8.2.2.2
    rw [htf8] at hG
    obtain rfl : f8 = 0 := sg_is0 hf8
    have spr : vD (sgT1 P) (sgL1 P) cw a = (false, a) := by simp only [vD, i4, vB_t, vB_f, if_true, if_false, eq_self, not_true_eq_false, not_false_eq_true, Int.reduceEq, or_false, false_or, or_true, true_or]
    have hG := ka_weak (b1 := 0) (b2 := 240) (c1 := a) (c2 := a) hG (by omega) (by omega) (Int.le_refl _) (Int.le_refl _)
    exact sg_zret2 X hr (sg_zn (iv_of (iv_c 0 (a := 0) (b := 0) (by decide +kernel)) (a' := 0) (b' := 1) (by decide +kernel))) hlk hS (iv_of (iv_c 0 (a := 0) (b := 0) (by decide +kernel)) (a' := 0) (b' := 1) (by decide +kernel)) (fun t ht hW => (Or.inr ⟨rfl, _, spr, sg_post hb hK hC hG hS ht hW⟩)) dX10_demand_12

theorem ca_X10_demand_v  {a w1 w2 cw : Int}  (X : CallFix p m c cc nL s args sg_tbl own) (hK : va_K D vwCl tys s) (hG : sgG (KA a a w1 w2 P) D vwCl (fun q : Nat => base ≤ q) tys ad ks H) (hC : sgC base s) (hS : va_S (fun q : Nat => base ≤ q) s.heap H locs) (hb : base ≤ s.heap.size) (a0 : Nat) (h0 : isK ad ks 10 a0) (x1 : Int32) (hl0 : 0 ≤ sgL1 P ∧ sgL1 P ≤ 240) (hav : 0 ≤ a ∧ a ≤ sgL1 P) (hx1 : x1.toInt = cw ∧ cw ≠ 0) (hl : Cond.methodLink own index yX10_demand ∈ sg_tbl) (hsize : ls.size = nL) (hst : st0 = [.int x1].reverse ++ .ref a0 :: rest) (hW : (rest.map fun v => v.category).sum ≤ 8) (hR : 3 ≤ R.frames ∧ 55 ≤ R.locals) (hf : cells ≤ R.cells ∧ slots ≤ R.slots) (hdg : decode cc pc = .ok (.invokevirtual index, 3)) (kk : ∀ (r : Int32) (t : State) (H1 : Heap) (locs1 : List Loc), t.heap = H1 → (fun r : Int32 => iv 0 1 r) r → ((r = 1 ∧ ∃ a1 : Int, vD (sgT1 P) (sgL1 P) cw a = (true, a1) ∧ a + 0 ≤ a1 ∧ a1 ≤ sgL1 P ∧ sgB (KA a1 a1 w1 w2 P) D vwCl base tys ad ks t) ∨ (r = 0 ∧ ∃ w : Int, vD (sgT1 P) (sgL1 P) cw a = (false, w) ∧ sgB (KA 0 240 w w P) D vwCl base tys ad ks t)) → va_S (fun q : Nat => base ≤ q) s.heap H1 locs1 → W p l e R s m args below meth c H1 locs1 cells slots Q (F0 m (pc + 3) ls (.int r :: rest))) : W p l e R s m args below meth c H locs cells slots Q (F0 m pc ls st0) :=
  sg_callV2i X hK hG hC hS hb (m_X10_demand_v l a0 h0 x1 hl0 hav hx1) h0 (k := 10) (ci := 10) rfl (C := RX10) (T := TX10) (N := 4) rfl wl_3_217 wl_1_2 wl_3_215 wl_3_216 (n := 1) (by decide +kernel) rfl rfl rfl hl hsize hst hW hR hf hdg kk

set_option maxHeartbeats 8000000 in
set_option maxRecDepth 100000 in
theorem m_X10_ended_v (l : Launch) {D : va_G} {base : Nat} {tys : List (ClassId × FieldType)} {ad ks : List Nat} {P : sgPm}{a w1 w2 : Int}  (a0 : Nat) (h0 : isK ad ks 10 a0) (hl0 : 0 ≤ sgL1 P ∧ sgL1 P ≤ 240) (hav : 0 ≤ a ∧ a ≤ sgL1 P) : Met l yX10_ended (Cond.code yX10_ended cX10_ended 1 (some .boolean) :: sg_tbl) ({ frames := 1, cells := 0, slots := 0, locals := 20 }) (va_Pc [.ref a0] (sgB (KA a a w1 w2 P) D vwCl base tys ad ks)) (va_Qi (fun r (u : Int32) => u = r ∧ (fun r : Int32 => iv 0 1 r) r) (fun u t => (u = 1 ∧ ∃ a1 : Int, vEn (sgT1 P) (sgL1 P) a = (true, a1) ∧ a + 0 ≤ a1 ∧ a1 ≤ sgL1 P ∧ sgB (KA a1 a1 w1 w2 P) D vwCl base tys ad ks t) ∨ (u = 0 ∧ ∃ w : Int, vEn (sgT1 P) (sgL1 P) a = (false, w) ∧ sgB (KA 0 240 w w P) D vwCl base tys ad ks t)) (fun q : Nat => base ≤ q)) 0 0 (fun q : Nat => base ≤ q) := by
  refine sg_ofW (by decide +kernel) (Nat.le_of_ble_eq_true rfl) (fun p e s m below meth c X hr hlk hb hK hC hG ls hl => ?_)
  have hS : va_S (fun q : Nat => base ≤ q) s.heap s.heap [] := va_S.rf
  have hl : lv_has ls 1 [(0, .ref a0)] := hl
  refine lv_aload_n X.1 X.2.1 dX10_ended_0 rfl (lv_at hl 0 rfl) ?_
  refine ca_X10_sign_v X hK hG hC (fun _ h => h) hS hb a0 h0 ⟨by omega, by omega⟩ ⟨by omega, by omega⟩ wl_3_171 hl.1 (rest := []) rfl (Nat.le_of_ble_eq_true rfl) ⟨Nat.le_of_ble_eq_true rfl, Nat.le_of_ble_eq_true rfl⟩ ⟨Nat.le_of_ble_eq_true rfl, Nat.le_of_ble_eq_true rfl⟩ dX10_ended_1 (fun f1 locs hf1 hS => ?_)
  refine lv_if_eq (tgt := 14) X.1 X.2.1 dX10_ended_4 (by decide) (fun c2 => ?_) (fun c2 => ?_)
  · have i3 : vC (sgT1 P) (sgL1 P) a = 0 := vq_eq c2 hf1 (by decide +kernel)
    refine lv_iconst (v := 1) X.1 X.2.1 dX10_ended_14 (by decide +kernel) ?_
    refine lv_goto (tgt := 19) X.1 X.2.1 dX10_ended_15 (by decide) ?_
    have spr : vEn (sgT1 P) (sgL1 P) a = (true, a) := by simp only [vEn, i3, vB_t, vB_f, if_true, if_false, eq_self, not_true_eq_false, not_false_eq_true, Int.reduceEq, or_false, false_or, or_true, true_or]
    exact sg_zret2 X hr (sg_zn (iv_of (iv_c 1 (a := 1) (b := 1) (by decide +kernel)) (a' := 0) (b' := 1) (by decide +kernel))) hlk hS (iv_of (iv_c 1 (a := 1) (b := 1) (by decide +kernel)) (a' := 0) (b' := 1) (by decide +kernel)) (fun t ht hW => (Or.inl ⟨rfl, _, spr, by omega, by omega, sg_post hb hK hC hG hS ht hW⟩)) dX10_ended_19
  · have i4 : ¬ vC (sgT1 P) (sgL1 P) a = 0 := vq_ne c2 hf1 (by decide +kernel)
    refine lv_aload_n X.1 X.2.1 dX10_ended_7 rfl (lv_at hl 0 rfl) ?_
    refine ca_X10_wrong_v X hK hG hC hS hb a0 h0 ⟨by omega, by omega⟩ ⟨by omega, by omega⟩ wl_3_172 hl.1 (rest := []) rfl (Nat.le_of_ble_eq_true rfl) ⟨Nat.le_of_ble_eq_true rfl, Nat.le_of_ble_eq_true rfl⟩ ⟨Nat.le_of_ble_eq_true rfl, Nat.le_of_ble_eq_true rfl⟩ dX10_ended_8 (fun f5 tf5 H locs htf5 hf5 hWf5 hS => ?_)
    have hG := hWf5.2.2.2
    rw [htf5] at hG
    obtain rfl : f5 = 0 := sg_is0 hf5
    refine lv_if_eq (tgt := 18) X.1 X.2.1 dX10_ended_11 (by decide) (fun c6 => ?_) (fun c6 => ?_)
    · refine lv_iconst (v := 0) X.1 X.2.1 dX10_ended_18 (by decide +kernel) ?_
      have spr : vEn (sgT1 P) (sgL1 P) a = (false, a) := by simp only [vEn, i4, vB_t, vB_f, if_true, if_false, eq_self, not_true_eq_false, not_false_eq_true, Int.reduceEq, or_false, false_or, or_true, true_or]
      have hG := ka_weak (b1 := 0) (b2 := 240) (c1 := a) (c2 := a) hG (by omega) (by omega) (Int.le_refl _) (Int.le_refl _)
      exact sg_zret2 X hr (sg_zn (iv_of (iv_c 0 (a := 0) (b := 0) (by decide +kernel)) (a' := 0) (b' := 1) (by decide +kernel))) hlk hS (iv_of (iv_c 0 (a := 0) (b := 0) (by decide +kernel)) (a' := 0) (b' := 1) (by decide +kernel)) (fun t ht hW => (Or.inr ⟨rfl, _, spr, sg_post hb hK hC hG hS ht hW⟩)) dX10_ended_19
    · exact ((c6 (iv_one (iv_c 0 (a := 0) (b := 0) (by decide +kernel)) (iv_c 0 (a := 0) (b := 0) (by decide +kernel)) (by decide +kernel)))).elim

theorem ca_X10_ended_v  {a w1 w2 : Int}  (X : CallFix p m c cc nL s args sg_tbl own) (hK : va_K D vwCl tys s) (hG : sgG (KA a a w1 w2 P) D vwCl (fun q : Nat => base ≤ q) tys ad ks H) (hC : sgC base s) (hS : va_S (fun q : Nat => base ≤ q) s.heap H locs) (hb : base ≤ s.heap.size) (a0 : Nat) (h0 : isK ad ks 10 a0) (hl0 : 0 ≤ sgL1 P ∧ sgL1 P ≤ 240) (hav : 0 ≤ a ∧ a ≤ sgL1 P) (hl : Cond.methodLink own index yX10_ended ∈ sg_tbl) (hsize : ls.size = nL) (hst : st0 = [].reverse ++ .ref a0 :: rest) (hW : (rest.map fun v => v.category).sum ≤ 8) (hR : 2 ≤ R.frames ∧ 40 ≤ R.locals) (hf : cells ≤ R.cells ∧ slots ≤ R.slots) (hdg : decode cc pc = .ok (.invokevirtual index, 3)) (kk : ∀ (r : Int32) (t : State) (H1 : Heap) (locs1 : List Loc), t.heap = H1 → (fun r : Int32 => iv 0 1 r) r → ((r = 1 ∧ ∃ a1 : Int, vEn (sgT1 P) (sgL1 P) a = (true, a1) ∧ a + 0 ≤ a1 ∧ a1 ≤ sgL1 P ∧ sgB (KA a1 a1 w1 w2 P) D vwCl base tys ad ks t) ∨ (r = 0 ∧ ∃ w : Int, vEn (sgT1 P) (sgL1 P) a = (false, w) ∧ sgB (KA 0 240 w w P) D vwCl base tys ad ks t)) → va_S (fun q : Nat => base ≤ q) s.heap H1 locs1 → W p l e R s m args below meth c H1 locs1 cells slots Q (F0 m (pc + 3) ls (.int r :: rest))) : W p l e R s m args below meth c H locs cells slots Q (F0 m pc ls st0) :=
  sg_callV2i X hK hG hC hS hb (m_X10_ended_v l a0 h0 hl0 hav) h0 (k := 10) (ci := 10) rfl (C := RX10) (T := TX10) (N := 4) rfl wl_3_170 wl_1_2 wl_3_168 wl_3_169 (n := 0) (by decide +kernel) rfl rfl rfl hl hsize hst hW hR hf hdg kk
end
