
section
variable {p : Program} {l : Launch} {e : Env} {R : Room} {s : State} {m : MethodId} {args : Array Value} {below : List Frame} {meth : Method} {c : Code} {H : Heap} {locs : List Loc} {cells slots : Nat} {Q : State → Prop} {cc : ByteArray} {nL pc : Nat} {ls : Array Slot} {rest : List Value} {own : String} {D : va_G} {A : Nat → Prop} {tys : List (ClassId × FieldType)} {ad ks : List Nat} {P : sgPm} {H0 : Heap} {index : Nat} {base : Nat} {st0 : List Value} {a : Nat}
theorem gf_X3_1h   (X : CallFix p m c cc nL s args sg_tbl own) (hK : va_K D vwCl tys s) (hG : sgG (KT P) D vwCl A tys ad ks H) (ha : isK ad ks 3 a) (hl : Cond.fieldLink own index "LawnAhead$Game" "count" "I" ∈ sg_tbl) (hdg : decode cc pc = .ok (.getfield index, 3)) (kk : ∀ x : Int32, iv 0 16 x → fld D H 3 a 1 (.int x) → gof (KT P) 3 a 1 (.int x) → W p l e R s m args below meth c H locs cells slots Q (F0 m (pc + 3) ls (.int x :: rest))) : W p l e R s m args below meth c H locs cells slots Q (F0 m pc ls (.ref a :: rest)) :=
  sg_getH X hK hG ha (k := 3) (ci := 3) rfl (C := RX3) (T := TX3) (N := 3) rfl inL_X3 1 (by decide) rfl hl (fun _ h => h) hdg (fun v hv hf hg => by obtain ⟨x, rfl, hx⟩ := hv; exact kk x hx hf hg)
theorem al_20h  {i : Int32}  (X : CallFix p m c cc nL s args sg_tbl own) (hK : va_K D vwCl tys s) (hG : sgG (KT P) D vwCl A tys ad ks H) (ha : isK ad ks 20 a) (hin : vp_in i 16) (hdg : decode cc pc = .ok (.iaload, 1)) (kk : ∀ x : Int32, okV ad ks (.inl ((-2147483648), 2147483647)) (.int x) → gof (KT P) 20 a i.toNatClampNeg (.int x) → W p l e R s m args below meth c H locs cells slots Q (F0 m (pc + 1) ls (.int x :: rest))) : W p l e R s m args below meth c H locs cells slots Q (F0 m pc ls (.int i :: .ref a :: rest)) :=
  sg_ialdH X hK hG ha (k := 20) rfl hin hdg kk
set_option maxHeartbeats 8000000 in
set_option maxRecDepth 100000 in
theorem m_X11_isGame_q (l : Launch) {D : va_G} {base : Nat} {tys : List (ClassId × FieldType)} {ad ks : List Nat} {P : sgPm} {Hx : Heap} (a0 : Nat) (h0 : isK ad ks 11 a0) (x1 : Int32) : sgPi l (KT P) D vwCl base tys ad ks Hx yX11_isGame cX11_isGame 2 (some .boolean) ({ frames := 0, cells := 0, slots := 0, locals := 0 }) [.ref a0, .int x1] (fun r : Int32 => (r = 1 ∧ (0 ≤ x1.toInt ∧ x1.toInt < ((P.2.2.2.2.2.2.2.1.val : Nat) : Int))) ∨ (r = 0 ∧ (x1.toInt < 0 ∨ ((P.2.2.2.2.2.2.2.1.val : Nat) : Int) ≤ x1.toInt))) := by
  refine sg_ofP (Pq := fun Hx => va_Qi (fun r (_ : Unit) => (fun r : Int32 => (r = 1 ∧ (0 ≤ x1.toInt ∧ x1.toInt < ((P.2.2.2.2.2.2.2.1.val : Nat) : Int))) ∨ (r = 0 ∧ (x1.toInt < 0 ∨ ((P.2.2.2.2.2.2.2.1.val : Nat) : Int) ≤ x1.toInt))) r) (fun _ t => t.heap = Hx) (fun _ : Nat => False)) (by decide +kernel) (Nat.le_of_ble_eq_true rfl) (fun p e s m below meth c X hr hlk hb hK hC hG ls hl => ?_)
  have hS : va_S (fun _ : Nat => False) s.heap s.heap [] := va_S.rf
  have hl : lv_has ls 2 [(0, .ref a0), (1, .int x1)] := hl
  refine lv_iload_n X.1 X.2.1 dX11_isGame_0 rfl (lv_at hl 1 rfl) ?_
  refine lv_if_lt (tgt := 16) X.1 X.2.1 dX11_isGame_1 (by decide) (fun c1 => ?_) (fun c1 => ?_)
  · refine lv_iconst (v := 0) X.1 X.2.1 dX11_isGame_16 (by decide +kernel) ?_
    exact sg_zretP X hr (sg_zn (iv_of (iv_c 0 (a := 0) (b := 0) (by decide +kernel)) (a' := 0) (b' := 1) (by decide +kernel))) hlk hS (Or.inr ⟨rfl, mg_a c1⟩) dX11_isGame_17
  · refine lv_iload_n X.1 X.2.1 dX11_isGame_4 rfl (lv_at hl 1 rfl) ?_
    refine lv_aload_n X.1 X.2.1 dX11_isGame_5 rfl (lv_at hl 0 rfl) ?_
    refine gf_X11_13 X hK hG h0 wl_2_208 dX11_isGame_6 (fun f2 hf2 pf2 kf2 => ?_)
    refine lv_icmp_ge (tgt := 16) X.1 X.2.1 dX11_isGame_9 (by decide) (fun c3 => ?_) (fun c3 => ?_)
    · refine lv_iconst (v := 0) X.1 X.2.1 dX11_isGame_16 (by decide +kernel) ?_
      exact sg_zretP X hr (sg_zn (iv_of (iv_c 0 (a := 0) (b := 0) (by decide +kernel)) (a' := 0) (b' := 1) (by decide +kernel))) hlk hS (Or.inr ⟨rfl, mg_b c3 pf2⟩) dX11_isGame_17
    · refine lv_iconst (v := 1) X.1 X.2.1 dX11_isGame_12 (by decide +kernel) ?_
      refine lv_goto (tgt := 17) X.1 X.2.1 dX11_isGame_13 (by decide) ?_
      exact sg_zretP X hr (sg_zn (iv_of (iv_c 1 (a := 1) (b := 1) (by decide +kernel)) (a' := 0) (b' := 1) (by decide +kernel))) hlk hS (Or.inl ⟨rfl, mg_1 (iv_ge_of c1) (iv_gt_of c3) pf2⟩) dX11_isGame_17

theorem ca_X11_isGame_q   (X : CallFix p m c cc nL s args sg_tbl own) (hK : va_K D vwCl tys s) (hG : sgG (KT P) D vwCl (fun q : Nat => base ≤ q) tys ad ks H) (hC : sgC base s) (hA : ∀ q : Nat, A q → base ≤ q) (hS : va_S A s.heap H locs) (hb : base ≤ s.heap.size) (a0 : Nat) (h0 : isK ad ks 11 a0) (x1 : Int32) (hl : Cond.methodLink own index yX11_isGame ∈ sg_tbl) (hsize : ls.size = nL) (hst : st0 = [.int x1].reverse ++ .ref a0 :: rest) (hW : (rest.map fun v => v.category).sum ≤ 8) (hR : 1 ≤ R.frames ∧ 21 ≤ R.locals) (hf : cells ≤ R.cells ∧ slots ≤ R.slots) (hdg : decode cc pc = .ok (.invokevirtual index, 3)) (kk : ∀ (r : Int32) (locs1 : List Loc), (fun r : Int32 => (r = 1 ∧ (0 ≤ x1.toInt ∧ x1.toInt < ((P.2.2.2.2.2.2.2.1.val : Nat) : Int))) ∨ (r = 0 ∧ (x1.toInt < 0 ∨ ((P.2.2.2.2.2.2.2.1.val : Nat) : Int) ≤ x1.toInt))) r → va_S A s.heap H locs1 → W p l e R s m args below meth c H locs1 cells slots Q (F0 m (pc + 3) ls (.int r :: rest))) : W p l e R s m args below meth c H locs cells slots Q (F0 m pc ls st0) :=
  sg_callPVi X hK hG hC hA hS hb (m_X11_isGame_q l a0 h0 x1) h0 (k := 11) (ci := 11) rfl (C := RX11) (T := TX11) (N := 17) rfl wl_5_24 wl_1_1 wl_5_23 wl_0_28 (n := 1) (by decide +kernel) rfl rfl rfl hl hsize hst hW hR hf hdg kk

set_option maxHeartbeats 8000000 in
set_option maxRecDepth 100000 in
theorem m_X12_isGame_q (l : Launch) {D : va_G} {base : Nat} {tys : List (ClassId × FieldType)} {ad ks : List Nat} {P : sgPm} {Hx : Heap} (a0 : Nat) (h0 : isK ad ks 12 a0) (x1 : Int32) : sgPi l (KT P) D vwCl base tys ad ks Hx yX12_isGame cX12_isGame 2 (some .boolean) ({ frames := 0, cells := 0, slots := 0, locals := 0 }) [.ref a0, .int x1] (fun r : Int32 => (r = 1 ∧ (0 ≤ x1.toInt ∧ x1.toInt < ((P.2.2.2.2.2.2.2.2.2.1.val : Nat) : Int))) ∨ (r = 0 ∧ (x1.toInt < 0 ∨ ((P.2.2.2.2.2.2.2.2.2.1.val : Nat) : Int) ≤ x1.toInt))) := by
  refine sg_ofP (Pq := fun Hx => va_Qi (fun r (_ : Unit) => (fun r : Int32 => (r = 1 ∧ (0 ≤ x1.toInt ∧ x1.toInt < ((P.2.2.2.2.2.2.2.2.2.1.val : Nat) : Int))) ∨ (r = 0 ∧ (x1.toInt < 0 ∨ ((P.2.2.2.2.2.2.2.2.2.1.val : Nat) : Int) ≤ x1.toInt))) r) (fun _ t => t.heap = Hx) (fun _ : Nat => False)) (by decide +kernel) (Nat.le_of_ble_eq_true rfl) (fun p e s m below meth c X hr hlk hb hK hC hG ls hl => ?_)
  have hS : va_S (fun _ : Nat => False) s.heap s.heap [] := va_S.rf
  have hl : lv_has ls 2 [(0, .ref a0), (1, .int x1)] := hl
  refine lv_iload_n X.1 X.2.1 dX12_isGame_0 rfl (lv_at hl 1 rfl) ?_
  refine lv_if_lt (tgt := 16) X.1 X.2.1 dX12_isGame_1 (by decide) (fun c1 => ?_) (fun c1 => ?_)
  · refine lv_iconst (v := 0) X.1 X.2.1 dX12_isGame_16 (by decide +kernel) ?_
    exact sg_zretP X hr (sg_zn (iv_of (iv_c 0 (a := 0) (b := 0) (by decide +kernel)) (a' := 0) (b' := 1) (by decide +kernel))) hlk hS (Or.inr ⟨rfl, mg_a c1⟩) dX12_isGame_17
  · refine lv_iload_n X.1 X.2.1 dX12_isGame_4 rfl (lv_at hl 1 rfl) ?_
    refine lv_aload_n X.1 X.2.1 dX12_isGame_5 rfl (lv_at hl 0 rfl) ?_
    refine gf_X12_29 X hK hG h0 wl_6_207 dX12_isGame_6 (fun f2 hf2 pf2 kf2 => ?_)
    refine lv_icmp_ge (tgt := 16) X.1 X.2.1 dX12_isGame_9 (by decide) (fun c3 => ?_) (fun c3 => ?_)
    · refine lv_iconst (v := 0) X.1 X.2.1 dX12_isGame_16 (by decide +kernel) ?_
      exact sg_zretP X hr (sg_zn (iv_of (iv_c 0 (a := 0) (b := 0) (by decide +kernel)) (a' := 0) (b' := 1) (by decide +kernel))) hlk hS (Or.inr ⟨rfl, mg_b c3 pf2⟩) dX12_isGame_17
    · refine lv_iconst (v := 1) X.1 X.2.1 dX12_isGame_12 (by decide +kernel) ?_
      refine lv_goto (tgt := 17) X.1 X.2.1 dX12_isGame_13 (by decide) ?_
      exact sg_zretP X hr (sg_zn (iv_of (iv_c 1 (a := 1) (b := 1) (by decide +kernel)) (a' := 0) (b' := 1) (by decide +kernel))) hlk hS (Or.inl ⟨rfl, mg_1 (iv_ge_of c1) (iv_gt_of c3) pf2⟩) dX12_isGame_17

theorem ca_X12_isGame_q   (X : CallFix p m c cc nL s args sg_tbl own) (hK : va_K D vwCl tys s) (hG : sgG (KT P) D vwCl (fun q : Nat => base ≤ q) tys ad ks H) (hC : sgC base s) (hA : ∀ q : Nat, A q → base ≤ q) (hS : va_S A s.heap H locs) (hb : base ≤ s.heap.size) (a0 : Nat) (h0 : isK ad ks 12 a0) (x1 : Int32) (hl : Cond.methodLink own index yX12_isGame ∈ sg_tbl) (hsize : ls.size = nL) (hst : st0 = [.int x1].reverse ++ .ref a0 :: rest) (hW : (rest.map fun v => v.category).sum ≤ 8) (hR : 1 ≤ R.frames ∧ 21 ≤ R.locals) (hf : cells ≤ R.cells ∧ slots ≤ R.slots) (hdg : decode cc pc = .ok (.invokevirtual index, 3)) (kk : ∀ (r : Int32) (locs1 : List Loc), (fun r : Int32 => (r = 1 ∧ (0 ≤ x1.toInt ∧ x1.toInt < ((P.2.2.2.2.2.2.2.2.2.1.val : Nat) : Int))) ∨ (r = 0 ∧ (x1.toInt < 0 ∨ ((P.2.2.2.2.2.2.2.2.2.1.val : Nat) : Int) ≤ x1.toInt))) r → va_S A s.heap H locs1 → W p l e R s m args below meth c H locs1 cells slots Q (F0 m (pc + 3) ls (.int r :: rest))) : W p l e R s m args below meth c H locs cells slots Q (F0 m pc ls st0) :=
  sg_callPVi X hK hG hC hA hS hb (m_X12_isGame_q l a0 h0 x1) h0 (k := 12) (ci := 12) rfl (C := RX12) (T := TX12) (N := 53) rfl wl_8_198 wl_1_13 wl_8_197 wl_0_91 (n := 1) (by decide +kernel) rfl rfl rfl hl hsize hst hW hR hf hdg kk

set_option maxHeartbeats 8000000 in
set_option maxRecDepth 100000 in
theorem m_X3_unpacked_w (l : Launch) {D : va_G} {base : Nat} {tys : List (ClassId × FieldType)} {ad ks : List Nat} {P : sgPm} {Hx : Heap} (x0 : Int32) (h0 : iv 0 1487 x0) (x1 : Int32) (h1 : iv 0 3 x1) : sgPi l (KT P) D vwCl base tys ad ks Hx yX3_unpacked cX3_unpacked 2 (some .int) ({ frames := 0, cells := 0, slots := 0, locals := 0 }) [.int x0, .int x1] (fun r : Int32 => r.toInt = unI x0.toInt x1.toInt) := by
  refine sg_ofP (Pq := fun Hx => va_Qi (fun r (_ : Unit) => (fun r : Int32 => r.toInt = unI x0.toInt x1.toInt) r) (fun _ t => t.heap = Hx) (fun _ : Nat => False)) (by decide +kernel) (Nat.le_of_ble_eq_true rfl) (fun p e s m below meth c X hr hlk hb hK hC hG ls hl => ?_)
  have hS : va_S (fun _ : Nat => False) s.heap s.heap [] := va_S.rf
  have hl : lv_has ls 2 [(0, .int x0), (1, .int x1)] := hl
  refine lv_iload_n X.1 X.2.1 dX3_unpacked_0 rfl (lv_at hl 1 rfl) ?_
  by_cases c1 : x1 = 0
  · refine lv_tableIn (tgt := 28) (off := 27) X.1 X.2.1 dX3_unpacked_1 (by rw [c1]; decide +kernel) (by rw [c1]; decide +kernel) (by rw [c1]; rfl) (by decide) ?_
    refine lv_iload_n X.1 X.2.1 dX3_unpacked_28 rfl (lv_at hl 0 rfl) ?_
    refine lv_bipush (v := 12) X.1 X.2.1 dX3_unpacked_29 (by decide +kernel) ?_
    refine lv_idiv X.1 X.2.1 dX3_unpacked_31 (iv_ne0 (iv_c 12 (a := 12) (b := 12) (by decide +kernel)) (by decide +kernel)) ?_
    refine lv_topi (fun f2 ef2 => ?_)
    have xf2 : f2.toInt = (x0.toInt / 12) := vq_div ef2 h0 (iv_c 12 (a := 12) (b := 12) (by decide +kernel)) (by decide +kernel) rfl (by decide +kernel)
    refine lv_bipush (v := 31) X.1 X.2.1 dX3_unpacked_32 (by decide +kernel) ?_
    refine lv_idiv X.1 X.2.1 dX3_unpacked_34 (iv_ne0 (iv_c 31 (a := 31) (b := 31) (by decide +kernel)) (by decide +kernel)) ?_
    refine lv_topi (fun f3 ef3 => ?_)
    have xf3 : f3.toInt = ((x0.toInt / 12) / 31) := vq_div ef3 (iv_div (a' := 0) (b' := 123) ef2 h0 (iv_c 12 (a := 12) (b := 12) (by decide +kernel)) (by decide +kernel)) (iv_c 31 (a := 31) (b := 31) (by decide +kernel)) (by decide +kernel) xf2 (by decide +kernel)
    exact sg_iretP X hr hlk hS (xf3.trans (unI_0 c1).symm) dX3_unpacked_35
  by_cases c4 : x1 = 1
  · refine lv_tableIn (tgt := 36) (off := 35) X.1 X.2.1 dX3_unpacked_1 (by rw [c4]; decide +kernel) (by rw [c4]; decide +kernel) (by rw [c4]; rfl) (by decide) ?_
    refine lv_iload_n X.1 X.2.1 dX3_unpacked_36 rfl (lv_at hl 0 rfl) ?_
    refine lv_bipush (v := 12) X.1 X.2.1 dX3_unpacked_37 (by decide +kernel) ?_
    refine lv_idiv X.1 X.2.1 dX3_unpacked_39 (iv_ne0 (iv_c 12 (a := 12) (b := 12) (by decide +kernel)) (by decide +kernel)) ?_
    refine lv_topi (fun f5 ef5 => ?_)
    have xf5 : f5.toInt = (x0.toInt / 12) := vq_div ef5 h0 (iv_c 12 (a := 12) (b := 12) (by decide +kernel)) (by decide +kernel) rfl (by decide +kernel)
    refine lv_bipush (v := 31) X.1 X.2.1 dX3_unpacked_40 (by decide +kernel) ?_
    refine lv_irem X.1 X.2.1 dX3_unpacked_42 (iv_ne0 (iv_c 31 (a := 31) (b := 31) (by decide +kernel)) (by decide +kernel)) ?_
    refine lv_topi (fun f6 ef6 => ?_)
    have xf6 : f6.toInt = ((x0.toInt / 12) % 31) := vq_rem ef6 (iv_div (a' := 0) (b' := 123) ef5 h0 (iv_c 12 (a := 12) (b := 12) (by decide +kernel)) (by decide +kernel)) (iv_c 31 (a := 31) (b := 31) (by decide +kernel)) (by decide +kernel) xf5 (by decide +kernel)
    refine lv_iconst (v := 1) X.1 X.2.1 dX3_unpacked_43 (by decide +kernel) ?_
    refine lv_isub X.1 X.2.1 dX3_unpacked_44 ?_
    refine lv_topi (fun f7 ef7 => ?_)
    have xf7 : f7.toInt = (((x0.toInt / 12) % 31) - 1) := sg_exsub ef7 (iv_rem (a' := 0) (b' := 30) ef6 (iv_div (a' := 0) (b' := 123) ef5 h0 (iv_c 12 (a := 12) (b := 12) (by decide +kernel)) (by decide +kernel)) (iv_c 31 (a := 31) (b := 31) (by decide +kernel)) (by decide +kernel)) (iv_c 1 (a := 1) (b := 1) (by decide +kernel)) (by decide +kernel) xf6 (by decide +kernel)
    exact sg_iretP X hr hlk hS (xf7.trans (unI_1 c4).symm) dX3_unpacked_45
  by_cases c8 : x1 = 2
  · refine lv_tableIn (tgt := 46) (off := 45) X.1 X.2.1 dX3_unpacked_1 (by rw [c8]; decide +kernel) (by rw [c8]; decide +kernel) (by rw [c8]; rfl) (by decide) ?_
    refine lv_iload_n X.1 X.2.1 dX3_unpacked_46 rfl (lv_at hl 0 rfl) ?_
    refine lv_bipush (v := 6) X.1 X.2.1 dX3_unpacked_47 (by decide +kernel) ?_
    refine lv_idiv X.1 X.2.1 dX3_unpacked_49 (iv_ne0 (iv_c 6 (a := 6) (b := 6) (by decide +kernel)) (by decide +kernel)) ?_
    refine lv_topi (fun f9 ef9 => ?_)
    have xf9 : f9.toInt = (x0.toInt / 6) := vq_div ef9 h0 (iv_c 6 (a := 6) (b := 6) (by decide +kernel)) (by decide +kernel) rfl (by decide +kernel)
    refine lv_iconst (v := 2) X.1 X.2.1 dX3_unpacked_50 (by decide +kernel) ?_
    refine lv_irem X.1 X.2.1 dX3_unpacked_51 (iv_ne0 (iv_c 2 (a := 2) (b := 2) (by decide +kernel)) (by decide +kernel)) ?_
    refine lv_topi (fun f10 ef10 => ?_)
    have xf10 : f10.toInt = ((x0.toInt / 6) % 2) := vq_rem ef10 (iv_div (a' := 0) (b' := 247) ef9 h0 (iv_c 6 (a := 6) (b := 6) (by decide +kernel)) (by decide +kernel)) (iv_c 2 (a := 2) (b := 2) (by decide +kernel)) (by decide +kernel) xf9 (by decide +kernel)
    exact sg_iretP X hr hlk hS (xf10.trans (unI_2 c8).symm) dX3_unpacked_52
  refine lv_tableOut (tgt := 53) X.1 X.2.1 dX3_unpacked_1 (by have tc1 := iv_nt 0 c1 (by decide +kernel); have tc4 := iv_nt 1 c4 (by decide +kernel); have tc8 := iv_nt 2 c8 (by decide +kernel); have b1 := (h1).1; have b2 := (h1).2; omega) (by decide) ?_
  refine lv_iload_n X.1 X.2.1 dX3_unpacked_53 rfl (lv_at hl 0 rfl) ?_
  refine lv_bipush (v := 6) X.1 X.2.1 dX3_unpacked_54 (by decide +kernel) ?_
  refine lv_irem X.1 X.2.1 dX3_unpacked_56 (iv_ne0 (iv_c 6 (a := 6) (b := 6) (by decide +kernel)) (by decide +kernel)) ?_
  refine lv_topi (fun f11 ef11 => ?_)
  have xf11 : f11.toInt = (x0.toInt % 6) := vq_rem ef11 h0 (iv_c 6 (a := 6) (b := 6) (by decide +kernel)) (by decide +kernel) rfl (by decide +kernel)
  exact sg_iretP X hr hlk hS (xf11.trans (unI_3 c1 c4 c8).symm) dX3_unpacked_57

theorem ca_X3_unpacked_w   (X : CallFix p m c cc nL s args sg_tbl own) (hK : va_K D vwCl tys s) (hG : sgG (KT P) D vwCl (fun q : Nat => base ≤ q) tys ad ks H) (hC : sgC base s) (hA : ∀ q : Nat, A q → base ≤ q) (hS : va_S A s.heap H locs) (hb : base ≤ s.heap.size) (x0 : Int32) (h0 : iv 0 1487 x0) (x1 : Int32) (h1 : iv 0 3 x1) (hl : Cond.methodLink own index yX3_unpacked ∈ sg_tbl) (hsize : ls.size = nL) (hst : st0 = [.int x0, .int x1].reverse ++ rest) (hW : (rest.map fun v => v.category).sum ≤ 8) (hR : 1 ≤ R.frames ∧ 21 ≤ R.locals) (hf : cells ≤ R.cells ∧ slots ≤ R.slots) (hdg : decode cc pc = .ok (.invokestatic index, 3)) (kk : ∀ (r : Int32) (locs1 : List Loc), (fun r : Int32 => r.toInt = unI x0.toInt x1.toInt) r → va_S A s.heap H locs1 → W p l e R s m args below meth c H locs1 cells slots Q (F0 m (pc + 3) ls (.int r :: rest))) : W p l e R s m args below meth c H locs cells slots Q (F0 m pc ls st0) :=
  sg_callPSi X hK hG hC hA hS hb (m_X3_unpacked_w l x0 h0 x1 h1) wl_5_16 wl_1_4 wl_5_15 (n := 2) (by decide +kernel) rfl rfl rfl hl hsize hst hW hR hf hdg kk

set_option maxHeartbeats 8000000 in
set_option maxRecDepth 100000 in
theorem m_X11_move_q (l : Launch) {D : va_G} {base : Nat} {tys : List (ClassId × FieldType)} {ad ks : List Nat} {P : sgPm} (a0 : Nat) (h0 : isK ad ks 11 a0) (x1 : Int32) (x2 : Int32) (x3 : Int32) (hgg : sgGg (sgGm P) P.2.2.2.2.2.2.2.1.val) (hpk : ∀ j i : Nat, j < P.2.2.2.2.2.2.2.1.val → (↑i : Int) < gCn (sgGm P) j → 0 ≤ gMv (sgGm P) j i ∧ gMv (sgGm P) j i ≤ 1487) : Met l yX11_move (Cond.code yX11_move cX11_move 4 (some .int) :: sg_tbl) ({ frames := 1, cells := 0, slots := 0, locals := 21 }) (va_Pc [.ref a0, .int x1, .int x2, .int x3] (sgB (KT P) D vwCl base tys ad ks)) (va_Qi (fun r (u : Int32) => u = r ∧ (fun r : Int32 => True) r) (fun u t => u.toInt = sgMw P.2.2.2.2.2.2.2.1.val (fun j => gCn (sgGm P) j) (fun j i k => unI (gMv (sgGm P) j i) k) x1.toInt x2.toInt x3.toInt ∧ sgB (KT P) D vwCl base tys ad ks t) (fun q : Nat => base ≤ q)) 0 0 (fun q : Nat => base ≤ q) := by
  refine sg_ofW (by decide +kernel) (Nat.le_of_ble_eq_true rfl) (fun p e s m below meth c X hr hlk hb hK hC hG ls hl => ?_)
  have hS : va_S (fun q : Nat => base ≤ q) s.heap s.heap [] := va_S.rf
  have hl : lv_has ls 4 [(0, .ref a0), (1, .int x1), (2, .int x2), (3, .int x3)] := hl
  refine lv_aload_n X.1 X.2.1 dX11_move_0 rfl (lv_at hl 0 rfl) ?_
  refine lv_iload_n X.1 X.2.1 dX11_move_1 rfl (lv_at hl 1 rfl) ?_
  refine ca_X11_isGame_q X hK hG hC (fun _ h => h) hS hb a0 h0 x1 wl_5_21 hl.1 (rest := []) rfl (Nat.le_of_ble_eq_true rfl) ⟨Nat.le_of_ble_eq_true rfl, Nat.le_of_ble_eq_true rfl⟩ ⟨Nat.le_of_ble_eq_true rfl, Nat.le_of_ble_eq_true rfl⟩ dX11_move_2 (fun f1 locs hf1 hS => ?_)
  refine lv_if_eq (tgt := 34) X.1 X.2.1 dX11_move_5 (by decide) (fun c2 => ?_) (fun c2 => ?_)
  · have k3 := mg_f hf1 c2
    refine lv_ldcw X.1 X.2.1 X.2.2.2.1 (X.2.2.2.2 _ wl_5_9) dX11_move_34 ?_
    exact sg_iret2 X hr hlk hS trivial (fun t ht hW => ⟨(show (-1000000 : Int32).toInt = -1000000 from by decide +kernel).trans (sgMw_n (by have z := k3; omega)).symm, sg_post hb hK hC hG hS ht hW⟩) dX11_move_37
  · have k4 := mg_t hf1 c2
    refine lv_iload_n X.1 X.2.1 dX11_move_8 rfl (lv_at hl 2 rfl) ?_
    refine lv_if_lt (tgt := 34) X.1 X.2.1 dX11_move_9 (by decide) (fun c5 => ?_) (fun c5 => ?_)
    · refine lv_ldcw X.1 X.2.1 X.2.2.2.1 (X.2.2.2.2 _ wl_5_9) dX11_move_34 ?_
      exact sg_iret2 X hr hlk hS trivial (fun t ht hW => ⟨(show (-1000000 : Int32).toInt = -1000000 from by decide +kernel).trans (sgMw_n (Or.inr (Or.inr (Or.inl (mg_lt0 c5))))).symm, sg_post hb hK hC hG hS ht hW⟩) dX11_move_37
    · refine lv_iload_n X.1 X.2.1 dX11_move_12 rfl (lv_at hl 2 rfl) ?_
      refine lv_aload_n X.1 X.2.1 dX11_move_13 rfl (lv_at hl 0 rfl) ?_
      refine gf_X11_2 X hK hG h0 wl_2_197 dX11_move_14 (fun q6 hq6 kq6 => ?_)
      refine lv_iload_n X.1 X.2.1 dX11_move_17 rfl (lv_at hl 1 rfl) ?_
      refine al_44h X hK hG hq6 (iv_vpin (mg_iv k4) (by decide +kernel)) dX11_move_18 (fun q7 hq7 gq7 => ?_)
      refine gf_X3_1h X hK hG hq7 wl_1_99 dX11_move_19 (fun f8 hf8 kf8 gf8 => ?_)
      have hc9 : f8.toInt = gCn (sgGm P) x1.toNatClampNeg := gg_cnt hgg (mg_lt k4) (mg_5 k4) gq7 gf8
      refine lv_icmp_ge (tgt := 34) X.1 X.2.1 dX11_move_22 (by decide) (fun c9 => ?_) (fun c9 => ?_)
      · refine lv_ldcw X.1 X.2.1 X.2.2.2.1 (X.2.2.2.2 _ wl_5_9) dX11_move_34 ?_
        exact sg_iret2 X hr hlk hS trivial (fun t ht hW => ⟨(show (-1000000 : Int32).toInt = -1000000 from by decide +kernel).trans (sgMw_n (Or.inr (Or.inr (Or.inr (Or.inl (by have z1 := Int32.le_iff_toInt_le.mp c9; rw [hc9] at z1; exact z1)))))).symm, sg_post hb hK hC hG hS ht hW⟩) dX11_move_37
      · refine lv_iload_n X.1 X.2.1 dX11_move_25 rfl (lv_at hl 3 rfl) ?_
        refine lv_if_lt (tgt := 34) X.1 X.2.1 dX11_move_26 (by decide) (fun c10 => ?_) (fun c10 => ?_)
        · refine lv_ldcw X.1 X.2.1 X.2.2.2.1 (X.2.2.2.2 _ wl_5_9) dX11_move_34 ?_
          exact sg_iret2 X hr hlk hS trivial (fun t ht hW => ⟨(show (-1000000 : Int32).toInt = -1000000 from by decide +kernel).trans (sgMw_n (Or.inr (Or.inr (Or.inr (Or.inr (Or.inl (mg_lt0 c10))))))).symm, sg_post hb hK hC hG hS ht hW⟩) dX11_move_37
        · refine lv_iload_n X.1 X.2.1 dX11_move_29 rfl (lv_at hl 3 rfl) ?_
          refine lv_iconst (v := 3) X.1 X.2.1 dX11_move_30 (by decide +kernel) ?_
          refine lv_icmp_le (tgt := 38) X.1 X.2.1 dX11_move_31 (by decide) (fun c11 => ?_) (fun c11 => ?_)
          · refine lv_aload_n X.1 X.2.1 dX11_move_38 rfl (lv_at hl 0 rfl) ?_
            refine gg_X11_2 X hK hG h0 wl_2_197 kq6 dX11_move_39 ?_
            refine lv_iload_n X.1 X.2.1 dX11_move_42 rfl (lv_at hl 1 rfl) ?_
            refine al_44h X hK hG hq6 (iv_vpin (mg_iv k4) (by decide +kernel)) dX11_move_43 (fun q12 hq12 gq12 => ?_)
            refine gf_X3_0h X hK hG hq12 wl_1_96 dX11_move_44 (fun q13 hq13 kq13 gq13 => ?_)
            refine lv_iload_n X.1 X.2.1 dX11_move_47 rfl (lv_at hl 2 rfl) ?_
            refine al_20h X hK hG hq13 (iv_vpin (iv_lt (b' := 15) (iv_gt_of c9) (iv_ler (c' := 0) (iv_ge_of c5) (iv_c 0 (a := 0) (b := 0) (by decide +kernel)) (iv_top x2) (by decide +kernel)) hf8 (by decide +kernel)) (by decide +kernel)) dX11_move_48 (fun f14 hf14 gf14 => ?_)
            have hi9 : ((x2.toNatClampNeg : Nat) : Int) < gCn (sgGm P) x1.toNatClampNeg := by have z1 := Int32.lt_iff_toInt_lt.mp (iv_gt_of c9); have z2 := mg_ge0 (iv_ge_of c5); rw [← hc9]; show ((x2.toInt.toNat : Nat) : Int) < _; omega
            have hm9 : f14.toInt = gMv (sgGm P) x1.toNatClampNeg x2.toNatClampNeg := gg_mv hgg (mg_lt k4) (mg_5 k4) gq12 gq13 hi9 gf14
            have hv9 : iv 0 1487 f14 := by have z := hpk _ _ (mg_lt k4) hi9; rw [← hm9] at z; exact z
            refine lv_iload_n X.1 X.2.1 dX11_move_49 rfl (lv_at hl 3 rfl) ?_
            refine ca_X3_unpacked_w X hK hG hC (fun _ h => h) hS hb f14 hv9 x3 (iv_le (b' := 3) c11 (iv_ler (c' := 0) (iv_ge_of c10) (iv_c 0 (a := 0) (b := 0) (by decide +kernel)) (iv_top x3) (by decide +kernel)) (iv_c 3 (a := 3) (b := 3) (by decide +kernel)) (by decide +kernel)) wl_5_14 hl.1 (rest := []) rfl (Nat.le_of_ble_eq_true rfl) ⟨Nat.le_of_ble_eq_true rfl, Nat.le_of_ble_eq_true rfl⟩ ⟨Nat.le_of_ble_eq_true rfl, Nat.le_of_ble_eq_true rfl⟩ dX11_move_50 (fun f15 locs hf15 hS => ?_)
            have hi8 : x2.toInt < gCn (sgGm P) x1.toInt.toNat := by have z1 := mg_ge0 (iv_ge_of c5); have z2 : ((x2.toInt.toNat : Nat) : Int) < gCn (sgGm P) x1.toInt.toNat := hi9; omega
            exact sg_iret2 X hr hlk hS trivial (fun t ht hW => ⟨(hf15.trans (by rw [hm9]; rfl)).trans (sgMw_y (c := (fun j => gCn (sgGm P) j)) (f := (fun j i k => unI (gMv (sgGm P) j i) k)) k4 (mg_ge0 (iv_ge_of c5)) hi8 ⟨mg_ge0 (iv_ge_of c10), mg_le3 c11⟩).symm, sg_post hb hK hC hG hS ht hW⟩) dX11_move_53
          · refine lv_ldcw X.1 X.2.1 X.2.2.2.1 (X.2.2.2.2 _ wl_5_9) dX11_move_34 ?_
            exact sg_iret2 X hr hlk hS trivial (fun t ht hW => ⟨(show (-1000000 : Int32).toInt = -1000000 from by decide +kernel).trans (sgMw_n (Or.inr (Or.inr (Or.inr (Or.inr (Or.inr (mg_gt3 (iv_gt_of c11)))))))).symm, sg_post hb hK hC hG hS ht hW⟩) dX11_move_37

theorem ca_X11_move_q   (X : CallFix p m c cc nL s args sg_tbl own) (hK : va_K D vwCl tys s) (hG : sgG (KT P) D vwCl (fun q : Nat => base ≤ q) tys ad ks H) (hC : sgC base s) (hS : va_S (fun q : Nat => base ≤ q) s.heap H locs) (hb : base ≤ s.heap.size) (a0 : Nat) (h0 : isK ad ks 11 a0) (x1 : Int32) (x2 : Int32) (x3 : Int32) (hgg : sgGg (sgGm P) P.2.2.2.2.2.2.2.1.val) (hpk : ∀ j i : Nat, j < P.2.2.2.2.2.2.2.1.val → (↑i : Int) < gCn (sgGm P) j → 0 ≤ gMv (sgGm P) j i ∧ gMv (sgGm P) j i ≤ 1487) (hl : Cond.methodLink own index yX11_move ∈ sg_tbl) (hsize : ls.size = nL) (hst : st0 = [.int x1, .int x2, .int x3].reverse ++ .ref a0 :: rest) (hW : (rest.map fun v => v.category).sum ≤ 8) (hR : 2 ≤ R.frames ∧ 44 ≤ R.locals) (hf : cells ≤ R.cells ∧ slots ≤ R.slots) (hdg : decode cc pc = .ok (.invokevirtual index, 3)) (kk : ∀ (r : Int32) (t : State) (H1 : Heap) (locs1 : List Loc), t.heap = H1 → (fun r : Int32 => True) r → (r.toInt = sgMw P.2.2.2.2.2.2.2.1.val (fun j => gCn (sgGm P) j) (fun j i k => unI (gMv (sgGm P) j i) k) x1.toInt x2.toInt x3.toInt ∧ sgB (KT P) D vwCl base tys ad ks t) → va_S (fun q : Nat => base ≤ q) s.heap H1 locs1 → W p l e R s m args below meth c H1 locs1 cells slots Q (F0 m (pc + 3) ls (.int r :: rest))) : W p l e R s m args below meth c H locs cells slots Q (F0 m pc ls st0) :=
  sg_callV2i X hK hG hC hS hb (m_X11_move_q l a0 h0 x1 x2 x3 hgg hpk) h0 (k := 11) (ci := 11) rfl (C := RX11) (T := TX11) (N := 17) rfl wl_5_20 wl_1_1 wl_5_18 wl_5_19 (n := 3) (by decide +kernel) rfl rfl rfl hl hsize hst hW hR hf hdg kk

set_option maxHeartbeats 8000000 in
set_option maxRecDepth 100000 in
theorem m_X12_move_e (l : Launch) {D : va_G} {base : Nat} {tys : List (ClassId × FieldType)} {ad ks : List Nat} {P : sgPm} (a0 : Nat) (h0 : isK ad ks 12 a0) (x1 : Int32) (x2 : Int32) (x3 : Int32) : Met l yX12_move (Cond.code yX12_move cX12_move 4 (some .int) :: sg_tbl) ({ frames := 1, cells := 0, slots := 0, locals := 25 }) (va_Pc [.ref a0, .int x1, .int x2, .int x3] (sgB (KT P) D vwCl base tys ad ks)) (va_Qi (fun r (u : Int32) => u = r ∧ (fun r : Int32 => True) r) (fun u t => u.toInt = sgMw P.2.2.2.2.2.2.2.2.2.1.val (fun j => ((sgGl P j).val : Int)) (fun j i k => sgG0 P (64 * j + (4 * i + k.toNat))) x1.toInt x2.toInt x3.toInt ∧ sgB (KT P) D vwCl base tys ad ks t) (fun q : Nat => base ≤ q)) 0 0 (fun q : Nat => base ≤ q) := by
  refine sg_ofW (by decide +kernel) (Nat.le_of_ble_eq_true rfl) (fun p e s m below meth c X hr hlk hb hK hC hG ls hl => ?_)
  have hS : va_S (fun q : Nat => base ≤ q) s.heap s.heap [] := va_S.rf
  have hl : lv_has ls 4 [(0, .ref a0), (1, .int x1), (2, .int x2), (3, .int x3)] := hl
  refine lv_aload_n X.1 X.2.1 dX12_move_0 rfl (lv_at hl 0 rfl) ?_
  refine lv_iconst (v := 0) X.1 X.2.1 dX12_move_1 (by decide +kernel) ?_
  refine pf_X12_0 X hK hG hS h0 wl_6_178 ⟨_, rfl, (iv_top _)⟩ dX12_move_2 (fun H locs hG hS ku1 ru1 => ?_)
  refine lv_aload_n X.1 X.2.1 dX12_move_5 rfl (lv_at hl 0 rfl) ?_
  refine lv_iload_n X.1 X.2.1 dX12_move_6 rfl (lv_at hl 1 rfl) ?_
  refine ca_X12_isGame_q X hK hG hC (fun _ h => h) hS hb a0 h0 x1 wl_8_195 hl.1 (rest := []) rfl (Nat.le_of_ble_eq_true rfl) ⟨Nat.le_of_ble_eq_true rfl, Nat.le_of_ble_eq_true rfl⟩ ⟨Nat.le_of_ble_eq_true rfl, Nat.le_of_ble_eq_true rfl⟩ dX12_move_7 (fun f2 locs hf2 hS => ?_)
  refine lv_if_eq (tgt := 61) X.1 X.2.1 dX12_move_10 (by decide) (fun c3 => ?_) (fun c3 => ?_)
  · have k4 := mg_f hf2 c3
    refine lv_ldcw X.1 X.2.1 X.2.2.2.1 (X.2.2.2.2 _ wl_8_190) dX12_move_61 ?_
    exact sg_iret2 X hr hlk hS trivial (fun t ht hW => ⟨(show (-1000000 : Int32).toInt = -1000000 from by decide +kernel).trans (sgMw_n (by have z := k4; omega)).symm, sg_post hb hK hC hG hS ht hW⟩) dX12_move_64
  · have k5 := mg_t hf2 c3
    refine lv_iload_n X.1 X.2.1 dX12_move_13 rfl (lv_at hl 2 rfl) ?_
    obtain ⟨g6, eg6⟩ : ∃ y : Int64, y = (x2 : Int32).toInt64 := ⟨_, rfl⟩
    refine lv_i2l (v := g6) X.1 X.2.1 dX12_move_14 eg6.symm ?_
    refine lv_lconst (v := 0) X.1 X.2.1 dX12_move_15 (by decide +kernel) ?_
    refine lv_aload_n X.1 X.2.1 dX12_move_16 rfl (lv_at hl 0 rfl) ?_
    refine gf_X12_22 X hK hG h0 wl_6_200 dX12_move_17 (fun q7 hq7 kq7 => ?_)
    refine lv_iload_n X.1 X.2.1 dX12_move_20 rfl (lv_at hl 1 rfl) ?_
    refine al_53 X hK hG hq7 (iv_vpin (mg_iv k5) (by decide +kernel)) dX12_move_21 (fun f8 hf8 => ?_)
    have of8 := hf8
    have hf8 : iv 0 16 f8 := sg_glr hf8
    have hl9 : f8.toInt = ((sgGl P x1.toNatClampNeg).val : Int) := gl_rd of8 (mg_4 k5)
    refine lv_iconst (v := 1) X.1 X.2.1 dX12_move_22 (by decide +kernel) ?_
    refine lv_isub X.1 X.2.1 dX12_move_23 ?_
    refine lv_topi (fun f9 ef9 => ?_)
    obtain ⟨g10, eg10⟩ : ∃ y : Int64, y = (f9 : Int32).toInt64 := ⟨_, rfl⟩
    refine lv_i2l (v := g10) X.1 X.2.1 dX12_move_24 eg10.symm ?_
    refine ca_X12_isIn_2 X hK hG hC (fun _ h => h) hS hb g6 0 g10 wl_7_119 hl.1 (rest := []) rfl (Nat.le_of_ble_eq_true rfl) ⟨Nat.le_of_ble_eq_true rfl, Nat.le_of_ble_eq_true rfl⟩ ⟨Nat.le_of_ble_eq_true rfl, Nat.le_of_ble_eq_true rfl⟩ dX12_move_25 (fun f11 locs hf11 hS => ?_)
    refine lv_if_eq (tgt := 61) X.1 X.2.1 dX12_move_28 (by decide) (fun c12 => ?_) (fun c12 => ?_)
    · refine lv_ldcw X.1 X.2.1 X.2.2.2.1 (X.2.2.2.2 _ wl_8_190) dX12_move_61 ?_
      exact sg_iret2 X hr hlk hS trivial (fun t ht hW => ⟨(show (-1000000 : Int32).toInt = -1000000 from by decide +kernel).trans (sgMw_n (by have z := mg_out hf11.2 eg6 (by decide +kernel) (mg_i64 eg10 (sg_dec (k := 1) ef9 hf8 (by decide +kernel))) c12; rw [hl9] at z; have z2 : ((sgGl P x1.toNatClampNeg).val : Int) = ((sgGl P x1.toInt.toNat).val : Int) := rfl; show _ ∨ _ ∨ _ ∨ ((sgGl P x1.toInt.toNat).val : Int) ≤ _ ∨ _; omega)).symm, sg_post hb hK hC hG hS ht hW⟩) dX12_move_64
    · have hi9 := mg_in hf11.2 eg6 (by decide +kernel) (mg_i64 eg10 (sg_dec (k := 1) ef9 hf8 (by decide +kernel))) c12
      have hx2 : iv 0 15 x2 := ⟨hi9.1, by have z := hi9.2; have z2 := (hf8).2; omega⟩
      refine lv_iload_n X.1 X.2.1 dX12_move_31 rfl (lv_at hl 3 rfl) ?_
      obtain ⟨g13, eg13⟩ : ∃ y : Int64, y = (x3 : Int32).toInt64 := ⟨_, rfl⟩
      refine lv_i2l (v := g13) X.1 X.2.1 dX12_move_32 eg13.symm ?_
      refine lv_lconst (v := 0) X.1 X.2.1 dX12_move_33 (by decide +kernel) ?_
      refine lv_ldc2 X.1 X.2.1 X.2.2.2.1 (X.2.2.2.2 _ wl_8_189) dX12_move_34 ?_
      refine ca_X12_isIn_2 X hK hG hC (fun _ h => h) hS hb g13 0 3 wl_7_119 hl.1 (rest := []) rfl (Nat.le_of_ble_eq_true rfl) ⟨Nat.le_of_ble_eq_true rfl, Nat.le_of_ble_eq_true rfl⟩ ⟨Nat.le_of_ble_eq_true rfl, Nat.le_of_ble_eq_true rfl⟩ dX12_move_37 (fun f14 locs hf14 hS => ?_)
      refine lv_if_eq (tgt := 61) X.1 X.2.1 dX12_move_40 (by decide) (fun c15 => ?_) (fun c15 => ?_)
      · refine lv_ldcw X.1 X.2.1 X.2.2.2.1 (X.2.2.2.2 _ wl_8_190) dX12_move_61 ?_
        exact sg_iret2 X hr hlk hS trivial (fun t ht hW => ⟨(show (-1000000 : Int32).toInt = -1000000 from by decide +kernel).trans (sgMw_n (by have z := mg_out hf14.2 eg13 (by decide +kernel) (k := 3) (by decide +kernel) c15; omega)).symm, sg_post hb hK hC hG hS ht hW⟩) dX12_move_64
      · have hw9 := mg_in hf14.2 eg13 (by decide +kernel) (k := 3) (by decide +kernel) c15
        have hx3 : iv 0 3 x3 := hw9
        refine lv_aload_n X.1 X.2.1 dX12_move_43 rfl (lv_at hl 0 rfl) ?_
        refine gf_X12_21 X hK hG h0 wl_6_199 dX12_move_44 (fun q16 hq16 kq16 => ?_)
        refine lv_iconst (v := 4) X.1 X.2.1 dX12_move_47 (by decide +kernel) ?_
        refine lv_bipush (v := 16) X.1 X.2.1 dX12_move_48 (by decide +kernel) ?_
        refine lv_iload_n X.1 X.2.1 dX12_move_50 rfl (lv_at hl 1 rfl) ?_
        refine lv_imul X.1 X.2.1 dX12_move_51 ?_
        refine lv_topi (fun f17 ef17 => ?_)
        refine lv_iload_n X.1 X.2.1 dX12_move_52 rfl (lv_at hl 2 rfl) ?_
        refine lv_iadd X.1 X.2.1 dX12_move_53 ?_
        refine lv_topi (fun f18 ef18 => ?_)
        refine lv_imul X.1 X.2.1 dX12_move_54 ?_
        refine lv_topi (fun f19 ef19 => ?_)
        refine lv_iload_n X.1 X.2.1 dX12_move_55 rfl (lv_at hl 3 rfl) ?_
        refine lv_iadd X.1 X.2.1 dX12_move_56 ?_
        refine lv_topi (fun f20 ef20 => ?_)
        have hj9 := mg_ix ef17 ef18 ef19 ef20 (mg_iv k5) hx2 hx3
        refine al_52 X hK hG hq16 (iv_vpin (iv_add (a' := 0) (b' := 255) ef20 (iv_mul (a' := 0) (b' := 252) ef19 (iv_c 4 (a := 4) (b := 4) (by decide +kernel)) (iv_add (a' := 0) (b' := 63) ef18 (iv_mul (a' := 0) (b' := 48) ef17 (iv_c 16 (a := 16) (b := 16) (by decide +kernel)) (mg_iv k5) (by decide +kernel)) hx2 (by decide +kernel)) (by decide +kernel)) hx3 (by decide +kernel)) (by decide +kernel)) dX12_move_57 (fun f21 hf21 => ?_)
        have of21 := hf21
        have hf21 : iv (-2147483648) 2147483647 f21 := iv_top f21
        refine lv_goto (tgt := 64) X.1 X.2.1 dX12_move_58 (by decide) ?_
        have hi8 : x2.toInt < ((sgGl P x1.toInt.toNat).val : Int) := by have z := hi9.2; have z2 : f8.toInt = ((sgGl P x1.toInt.toNat).val : Int) := hl9; omega
        have hv8 : f21.toInt = sgG0 P (64 * x1.toInt.toNat + (4 * x2.toInt.toNat + x3.toInt.toNat)) := (ga_rd of21 (sg_lt256 (iv_add (a' := 0) (b' := 255) ef20 (iv_mul (a' := 0) (b' := 252) ef19 (iv_c 4 (a := 4) (b := 4) (by decide +kernel)) (iv_add (a' := 0) (b' := 63) ef18 (iv_mul (a' := 0) (b' := 48) ef17 (iv_c 16 (a := 16) (b := 16) (by decide +kernel)) (mg_iv k5) (by decide +kernel)) hx2 (by decide +kernel)) (by decide +kernel)) hx3 (by decide +kernel)) (by decide +kernel))).trans (by rw [hj9]; rfl)
        exact sg_iret2 X hr hlk hS trivial (fun t ht hW => ⟨hv8.trans (sgMw_y (c := (fun j => ((sgGl P j).val : Int))) (f := (fun j i k => sgG0 P (64 * j + (4 * i + k.toNat)))) k5 hi9.1 hi8 hw9).symm, sg_post hb hK hC hG hS ht hW⟩) dX12_move_64

theorem ca_X12_move_e   (X : CallFix p m c cc nL s args sg_tbl own) (hK : va_K D vwCl tys s) (hG : sgG (KT P) D vwCl (fun q : Nat => base ≤ q) tys ad ks H) (hC : sgC base s) (hS : va_S (fun q : Nat => base ≤ q) s.heap H locs) (hb : base ≤ s.heap.size) (a0 : Nat) (h0 : isK ad ks 12 a0) (x1 : Int32) (x2 : Int32) (x3 : Int32) (hl : Cond.methodLink own index yX12_move ∈ sg_tbl) (hsize : ls.size = nL) (hst : st0 = [.int x1, .int x2, .int x3].reverse ++ .ref a0 :: rest) (hW : (rest.map fun v => v.category).sum ≤ 8) (hR : 2 ≤ R.frames ∧ 48 ≤ R.locals) (hf : cells ≤ R.cells ∧ slots ≤ R.slots) (hdg : decode cc pc = .ok (.invokevirtual index, 3)) (kk : ∀ (r : Int32) (t : State) (H1 : Heap) (locs1 : List Loc), t.heap = H1 → (fun r : Int32 => True) r → (r.toInt = sgMw P.2.2.2.2.2.2.2.2.2.1.val (fun j => ((sgGl P j).val : Int)) (fun j i k => sgG0 P (64 * j + (4 * i + k.toNat))) x1.toInt x2.toInt x3.toInt ∧ sgB (KT P) D vwCl base tys ad ks t) → va_S (fun q : Nat => base ≤ q) s.heap H1 locs1 → W p l e R s m args below meth c H1 locs1 cells slots Q (F0 m (pc + 3) ls (.int r :: rest))) : W p l e R s m args below meth c H locs cells slots Q (F0 m pc ls st0) :=
  sg_callV2i X hK hG hC hS hb (m_X12_move_e l a0 h0 x1 x2 x3) h0 (k := 12) (ci := 12) rfl (C := RX12) (T := TX12) (N := 53) rfl wl_8_194 wl_1_13 wl_8_192 wl_8_193 (n := 3) (by decide +kernel) rfl rfl rfl hl hsize hst hW hR hf hdg kk
end
