
section
variable {p : Program} {l : Launch} {e : Env} {R : Room} {s : State} {m : MethodId} {args : Array Value} {below : List Frame} {meth : Method} {c : Code} {H : Heap} {locs : List Loc} {cells slots : Nat} {Q : State → Prop} {cc : ByteArray} {nL pc : Nat} {ls : Array Slot} {rest : List Value} {own : String} {D : va_G} {A : Nat → Prop} {tys : List (ClassId × FieldType)} {ad ks : List Nat} {P : sgPm} {H0 : Heap} {index : Nat} {base : Nat} {st0 : List Value} {a : Nat}
theorem al_21h  {i : Int32}  (X : CallFix p m c cc nL s args sg_tbl own) (hK : va_K D vwCl tys s) (hG : sgG (KT P) D vwCl A tys ad ks H) (ha : isK ad ks 21 a) (hin : vp_in i 7) (hdg : decode cc pc = .ok (.iaload, 1)) (kk : ∀ x : Int32, okV ad ks ((fun i => if i = 0 then .inl (0, 6) else if i = 1 then .inl (0, 5) else if i = 2 then .inl (0, 5) else if i = 3 then .inl (0, 5) else if i = 6 then .inl (0, 1) else .inl (0, 8) : Nat → sgT) i.toNatClampNeg) (.int x) → gof (KT P) 21 a i.toNatClampNeg (.int x) → W p l e R s m args below meth c H locs cells slots Q (F0 m (pc + 1) ls (.int x :: rest))) : W p l e R s m args below meth c H locs cells slots Q (F0 m pc ls (.int i :: .ref a :: rest)) :=
  sg_ialdH X hK hG ha (k := 21) rfl hin hdg kk
set_option maxHeartbeats 8000000 in
set_option maxRecDepth 100000 in
theorem m_X11_noLawn_q (l : Launch) {D : va_G} {base : Nat} {tys : List (ClassId × FieldType)} {ad ks : List Nat} {P : sgPm} {Hx : Heap} (a0 : Nat) (h0 : isK ad ks 11 a0) (hgi : sgGi (sgGm P)) : sgPi l (KT P) D vwCl base tys ad ks Hx yX11_noLawn cX11_noLawn 1 (some .boolean) ({ frames := 0, cells := 0, slots := 0, locals := 0 }) [.ref a0] (fun r : Int32 => (r = 1 ∧ gI (sgGm P) 9 = 0) ∨ (r = 0 ∧ ¬ gI (sgGm P) 9 = 0)) := by
  refine sg_ofP (Pq := fun Hx => va_Qi (fun r (_ : Unit) => (fun r : Int32 => (r = 1 ∧ gI (sgGm P) 9 = 0) ∨ (r = 0 ∧ ¬ gI (sgGm P) 9 = 0)) r) (fun _ t => t.heap = Hx) (fun _ : Nat => False)) (by decide +kernel) (Nat.le_of_ble_eq_true rfl) (fun p e s m below meth c X hr hlk hb hK hC hG ls hl => ?_)
  have hS : va_S (fun _ : Nat => False) s.heap s.heap [] := va_S.rf
  have hl : lv_has ls 1 [(0, .ref a0)] := hl
  refine lv_aload_n X.1 X.2.1 dX11_noLawn_0 rfl (lv_at hl 0 rfl) ?_
  refine gf_X11_10h X hK hG h0 wl_2_205 dX11_noLawn_1 (fun q1 hq1 kq1 gq1 => ?_)
  refine gf_X4_5h X hK hG hq1 wl_1_220 dX11_noLawn_4 (fun f2 hf2 kf2 gf2 => ?_)
  refine lv_if_ne (tgt := 14) X.1 X.2.1 dX11_noLawn_7 (by decide) (fun c3 => ?_) (fun c3 => ?_)
  · refine lv_iconst (v := 0) X.1 X.2.1 dX11_noLawn_14 (by decide +kernel) ?_
    exact sg_zretP X hr (sg_zn (iv_of (iv_c 0 (a := 0) (b := 0) (by decide +kernel)) (a' := 0) (b' := 1) (by decide +kernel))) hlk hS (Or.inr ⟨rfl, fun z => c3 (Int32.toInt_inj.mp (((gi_cells hgi gq1 gf2).trans z).trans (by decide +kernel)))⟩) dX11_noLawn_15
  · refine lv_iconst (v := 1) X.1 X.2.1 dX11_noLawn_10 (by decide +kernel) ?_
    refine lv_goto (tgt := 15) X.1 X.2.1 dX11_noLawn_11 (by decide) ?_
    exact sg_zretP X hr (sg_zn (iv_of (iv_c 1 (a := 1) (b := 1) (by decide +kernel)) (a' := 0) (b' := 1) (by decide +kernel))) hlk hS (Or.inl ⟨rfl, (gi_cells hgi gq1 gf2).symm.trans (by rw [c3]; decide +kernel)⟩) dX11_noLawn_15

theorem ca_X11_noLawn_q   (X : CallFix p m c cc nL s args sg_tbl own) (hK : va_K D vwCl tys s) (hG : sgG (KT P) D vwCl (fun q : Nat => base ≤ q) tys ad ks H) (hC : sgC base s) (hA : ∀ q : Nat, A q → base ≤ q) (hS : va_S A s.heap H locs) (hb : base ≤ s.heap.size) (a0 : Nat) (h0 : isK ad ks 11 a0) (hgi : sgGi (sgGm P)) (hl : Cond.methodLink own index yX11_noLawn ∈ sg_tbl) (hsize : ls.size = nL) (hst : st0 = [].reverse ++ .ref a0 :: rest) (hW : (rest.map fun v => v.category).sum ≤ 8) (hR : 1 ≤ R.frames ∧ 20 ≤ R.locals) (hf : cells ≤ R.cells ∧ slots ≤ R.slots) (hdg : decode cc pc = .ok (.invokevirtual index, 3)) (kk : ∀ (r : Int32) (locs1 : List Loc), (fun r : Int32 => (r = 1 ∧ gI (sgGm P) 9 = 0) ∨ (r = 0 ∧ ¬ gI (sgGm P) 9 = 0)) r → va_S A s.heap H locs1 → W p l e R s m args below meth c H locs1 cells slots Q (F0 m (pc + 3) ls (.int r :: rest))) : W p l e R s m args below meth c H locs cells slots Q (F0 m pc ls st0) :=
  sg_callPVi X hK hG hC hA hS hb (m_X11_noLawn_q l a0 h0 hgi) h0 (k := 11) (ci := 11) rfl (C := RX11) (T := TX11) (N := 17) rfl wl_4_77 wl_1_1 wl_4_76 wl_0_20 (n := 0) (by decide +kernel) rfl rfl rfl hl hsize hst hW hR hf hdg kk

set_option maxHeartbeats 8000000 in
set_option maxRecDepth 100000 in
theorem m_X11_rule_q (l : Launch) {D : va_G} {base : Nat} {tys : List (ClassId × FieldType)} {ad ks : List Nat} {P : sgPm} (a0 : Nat) (h0 : isK ad ks 11 a0) (x1 : Int32) (hgi : sgGi (sgGm P)) : Met l yX11_rule (Cond.code yX11_rule cX11_rule 2 (some .int) :: sg_tbl) ({ frames := 1, cells := 0, slots := 0, locals := 20 }) (va_Pc [.ref a0, .int x1] (sgB (KT P) D vwCl base tys ad ks)) (va_Qi (fun r (u : Int32) => u = r ∧ (fun r : Int32 => True) r) (fun u t => u.toInt = sgRv (gI (sgGm P) 9) (fun i => gI (sgGm P) (30 + i)) x1.toInt ∧ sgB (KT P) D vwCl base tys ad ks t) (fun q : Nat => base ≤ q)) 0 0 (fun q : Nat => base ≤ q) := by
  refine sg_ofW (by decide +kernel) (Nat.le_of_ble_eq_true rfl) (fun p e s m below meth c X hr hlk hb hK hC hG ls hl => ?_)
  have hS : va_S (fun q : Nat => base ≤ q) s.heap s.heap [] := va_S.rf
  have hl : lv_has ls 2 [(0, .ref a0), (1, .int x1)] := hl
  refine lv_aload_n X.1 X.2.1 dX11_rule_0 rfl (lv_at hl 0 rfl) ?_
  refine ca_X11_noLawn_q X hK hG hC (fun _ h => h) hS hb a0 h0 hgi wl_4_74 hl.1 (rest := []) rfl (Nat.le_of_ble_eq_true rfl) ⟨Nat.le_of_ble_eq_true rfl, Nat.le_of_ble_eq_true rfl⟩ ⟨Nat.le_of_ble_eq_true rfl, Nat.le_of_ble_eq_true rfl⟩ dX11_rule_1 (fun f1 locs hf1 hS => ?_)
  refine lv_if_ne (tgt := 17) X.1 X.2.1 dX11_rule_4 (by decide) (fun c2 => ?_) (fun c2 => ?_)
  · refine lv_iconst (v := (-1)) X.1 X.2.1 dX11_rule_17 (by decide +kernel) ?_
    exact sg_iret2 X hr hlk hS trivial (fun t ht hW => ⟨(show (-1 : Int32).toInt = -1 from by decide +kernel).trans (sgRv_n (Or.inl (rv_1 hf1 c2))).symm, sg_post hb hK hC hG hS ht hW⟩) dX11_rule_18
  · refine lv_iload_n X.1 X.2.1 dX11_rule_7 rfl (lv_at hl 1 rfl) ?_
    refine lv_if_lt (tgt := 17) X.1 X.2.1 dX11_rule_8 (by decide) (fun c3 => ?_) (fun c3 => ?_)
    · refine lv_iconst (v := (-1)) X.1 X.2.1 dX11_rule_17 (by decide +kernel) ?_
      exact sg_iret2 X hr hlk hS trivial (fun t ht hW => ⟨(show (-1 : Int32).toInt = -1 from by decide +kernel).trans (sgRv_n (Or.inr (Or.inl (rv_lt c3)))).symm, sg_post hb hK hC hG hS ht hW⟩) dX11_rule_18
    · refine lv_iload_n X.1 X.2.1 dX11_rule_11 rfl (lv_at hl 1 rfl) ?_
      refine lv_bipush (v := 6) X.1 X.2.1 dX11_rule_12 (by decide +kernel) ?_
      refine lv_icmp_lt (tgt := 19) X.1 X.2.1 dX11_rule_14 (by decide) (fun c4 => ?_) (fun c4 => ?_)
      · refine lv_aload_n X.1 X.2.1 dX11_rule_19 rfl (lv_at hl 0 rfl) ?_
        refine gf_X11_10h X hK hG h0 wl_2_205 dX11_rule_20 (fun q5 hq5 kq5 gq5 => ?_)
        refine gf_X4_0h X hK hG hq5 wl_1_211 dX11_rule_23 (fun q6 hq6 kq6 gq6 => ?_)
        refine lv_iload_n X.1 X.2.1 dX11_rule_26 rfl (lv_at hl 1 rfl) ?_
        refine al_21h X hK hG hq6 (iv_vpin (iv_lt (b' := 5) c4 (iv_ler (c' := 0) (iv_ge_of c3) (iv_c 0 (a := 0) (b := 0) (by decide +kernel)) (iv_top x1) (by decide +kernel)) (iv_c 6 (a := 6) (b := 6) (by decide +kernel)) (by decide +kernel)) (by decide +kernel)) dX11_rule_27 (fun f7 hf7 gf7 => ?_)
        have of7 := hf7
        have hf7 : iv 0 8 f7 := sg_spa_rules hf7
        exact sg_iret2 X hr hlk hS trivial (fun t ht hW => ⟨(gi_rule (j := x1.toNatClampNeg) hgi gq5 gq6 gf7).trans (sgRv_y (c := gI (sgGm P) 9) (f := (fun i => gI (sgGm P) (30 + i))) (rv_0 hf1 c2) (rv_ge0 (iv_ge_of c3)) (rv_lt6 c4)).symm, sg_post hb hK hC hG hS ht hW⟩) dX11_rule_28
      · refine lv_iconst (v := (-1)) X.1 X.2.1 dX11_rule_17 (by decide +kernel) ?_
        exact sg_iret2 X hr hlk hS trivial (fun t ht hW => ⟨(show (-1 : Int32).toInt = -1 from by decide +kernel).trans (sgRv_n (Or.inr (Or.inr (rv_ge (iv_ge_of c4))))).symm, sg_post hb hK hC hG hS ht hW⟩) dX11_rule_18

theorem ca_X11_rule_q   (X : CallFix p m c cc nL s args sg_tbl own) (hK : va_K D vwCl tys s) (hG : sgG (KT P) D vwCl (fun q : Nat => base ≤ q) tys ad ks H) (hC : sgC base s) (hS : va_S (fun q : Nat => base ≤ q) s.heap H locs) (hb : base ≤ s.heap.size) (a0 : Nat) (h0 : isK ad ks 11 a0) (x1 : Int32) (hgi : sgGi (sgGm P)) (hl : Cond.methodLink own index yX11_rule ∈ sg_tbl) (hsize : ls.size = nL) (hst : st0 = [.int x1].reverse ++ .ref a0 :: rest) (hW : (rest.map fun v => v.category).sum ≤ 8) (hR : 2 ≤ R.frames ∧ 41 ≤ R.locals) (hf : cells ≤ R.cells ∧ slots ≤ R.slots) (hdg : decode cc pc = .ok (.invokevirtual index, 3)) (kk : ∀ (r : Int32) (t : State) (H1 : Heap) (locs1 : List Loc), t.heap = H1 → (fun r : Int32 => True) r → (r.toInt = sgRv (gI (sgGm P) 9) (fun i => gI (sgGm P) (30 + i)) x1.toInt ∧ sgB (KT P) D vwCl base tys ad ks t) → va_S (fun q : Nat => base ≤ q) s.heap H1 locs1 → W p l e R s m args below meth c H1 locs1 cells slots Q (F0 m (pc + 3) ls (.int r :: rest))) : W p l e R s m args below meth c H locs cells slots Q (F0 m pc ls st0) :=
  sg_callV2i X hK hG hC hS hb (m_X11_rule_q l a0 h0 x1 hgi) h0 (k := 11) (ci := 11) rfl (C := RX11) (T := TX11) (N := 17) rfl wl_4_73 wl_1_1 wl_4_71 wl_4_72 (n := 1) (by decide +kernel) rfl rfl rfl hl hsize hst hW hR hf hdg kk

set_option maxHeartbeats 8000000 in
set_option maxRecDepth 100000 in
theorem m_X12_rule_e1 (l : Launch) {D : va_G} {base : Nat} {tys : List (ClassId × FieldType)} {ad ks : List Nat} {P : sgPm} (hp4 : P.2.2.2.2.1 = true) (a0 : Nat) (h0 : isK ad ks 12 a0) (x1 : Int32) (hru : ruOk (sgRw P)) : Met l yX12_rule (Cond.code yX12_rule cX12_rule 2 (some .int) :: sg_tbl) ({ frames := 1, cells := 0, slots := 0, locals := 25 }) (va_Pc [.ref a0, .int x1] (sgB (KT P) D vwCl base tys ad ks)) (va_Qi (fun r (u : Int32) => u = r ∧ (fun r : Int32 => True) r) (fun u t => u.toInt = sgRv 1 (sgRw P) x1.toInt ∧ sgB (KT P) D vwCl base tys ad ks t) (fun q : Nat => base ≤ q)) 0 0 (fun q : Nat => base ≤ q) := by
  refine sg_ofW (by decide +kernel) (Nat.le_of_ble_eq_true rfl) (fun p e s m below meth c X hr hlk hb hK hC hG ls hl => ?_)
  have hS : va_S (fun q : Nat => base ≤ q) s.heap s.heap [] := va_S.rf
  have hl : lv_has ls 2 [(0, .ref a0), (1, .int x1)] := hl
  refine lv_aload_n X.1 X.2.1 dX12_rule_0 rfl (lv_at hl 0 rfl) ?_
  refine lv_iconst (v := 0) X.1 X.2.1 dX12_rule_1 (by decide +kernel) ?_
  refine pf_X12_0 X hK hG hS h0 wl_6_178 ⟨_, rfl, (iv_top _)⟩ dX12_rule_2 (fun H locs hG hS ku1 ru1 => ?_)
  refine lv_aload_n X.1 X.2.1 dX12_rule_5 rfl (lv_at hl 0 rfl) ?_
  refine gf_X12_23s X hK hG h0 hp4 wl_6_201 dX12_rule_6 (fun f2 hf2 kf2 => ?_)
  refine lv_if_le (tgt := 33) X.1 X.2.1 dX12_rule_9 (by decide) (fun c3 => ?_) (fun c3 => ?_)
  · exact ((iv_no (iv_le (b' := 0) c3 hf2 (iv_c 0 (a := 0) (b := 0) (by decide +kernel)) (by decide +kernel)) (by decide +kernel))).elim
  · refine lv_iload_n X.1 X.2.1 dX12_rule_12 rfl (lv_at hl 1 rfl) ?_
    obtain ⟨g4, eg4⟩ : ∃ y : Int64, y = (x1 : Int32).toInt64 := ⟨_, rfl⟩
    refine lv_i2l (v := g4) X.1 X.2.1 dX12_rule_13 eg4.symm ?_
    refine lv_lconst (v := 0) X.1 X.2.1 dX12_rule_14 (by decide +kernel) ?_
    refine lv_ldc2 X.1 X.2.1 X.2.2.2.1 (X.2.2.2.2 _ wl_8_50) dX12_rule_15 ?_
    refine ca_X12_isIn_2 X hK hG hC (fun _ h => h) hS hb g4 0 5 wl_7_119 hl.1 (rest := []) rfl (Nat.le_of_ble_eq_true rfl) ⟨Nat.le_of_ble_eq_true rfl, Nat.le_of_ble_eq_true rfl⟩ ⟨Nat.le_of_ble_eq_true rfl, Nat.le_of_ble_eq_true rfl⟩ dX12_rule_18 (fun f5 locs hf5 hS => ?_)
    refine lv_if_eq (tgt := 33) X.1 X.2.1 dX12_rule_21 (by decide) (fun c6 => ?_) (fun c6 => ?_)
    · refine lv_iconst (v := (-1)) X.1 X.2.1 dX12_rule_33 (by decide +kernel) ?_
      exact sg_iret2 X hr hlk hS trivial (fun t ht hW => ⟨(show (-1 : Int32).toInt = -1 from by decide +kernel).trans (sgRv_n (Or.inr (sg_rvO hf5.2 eg4 (by decide +kernel) (by decide +kernel) c6))).symm, sg_post hb hK hC hG hS ht hW⟩) dX12_rule_34
    · refine lv_aload_n X.1 X.2.1 dX12_rule_24 rfl (lv_at hl 0 rfl) ?_
      refine gf_X12_18 X hK hG h0 wl_6_196 dX12_rule_25 (fun q7 hq7 kq7 => ?_)
      refine lv_iload_n X.1 X.2.1 dX12_rule_28 rfl (lv_at hl 1 rfl) ?_
      have hx05 : iv 0 5 x1 := rv_05 (sg_rvI hf5.2 eg4 (by decide +kernel) (by decide +kernel) c6)
      refine al_49 X hK hG hq7 (iv_vpin hx05 (by decide +kernel)) dX12_rule_29 (fun f8 hf8 => ?_)
      have of8 := hf8
      have hf8 : iv 0 8 f8 := sg_r2 hp4 hf8
      refine lv_goto (tgt := 34) X.1 X.2.1 dX12_rule_30 (by decide) ?_
      exact sg_iret2 X hr hlk hS trivial (fun t ht hW => ⟨(ru_at (j := x1.toNatClampNeg) hp4 of8 hru (rv_7 (sg_rvI hf5.2 eg4 (by decide +kernel) (by decide +kernel) c6))).trans (sgRv_y (c := 1) (f := sgRw P) (by decide) (sg_rvI hf5.2 eg4 (by decide +kernel) (by decide +kernel) c6).1 (sg_rvI hf5.2 eg4 (by decide +kernel) (by decide +kernel) c6).2).symm, sg_post hb hK hC hG hS ht hW⟩) dX12_rule_34

theorem ca_X12_rule_e1   (X : CallFix p m c cc nL s args sg_tbl own) (hK : va_K D vwCl tys s) (hG : sgG (KT P) D vwCl (fun q : Nat => base ≤ q) tys ad ks H) (hC : sgC base s) (hS : va_S (fun q : Nat => base ≤ q) s.heap H locs) (hb : base ≤ s.heap.size) (hp4 : P.2.2.2.2.1 = true) (a0 : Nat) (h0 : isK ad ks 12 a0) (x1 : Int32) (hru : ruOk (sgRw P)) (hl : Cond.methodLink own index yX12_rule ∈ sg_tbl) (hsize : ls.size = nL) (hst : st0 = [.int x1].reverse ++ .ref a0 :: rest) (hW : (rest.map fun v => v.category).sum ≤ 8) (hR : 2 ≤ R.frames ∧ 46 ≤ R.locals) (hf : cells ≤ R.cells ∧ slots ≤ R.slots) (hdg : decode cc pc = .ok (.invokevirtual index, 3)) (kk : ∀ (r : Int32) (t : State) (H1 : Heap) (locs1 : List Loc), t.heap = H1 → (fun r : Int32 => True) r → (r.toInt = sgRv 1 (sgRw P) x1.toInt ∧ sgB (KT P) D vwCl base tys ad ks t) → va_S (fun q : Nat => base ≤ q) s.heap H1 locs1 → W p l e R s m args below meth c H1 locs1 cells slots Q (F0 m (pc + 3) ls (.int r :: rest))) : W p l e R s m args below meth c H locs cells slots Q (F0 m pc ls st0) :=
  sg_callV2i X hK hG hC hS hb (m_X12_rule_e1 l hp4 a0 h0 x1 hru) h0 (k := 12) (ci := 12) rfl (C := RX12) (T := TX12) (N := 53) rfl wl_8_49 wl_1_13 wl_8_47 wl_8_48 (n := 1) (by decide +kernel) rfl rfl rfl hl hsize hst hW hR hf hdg kk

set_option maxHeartbeats 8000000 in
set_option maxRecDepth 100000 in
theorem m_X12_rule_e0 (l : Launch) {D : va_G} {base : Nat} {tys : List (ClassId × FieldType)} {ad ks : List Nat} {P : sgPm} (hp4 : P.2.2.2.2.1 = false) (a0 : Nat) (h0 : isK ad ks 12 a0) (x1 : Int32) : Met l yX12_rule (Cond.code yX12_rule cX12_rule 2 (some .int) :: sg_tbl) ({ frames := 0, cells := 0, slots := 0, locals := 0 }) (va_Pc [.ref a0, .int x1] (sgB (KT P) D vwCl base tys ad ks)) (va_Qi (fun r (u : Int32) => u = r ∧ (fun r : Int32 => True) r) (fun u t => u.toInt = -1 ∧ sgB (KT P) D vwCl base tys ad ks t) (fun q : Nat => base ≤ q)) 0 0 (fun q : Nat => base ≤ q) := by
  refine sg_ofW (by decide +kernel) (Nat.le_of_ble_eq_true rfl) (fun p e s m below meth c X hr hlk hb hK hC hG ls hl => ?_)
  have hS : va_S (fun q : Nat => base ≤ q) s.heap s.heap [] := va_S.rf
  have hl : lv_has ls 2 [(0, .ref a0), (1, .int x1)] := hl
  refine lv_aload_n X.1 X.2.1 dX12_rule_0 rfl (lv_at hl 0 rfl) ?_
  refine lv_iconst (v := 0) X.1 X.2.1 dX12_rule_1 (by decide +kernel) ?_
  refine pf_X12_0 X hK hG hS h0 wl_6_178 ⟨_, rfl, (iv_top _)⟩ dX12_rule_2 (fun H locs hG hS ku1 ru1 => ?_)
  refine lv_aload_n X.1 X.2.1 dX12_rule_5 rfl (lv_at hl 0 rfl) ?_
  refine gf_X12_23n X hK hG h0 hp4 wl_6_201 dX12_rule_6 (fun f2 hf2 kf2 => ?_)
  refine lv_if_le (tgt := 33) X.1 X.2.1 dX12_rule_9 (by decide) (fun c3 => ?_) (fun c3 => ?_)
  · refine lv_iconst (v := (-1)) X.1 X.2.1 dX12_rule_33 (by decide +kernel) ?_
    exact sg_iret2 X hr hlk hS trivial (fun t ht hW => ⟨by decide +kernel, sg_post hb hK hC hG hS ht hW⟩) dX12_rule_34
  · exact ((iv_no (iv_lt (b' := (-1)) (iv_gt_of c3) (iv_c 0 (a := 0) (b := 0) (by decide +kernel)) hf2 (by decide +kernel)) (by decide +kernel))).elim

theorem ca_X12_rule_e0   (X : CallFix p m c cc nL s args sg_tbl own) (hK : va_K D vwCl tys s) (hG : sgG (KT P) D vwCl (fun q : Nat => base ≤ q) tys ad ks H) (hC : sgC base s) (hS : va_S (fun q : Nat => base ≤ q) s.heap H locs) (hb : base ≤ s.heap.size) (hp4 : P.2.2.2.2.1 = false) (a0 : Nat) (h0 : isK ad ks 12 a0) (x1 : Int32) (hl : Cond.methodLink own index yX12_rule ∈ sg_tbl) (hsize : ls.size = nL) (hst : st0 = [.int x1].reverse ++ .ref a0 :: rest) (hW : (rest.map fun v => v.category).sum ≤ 8) (hR : 1 ≤ R.frames ∧ 21 ≤ R.locals) (hf : cells ≤ R.cells ∧ slots ≤ R.slots) (hdg : decode cc pc = .ok (.invokevirtual index, 3)) (kk : ∀ (r : Int32) (t : State) (H1 : Heap) (locs1 : List Loc), t.heap = H1 → (fun r : Int32 => True) r → (r.toInt = -1 ∧ sgB (KT P) D vwCl base tys ad ks t) → va_S (fun q : Nat => base ≤ q) s.heap H1 locs1 → W p l e R s m args below meth c H1 locs1 cells slots Q (F0 m (pc + 3) ls (.int r :: rest))) : W p l e R s m args below meth c H locs cells slots Q (F0 m pc ls st0) :=
  sg_callV2i X hK hG hC hS hb (m_X12_rule_e0 l hp4 a0 h0 x1) h0 (k := 12) (ci := 12) rfl (C := RX12) (T := TX12) (N := 53) rfl wl_8_49 wl_1_13 wl_8_47 wl_8_48 (n := 1) (by decide +kernel) rfl rfl rfl hl hsize hst hW hR hf hdg kk
end
