
section
variable {p : Program} {l : Launch} {e : Env} {R : Room} {s : State} {m : MethodId} {args : Array Value} {below : List Frame} {meth : Method} {c : Code} {H : Heap} {locs : List Loc} {cells slots : Nat} {Q : State → Prop} {cc : ByteArray} {nL pc : Nat} {ls : Array Slot} {rest : List Value} {own : String} {D : va_G} {A : Nat → Prop} {tys : List (ClassId × FieldType)} {ad ks : List Nat} {P : sgPm} {H0 : Heap} {index : Nat} {base : Nat} {st0 : List Value} {a : Nat}

set_option maxHeartbeats 8000000 in
set_option maxRecDepth 100000 in
theorem m_X12_fault_e0 (l : Launch) {D : va_G} {base : Nat} {tys : List (ClassId × FieldType)} {ad ks : List Nat} {P : sgPm} (a0 : Nat) (h0 : isK ad ks 12 a0) (x1 : Int32) (h1 : iv 0 0 x1) (hl0 : 0 ≤ sgL2 P ∧ sgL2 P ≤ 240) (hby : sgBy2 P) : Met l yX12_fault (Cond.code yX12_fault cX12_fault 2 (some .int) :: sg_tbl) ({ frames := 8, cells := 0, slots := 0, locals := 176 }) (va_Pc [.ref a0, .int x1] (sgB (KT P) D vwCl base tys ad ks)) (va_Qi (fun r (u : Int32) => u = r ∧ (fun r : Int32 => True) r) (fun u t => (u.toInt = -1 ∧ (∃ q1 : sgLwn, lnTr (sgU2 P) (sgL2 P) q1 ∧ sgB (KN q1.1 P) D vwCl base tys ad ks t)) ∨ (∃ (ok : Bool) (w : Int) (q1 : sgLwn), vLnM (sgU2 P) (sgL2 P) lw0 (vX (sgU2 P) (sgL2 P) 0) = (ok, w, q1) ∧ (ok = false ∨ ¬ (vC (sgU2 P) (sgL2 P) w = 0 ∧ lwOk q1)) ∧ 0 ≤ w ∧ w ≤ 240 ∧ u.toInt = w ∧ sgB (KT P) D vwCl base tys ad ks t)) (fun q : Nat => base ≤ q)) 0 0 (fun q : Nat => base ≤ q) := by
  refine sg_ofW (by decide +kernel) (Nat.le_of_ble_eq_true rfl) (fun p e s m below meth c X hr hlk hb hK hC hG ls hl => ?_)
  have hS : va_S (fun q : Nat => base ≤ q) s.heap s.heap [] := va_S.rf
  have hl : lv_has ls 2 [(0, .ref a0), (1, .int x1)] := hl
  refine lv_aload_n X.1 X.2.1 dX12_fault_0 rfl (lv_at hl 0 rfl) ?_
  refine lv_iconst (v := 0) X.1 X.2.1 dX12_fault_1 (by decide +kernel) ?_
  refine pf_X12_0 X hK hG hS h0 wl_6_178 ⟨_, rfl, (iv_top _)⟩ dX12_fault_2 (fun H locs hG hS ku1 ru1 => ?_)
  refine lv_iload_n X.1 X.2.1 dX12_fault_5 rfl (lv_at hl 1 rfl) ?_
  obtain ⟨g2, eg2⟩ : ∃ y : Int64, y = (x1 : Int32).toInt64 := ⟨_, rfl⟩
  refine lv_i2l (v := g2) X.1 X.2.1 dX12_fault_6 eg2.symm ?_
  refine lv_lconst (v := 0) X.1 X.2.1 dX12_fault_7 (by decide +kernel) ?_
  refine lv_ldc2 X.1 X.2.1 X.2.2.2.1 (X.2.2.2.2 _ wl_7_118) dX12_fault_8 ?_
  refine ca_X12_isIn_e X hK hG hC (fun _ h => h) hS hb g2 0 2 wl_7_119 hl.1 (rest := []) rfl (Nat.le_of_ble_eq_true rfl) ⟨Nat.le_of_ble_eq_true rfl, Nat.le_of_ble_eq_true rfl⟩ ⟨Nat.le_of_ble_eq_true rfl, Nat.le_of_ble_eq_true rfl⟩ dX12_fault_11 (fun f3 locs hf3 hS => ?_)
  refine lv_if_ne (tgt := 20) X.1 X.2.1 dX12_fault_14 (by decide) (fun c4 => ?_) (fun c4 => ?_)
  · refine lv_iload_n X.1 X.2.1 dX12_fault_20 rfl (lv_at hl 1 rfl) ?_
    refine lv_if_ne (tgt := 28) X.1 X.2.1 dX12_fault_21 (by decide) (fun c5 => ?_) (fun c5 => ?_)
    · have i6 : (x1.toInt = (0 : Int)) = False := vq_ne c5 rfl (by decide +kernel)
      exact ((c5 (iv_one h1 (iv_c 0 (a := 0) (b := 0) (by decide +kernel)) (by decide +kernel)))).elim
    · have i7 : x1.toInt = (0 : Int) := vq_eq c5 rfl (by decide +kernel)
      refine lv_aload_n X.1 X.2.1 dX12_fault_24 rfl (lv_at hl 0 rfl) ?_
      refine ca_X12_readLawn_e X hK hG hC hS hb a0 h0 hl0 hby wl_7_122 hl.1 (rest := []) rfl (Nat.le_of_ble_eq_true rfl) ⟨Nat.le_of_ble_eq_true rfl, Nat.le_of_ble_eq_true rfl⟩ ⟨Nat.le_of_ble_eq_true rfl, Nat.le_of_ble_eq_true rfl⟩ dX12_fault_25 (fun tg8 H locs htg8 hWg8 hS => ?_)
      rcases hWg8 with ⟨av9, qv9, ov9, pv9, cv9, kv9, rv9, gav9, gbv9, hBg8⟩ | ⟨okv9, wv9, qv9, zv9, pv9, nv9, w1v9, w2v9, hBg8⟩
      · have hG := hBg8.2.2.2
        rw [htg8] at hG
        refine lv_iload_n X.1 X.2.1 dX12_fault_28 rfl (lv_at hl 1 rfl) ?_
        refine lv_iconst (v := 1) X.1 X.2.1 dX12_fault_29 (by decide +kernel) ?_
        refine lv_icmp_ne (tgt := 46) X.1 X.2.1 dX12_fault_30 (by decide) (fun c10 => ?_) (fun c10 => ?_)
        · have i11 : (x1.toInt = (1 : Int)) = False := vq_ne c10 rfl (by decide +kernel)
          refine lv_iload_n X.1 X.2.1 dX12_fault_46 rfl (lv_at hl 1 rfl) ?_
          refine lv_iconst (v := 2) X.1 X.2.1 dX12_fault_47 (by decide +kernel) ?_
          refine lv_icmp_ne (tgt := 55) X.1 X.2.1 dX12_fault_48 (by decide) (fun c13 => ?_) (fun c13 => ?_)
          · have i14 : (x1.toInt = (2 : Int)) = False := vq_ne c13 rfl (by decide +kernel)
            refine lv_aload_n X.1 X.2.1 dX12_fault_55 rfl (lv_at hl 0 rfl) ?_
            refine gf_X12_11e X hK hG h0 wl_6_189 dX12_fault_56 (fun f16 hf16 => ?_)
            have hG := ke_toKN hG (by decide) (by decide) (by decide) (by decide)
            exact sg_iret2 X hr hlk hS trivial (fun t ht hW => (Or.inl ⟨(vq_iv hf16), _, ⟨_, pv9, cv9, kv9⟩, sg_post hb hK hC hG hS ht hW⟩)) dX12_fault_59
          · have i15 : x1.toInt = (2 : Int) := vq_eq c13 rfl (by decide +kernel)
            exact ((iv_no (a := 2) (b := 0) (iv_eqm c13 h1 (iv_c 2 (a := 2) (b := 2) (by decide +kernel)) (by decide +kernel)) (by decide +kernel))).elim
        · have i12 : x1.toInt = (1 : Int) := vq_eq c10 rfl (by decide +kernel)
          exact ((iv_no (a := 1) (b := 0) (iv_eqm c10 h1 (iv_c 1 (a := 1) (b := 1) (by decide +kernel)) (by decide +kernel)) (by decide +kernel))).elim
      · have hG := hBg8.2.2.2
        rw [htg8] at hG
        refine lv_iload_n X.1 X.2.1 dX12_fault_28 rfl (lv_at hl 1 rfl) ?_
        refine lv_iconst (v := 1) X.1 X.2.1 dX12_fault_29 (by decide +kernel) ?_
        refine lv_icmp_ne (tgt := 46) X.1 X.2.1 dX12_fault_30 (by decide) (fun c17 => ?_) (fun c17 => ?_)
        · have i18 : (x1.toInt = (1 : Int)) = False := vq_ne c17 rfl (by decide +kernel)
          refine lv_iload_n X.1 X.2.1 dX12_fault_46 rfl (lv_at hl 1 rfl) ?_
          refine lv_iconst (v := 2) X.1 X.2.1 dX12_fault_47 (by decide +kernel) ?_
          refine lv_icmp_ne (tgt := 55) X.1 X.2.1 dX12_fault_48 (by decide) (fun c20 => ?_) (fun c20 => ?_)
          · have i21 : (x1.toInt = (2 : Int)) = False := vq_ne c20 rfl (by decide +kernel)
            refine lv_aload_n X.1 X.2.1 dX12_fault_55 rfl (lv_at hl 0 rfl) ?_
            refine gf_X12_11e X hK hG h0 wl_6_189 dX12_fault_56 (fun f23 hf23 => ?_)
            have xf23 : f23.toInt = wv9 := vq_iv hf23
            have yf23 : iv 0 240 f23 := vq_of xf23 (And.intro w1v9 w2v9)
            have hG := ke_toKT hG (vq_bwlo (And.intro w1v9 w2v9)) (vq_bwhi (And.intro w1v9 w2v9)) (by decide) (by decide)
            exact sg_iret2 X hr hlk hS trivial (fun t ht hW => (Or.inr ⟨_, _, _, pv9, nv9, w1v9, w2v9, xf23, sg_post hb hK hC hG hS ht hW⟩)) dX12_fault_59
          · have i22 : x1.toInt = (2 : Int) := vq_eq c20 rfl (by decide +kernel)
            exact ((iv_no (a := 2) (b := 0) (iv_eqm c20 h1 (iv_c 2 (a := 2) (b := 2) (by decide +kernel)) (by decide +kernel)) (by decide +kernel))).elim
        · have i19 : x1.toInt = (1 : Int) := vq_eq c17 rfl (by decide +kernel)
          exact ((iv_no (a := 1) (b := 0) (iv_eqm c17 h1 (iv_c 1 (a := 1) (b := 1) (by decide +kernel)) (by decide +kernel)) (by decide +kernel))).elim
  · exact absurd (vq_so0 (b := 0) (c := 2) (vq_says0 hf3 c4) eg2 (by decide +kernel) (by decide +kernel)) (by have z1 := h1.1; have z2 := h1.2; omega)

theorem ca_X12_fault_e0   (X : CallFix p m c cc nL s args sg_tbl own) (hK : va_K D vwCl tys s) (hG : sgG (KT P) D vwCl (fun q : Nat => base ≤ q) tys ad ks H) (hC : sgC base s) (hS : va_S (fun q : Nat => base ≤ q) s.heap H locs) (hb : base ≤ s.heap.size) (a0 : Nat) (h0 : isK ad ks 12 a0) (x1 : Int32) (h1 : iv 0 0 x1) (hl0 : 0 ≤ sgL2 P ∧ sgL2 P ≤ 240) (hby : sgBy2 P) (hl : Cond.methodLink own index yX12_fault ∈ sg_tbl) (hsize : ls.size = nL) (hst : st0 = [.int x1].reverse ++ .ref a0 :: rest) (hW : (rest.map fun v => v.category).sum ≤ 8) (hR : 9 ≤ R.frames ∧ 197 ≤ R.locals) (hf : cells ≤ R.cells ∧ slots ≤ R.slots) (hdg : decode cc pc = .ok (.invokevirtual index, 3)) (kk : ∀ (r : Int32) (t : State) (H1 : Heap) (locs1 : List Loc), t.heap = H1 → (fun r : Int32 => True) r → ((r.toInt = -1 ∧ (∃ q1 : sgLwn, lnTr (sgU2 P) (sgL2 P) q1 ∧ sgB (KN q1.1 P) D vwCl base tys ad ks t)) ∨ (∃ (ok : Bool) (w : Int) (q1 : sgLwn), vLnM (sgU2 P) (sgL2 P) lw0 (vX (sgU2 P) (sgL2 P) 0) = (ok, w, q1) ∧ (ok = false ∨ ¬ (vC (sgU2 P) (sgL2 P) w = 0 ∧ lwOk q1)) ∧ 0 ≤ w ∧ w ≤ 240 ∧ r.toInt = w ∧ sgB (KT P) D vwCl base tys ad ks t)) → va_S (fun q : Nat => base ≤ q) s.heap H1 locs1 → W p l e R s m args below meth c H1 locs1 cells slots Q (F0 m (pc + 3) ls (.int r :: rest))) : W p l e R s m args below meth c H locs cells slots Q (F0 m pc ls st0) :=
  sg_callV2i X hK hG hC hS hb (m_X12_fault_e0 l a0 h0 x1 h1 hl0 hby) h0 (k := 12) (ci := 12) rfl (C := RX12) (T := TX12) (N := 53) rfl wl_7_117 wl_1_13 wl_7_115 wl_7_116 (n := 1) (by decide +kernel) rfl rfl rfl hl hsize hst hW hR hf hdg kk

set_option maxHeartbeats 8000000 in
set_option maxRecDepth 100000 in
theorem m_X12_fault_e1 (l : Launch) {D : va_G} {base : Nat} {tys : List (ClassId × FieldType)} {ad ks : List Nat} {P : sgPm} (a0 : Nat) (h0 : isK ad ks 12 a0) (x1 : Int32) (h1 : iv 1 1 x1) (hl0 : 0 ≤ sgL2 P ∧ sgL2 P ≤ 240) (hby : sgBy2 P) : Met l yX12_fault (Cond.code yX12_fault cX12_fault 2 (some .int) :: sg_tbl) ({ frames := 32, cells := 0, slots := 0, locals := 746 }) (va_Pc [.ref a0, .int x1] (sgB (KT P) D vwCl base tys ad ks)) (va_Qi (fun r (u : Int32) => u = r ∧ (fun r : Int32 => True) r) (fun u t => (u.toInt = -1 ∧ (∃ a1 : Int, vLawM (sgU2 P) (sgL2 P) = (true, a1)) ∧ sgB (KT P) D vwCl base tys ad ks t) ∨ (∃ w : Int, vLawM (sgU2 P) (sgL2 P) = (false, w) ∧ 0 ≤ w ∧ w ≤ 240 ∧ u.toInt = w ∧ sgB (KT P) D vwCl base tys ad ks t)) (fun q : Nat => base ≤ q)) 0 0 (fun q : Nat => base ≤ q) := by
  refine sg_ofW (by decide +kernel) (Nat.le_of_ble_eq_true rfl) (fun p e s m below meth c X hr hlk hb hK hC hG ls hl => ?_)
  have hS : va_S (fun q : Nat => base ≤ q) s.heap s.heap [] := va_S.rf
  have hl : lv_has ls 2 [(0, .ref a0), (1, .int x1)] := hl
  refine lv_aload_n X.1 X.2.1 dX12_fault_0 rfl (lv_at hl 0 rfl) ?_
  refine lv_iconst (v := 0) X.1 X.2.1 dX12_fault_1 (by decide +kernel) ?_
  refine pf_X12_0 X hK hG hS h0 wl_6_178 ⟨_, rfl, (iv_top _)⟩ dX12_fault_2 (fun H locs hG hS ku1 ru1 => ?_)
  refine lv_iload_n X.1 X.2.1 dX12_fault_5 rfl (lv_at hl 1 rfl) ?_
  obtain ⟨g2, eg2⟩ : ∃ y : Int64, y = (x1 : Int32).toInt64 := ⟨_, rfl⟩
  refine lv_i2l (v := g2) X.1 X.2.1 dX12_fault_6 eg2.symm ?_
  refine lv_lconst (v := 0) X.1 X.2.1 dX12_fault_7 (by decide +kernel) ?_
  refine lv_ldc2 X.1 X.2.1 X.2.2.2.1 (X.2.2.2.2 _ wl_7_118) dX12_fault_8 ?_
  refine ca_X12_isIn_e X hK hG hC (fun _ h => h) hS hb g2 0 2 wl_7_119 hl.1 (rest := []) rfl (Nat.le_of_ble_eq_true rfl) ⟨Nat.le_of_ble_eq_true rfl, Nat.le_of_ble_eq_true rfl⟩ ⟨Nat.le_of_ble_eq_true rfl, Nat.le_of_ble_eq_true rfl⟩ dX12_fault_11 (fun f3 locs hf3 hS => ?_)
  refine lv_if_ne (tgt := 20) X.1 X.2.1 dX12_fault_14 (by decide) (fun c4 => ?_) (fun c4 => ?_)
  · refine lv_iload_n X.1 X.2.1 dX12_fault_20 rfl (lv_at hl 1 rfl) ?_
    refine lv_if_ne (tgt := 28) X.1 X.2.1 dX12_fault_21 (by decide) (fun c5 => ?_) (fun c5 => ?_)
    · have i6 : (x1.toInt = (0 : Int)) = False := vq_ne c5 rfl (by decide +kernel)
      refine lv_iload_n X.1 X.2.1 dX12_fault_28 rfl (lv_at hl 1 rfl) ?_
      refine lv_iconst (v := 1) X.1 X.2.1 dX12_fault_29 (by decide +kernel) ?_
      refine lv_icmp_ne (tgt := 46) X.1 X.2.1 dX12_fault_30 (by decide) (fun c8 => ?_) (fun c8 => ?_)
      · have i9 : (x1.toInt = (1 : Int)) = False := vq_ne c8 rfl (by decide +kernel)
        exact ((c8 (iv_one h1 (iv_c 1 (a := 1) (b := 1) (by decide +kernel)) (by decide +kernel)))).elim
      · have i10 : x1.toInt = (1 : Int) := vq_eq c8 rfl (by decide +kernel)
        refine lv_aload_n X.1 X.2.1 dX12_fault_33 rfl (lv_at hl 0 rfl) ?_
        refine lv_aload_n X.1 X.2.1 dX12_fault_34 rfl (lv_at hl 0 rfl) ?_
        refine gf_X12_1 X hK hG h0 wl_6_179 dX12_fault_35 (fun q11 hq11 kq11 => ?_)
        refine lv_iconst (v := 0) X.1 X.2.1 dX12_fault_38 (by decide +kernel) ?_
        refine lv_aload_n X.1 X.2.1 dX12_fault_39 rfl (lv_at hl 0 rfl) ?_
        refine gf_X12_6 X hK hG h0 wl_6_184 dX12_fault_40 (fun f12 hf12 pf12 kf12 => ?_)
        have xf12 : f12.toInt = sgL2 P := sgC240_eq pf12 hl0.1 hl0.2
        refine ca_X12_goThrough_e X hK hG hC hS hb a0 h0 q11 hq11 0 (iv_c 0 (a := 0) (b := 0) (by decide +kernel)) f12 hf12 hl0 hby xf12 wl_7_206 hl.1 (rest := []) rfl (Nat.le_of_ble_eq_true rfl) ⟨Nat.le_of_ble_eq_true rfl, Nat.le_of_ble_eq_true rfl⟩ ⟨Nat.le_of_ble_eq_true rfl, Nat.le_of_ble_eq_true rfl⟩ dX12_fault_43 (fun tg13 H locs htg13 hWg13 hS => ?_)
        rcases hWg13 with ⟨av14, pv14, gav14, gbv14, hBg13⟩ | ⟨wv14, pv14, w1v14, w2v14, hBg13⟩
        · have hG := hBg13.2.2.2
          rw [htg13] at hG
          refine lv_iload_n X.1 X.2.1 dX12_fault_46 rfl (lv_at hl 1 rfl) ?_
          refine lv_iconst (v := 2) X.1 X.2.1 dX12_fault_47 (by decide +kernel) ?_
          refine lv_icmp_ne (tgt := 55) X.1 X.2.1 dX12_fault_48 (by decide) (fun c15 => ?_) (fun c15 => ?_)
          · have i16 : (x1.toInt = (2 : Int)) = False := vq_ne c15 rfl (by decide +kernel)
            refine lv_aload_n X.1 X.2.1 dX12_fault_55 rfl (lv_at hl 0 rfl) ?_
            refine gf_X12_11e X hK hG h0 wl_6_189 dX12_fault_56 (fun f18 hf18 => ?_)
            have hG := ke_toKT hG (by decide) (by decide) (by decide) (by decide)
            exact sg_iret2 X hr hlk hS trivial (fun t ht hW => (Or.inl ⟨(vq_iv hf18), ⟨_, pv14⟩, sg_post hb hK hC hG hS ht hW⟩)) dX12_fault_59
          · have i17 : x1.toInt = (2 : Int) := vq_eq c15 rfl (by decide +kernel)
            exact ((iv_no (a := 2) (b := 1) (iv_eqm c15 h1 (iv_c 2 (a := 2) (b := 2) (by decide +kernel)) (by decide +kernel)) (by decide +kernel))).elim
        · have hG := hBg13.2.2.2
          rw [htg13] at hG
          refine lv_iload_n X.1 X.2.1 dX12_fault_46 rfl (lv_at hl 1 rfl) ?_
          refine lv_iconst (v := 2) X.1 X.2.1 dX12_fault_47 (by decide +kernel) ?_
          refine lv_icmp_ne (tgt := 55) X.1 X.2.1 dX12_fault_48 (by decide) (fun c19 => ?_) (fun c19 => ?_)
          · have i20 : (x1.toInt = (2 : Int)) = False := vq_ne c19 rfl (by decide +kernel)
            refine lv_aload_n X.1 X.2.1 dX12_fault_55 rfl (lv_at hl 0 rfl) ?_
            refine gf_X12_11e X hK hG h0 wl_6_189 dX12_fault_56 (fun f22 hf22 => ?_)
            have xf22 : f22.toInt = wv14 := vq_iv hf22
            have yf22 : iv 0 240 f22 := vq_of xf22 (And.intro w1v14 w2v14)
            have hG := ke_toKT hG (vq_bwlo (And.intro w1v14 w2v14)) (vq_bwhi (And.intro w1v14 w2v14)) (by decide) (by decide)
            exact sg_iret2 X hr hlk hS trivial (fun t ht hW => (Or.inr ⟨_, pv14, ((And.intro w1v14 w2v14)).1, ((And.intro w1v14 w2v14)).2, xf22, sg_post hb hK hC hG hS ht hW⟩)) dX12_fault_59
          · have i21 : x1.toInt = (2 : Int) := vq_eq c19 rfl (by decide +kernel)
            exact ((iv_no (a := 2) (b := 1) (iv_eqm c19 h1 (iv_c 2 (a := 2) (b := 2) (by decide +kernel)) (by decide +kernel)) (by decide +kernel))).elim
    · have i7 : x1.toInt = (0 : Int) := vq_eq c5 rfl (by decide +kernel)
      exact ((iv_no (a := 1) (b := 0) (iv_eqm c5 h1 (iv_c 0 (a := 0) (b := 0) (by decide +kernel)) (by decide +kernel)) (by decide +kernel))).elim
  · exact absurd (vq_so0 (b := 0) (c := 2) (vq_says0 hf3 c4) eg2 (by decide +kernel) (by decide +kernel)) (by have z1 := h1.1; have z2 := h1.2; omega)

theorem ca_X12_fault_e1   (X : CallFix p m c cc nL s args sg_tbl own) (hK : va_K D vwCl tys s) (hG : sgG (KT P) D vwCl (fun q : Nat => base ≤ q) tys ad ks H) (hC : sgC base s) (hS : va_S (fun q : Nat => base ≤ q) s.heap H locs) (hb : base ≤ s.heap.size) (a0 : Nat) (h0 : isK ad ks 12 a0) (x1 : Int32) (h1 : iv 1 1 x1) (hl0 : 0 ≤ sgL2 P ∧ sgL2 P ≤ 240) (hby : sgBy2 P) (hl : Cond.methodLink own index yX12_fault ∈ sg_tbl) (hsize : ls.size = nL) (hst : st0 = [.int x1].reverse ++ .ref a0 :: rest) (hW : (rest.map fun v => v.category).sum ≤ 8) (hR : 33 ≤ R.frames ∧ 767 ≤ R.locals) (hf : cells ≤ R.cells ∧ slots ≤ R.slots) (hdg : decode cc pc = .ok (.invokevirtual index, 3)) (kk : ∀ (r : Int32) (t : State) (H1 : Heap) (locs1 : List Loc), t.heap = H1 → (fun r : Int32 => True) r → ((r.toInt = -1 ∧ (∃ a1 : Int, vLawM (sgU2 P) (sgL2 P) = (true, a1)) ∧ sgB (KT P) D vwCl base tys ad ks t) ∨ (∃ w : Int, vLawM (sgU2 P) (sgL2 P) = (false, w) ∧ 0 ≤ w ∧ w ≤ 240 ∧ r.toInt = w ∧ sgB (KT P) D vwCl base tys ad ks t)) → va_S (fun q : Nat => base ≤ q) s.heap H1 locs1 → W p l e R s m args below meth c H1 locs1 cells slots Q (F0 m (pc + 3) ls (.int r :: rest))) : W p l e R s m args below meth c H locs cells slots Q (F0 m pc ls st0) :=
  sg_callV2i X hK hG hC hS hb (m_X12_fault_e1 l a0 h0 x1 h1 hl0 hby) h0 (k := 12) (ci := 12) rfl (C := RX12) (T := TX12) (N := 53) rfl wl_7_117 wl_1_13 wl_7_115 wl_7_116 (n := 1) (by decide +kernel) rfl rfl rfl hl hsize hst hW hR hf hdg kk

set_option maxHeartbeats 8000000 in
set_option maxRecDepth 100000 in
theorem m_X12_fault_e2 (l : Launch) {D : va_G} {base : Nat} {tys : List (ClassId × FieldType)} {ad ks : List Nat} {P : sgPm} (a0 : Nat) (h0 : isK ad ks 12 a0) (x1 : Int32) (h1 : iv 2 2 x1) (hl0 : 0 ≤ sgL2 P ∧ sgL2 P ≤ 240) (hby : sgBy2 P) : Met l yX12_fault (Cond.code yX12_fault cX12_fault 2 (some .int) :: sg_tbl) ({ frames := 7, cells := 0, slots := 0, locals := 152 }) (va_Pc [.ref a0, .int x1] (sgB (KT P) D vwCl base tys ad ks)) (va_Qi (fun r (u : Int32) => u = r ∧ (fun r : Int32 => True) r) (fun u t => (u.toInt = -1 ∧ ∃ (k9 : Nat) (f9 : Nat → Int × Int) (c9 : Int × Int), gK (sgU2 P) (sgL2 P) k9 ∧ c9 = ((k9 : Int), (k9 : Int)) ∧ (∀ j : Nat, j < k9 → mqAt f9 (256 + 4 * j) (gmT (sgU2 P) (sgL2 P) j)) ∧ (∃ a1 : Int, vGame (sgU2 P) (sgL2 P) = (true, a1)) ∧ sgB (KQ f9 c9 P) D vwCl base tys ad ks t) ∨ (∃ w : Int, vGame (sgU2 P) (sgL2 P) = (false, w) ∧ 0 ≤ w ∧ w ≤ 240 ∧ u.toInt = w ∧ sgB (KT P) D vwCl base tys ad ks t)) (fun q : Nat => base ≤ q)) 0 0 (fun q : Nat => base ≤ q) := by
  refine sg_ofW (by decide +kernel) (Nat.le_of_ble_eq_true rfl) (fun p e s m below meth c X hr hlk hb hK hC hG ls hl => ?_)
  have hS : va_S (fun q : Nat => base ≤ q) s.heap s.heap [] := va_S.rf
  have hl : lv_has ls 2 [(0, .ref a0), (1, .int x1)] := hl
  refine lv_aload_n X.1 X.2.1 dX12_fault_0 rfl (lv_at hl 0 rfl) ?_
  refine lv_iconst (v := 0) X.1 X.2.1 dX12_fault_1 (by decide +kernel) ?_
  refine pf_X12_0 X hK hG hS h0 wl_6_178 ⟨_, rfl, (iv_top _)⟩ dX12_fault_2 (fun H locs hG hS ku1 ru1 => ?_)
  refine lv_iload_n X.1 X.2.1 dX12_fault_5 rfl (lv_at hl 1 rfl) ?_
  obtain ⟨g2, eg2⟩ : ∃ y : Int64, y = (x1 : Int32).toInt64 := ⟨_, rfl⟩
  refine lv_i2l (v := g2) X.1 X.2.1 dX12_fault_6 eg2.symm ?_
  refine lv_lconst (v := 0) X.1 X.2.1 dX12_fault_7 (by decide +kernel) ?_
  refine lv_ldc2 X.1 X.2.1 X.2.2.2.1 (X.2.2.2.2 _ wl_7_118) dX12_fault_8 ?_
  refine ca_X12_isIn_e X hK hG hC (fun _ h => h) hS hb g2 0 2 wl_7_119 hl.1 (rest := []) rfl (Nat.le_of_ble_eq_true rfl) ⟨Nat.le_of_ble_eq_true rfl, Nat.le_of_ble_eq_true rfl⟩ ⟨Nat.le_of_ble_eq_true rfl, Nat.le_of_ble_eq_true rfl⟩ dX12_fault_11 (fun f3 locs hf3 hS => ?_)
  refine lv_if_ne (tgt := 20) X.1 X.2.1 dX12_fault_14 (by decide) (fun c4 => ?_) (fun c4 => ?_)
  · refine lv_iload_n X.1 X.2.1 dX12_fault_20 rfl (lv_at hl 1 rfl) ?_
    refine lv_if_ne (tgt := 28) X.1 X.2.1 dX12_fault_21 (by decide) (fun c5 => ?_) (fun c5 => ?_)
    · have i6 : (x1.toInt = (0 : Int)) = False := vq_ne c5 rfl (by decide +kernel)
      refine lv_iload_n X.1 X.2.1 dX12_fault_28 rfl (lv_at hl 1 rfl) ?_
      refine lv_iconst (v := 1) X.1 X.2.1 dX12_fault_29 (by decide +kernel) ?_
      refine lv_icmp_ne (tgt := 46) X.1 X.2.1 dX12_fault_30 (by decide) (fun c8 => ?_) (fun c8 => ?_)
      · have i9 : (x1.toInt = (1 : Int)) = False := vq_ne c8 rfl (by decide +kernel)
        refine lv_iload_n X.1 X.2.1 dX12_fault_46 rfl (lv_at hl 1 rfl) ?_
        refine lv_iconst (v := 2) X.1 X.2.1 dX12_fault_47 (by decide +kernel) ?_
        refine lv_icmp_ne (tgt := 55) X.1 X.2.1 dX12_fault_48 (by decide) (fun c11 => ?_) (fun c11 => ?_)
        · have i12 : (x1.toInt = (2 : Int)) = False := vq_ne c11 rfl (by decide +kernel)
          exact ((c11 (iv_one h1 (iv_c 2 (a := 2) (b := 2) (by decide +kernel)) (by decide +kernel)))).elim
        · have i13 : x1.toInt = (2 : Int) := vq_eq c11 rfl (by decide +kernel)
          refine lv_aload_n X.1 X.2.1 dX12_fault_51 rfl (lv_at hl 0 rfl) ?_
          refine ca_X12_readGame_m X hK hG hC hS hb a0 h0 hl0 hby wl_8_27 hl.1 (rest := []) rfl (Nat.le_of_ble_eq_true rfl) ⟨Nat.le_of_ble_eq_true rfl, Nat.le_of_ble_eq_true rfl⟩ ⟨Nat.le_of_ble_eq_true rfl, Nat.le_of_ble_eq_true rfl⟩ dX12_fault_52 (fun tg14 H locs htg14 hWg14 hS => ?_)
          rcases hWg14 with ⟨av15, kv15, zv15, pv15, gkv15, gcv15, gtv15, gav15, gbv15, hBg14⟩ | ⟨wv15, zv15, pv15, w1v15, w2v15, hBg14⟩
          · have hG := hBg14.2.2.2
            rw [htg14] at hG
            refine lv_aload_n X.1 X.2.1 dX12_fault_55 rfl (lv_at hl 0 rfl) ?_
            refine gf_X12_11e X hK hG h0 wl_6_189 dX12_fault_56 (fun f16 hf16 => ?_)
            have hG := ke_toKQ hG (by decide) (by decide) (by decide) (by decide)
            exact sg_iret2 X hr hlk hS trivial (fun t ht hW => (Or.inl ⟨(vq_iv hf16), _, _, _, gkv15, gcv15, gtv15, ⟨_, pv15⟩, sg_post hb hK hC hG hS ht hW⟩)) dX12_fault_59
          · have hG := hBg14.2.2.2
            rw [htg14] at hG
            refine lv_aload_n X.1 X.2.1 dX12_fault_55 rfl (lv_at hl 0 rfl) ?_
            refine gf_X12_11e X hK hG h0 wl_6_189 dX12_fault_56 (fun f17 hf17 => ?_)
            have xf17 : f17.toInt = wv15 := vq_iv hf17
            have yf17 : iv 0 240 f17 := vq_of xf17 (And.intro w1v15 w2v15)
            have hG := ke_toKT hG (vq_bwlo (And.intro w1v15 w2v15)) (vq_bwhi (And.intro w1v15 w2v15)) (by decide) (by decide)
            exact sg_iret2 X hr hlk hS trivial (fun t ht hW => (Or.inr ⟨_, pv15, ((And.intro w1v15 w2v15)).1, ((And.intro w1v15 w2v15)).2, xf17, sg_post hb hK hC hG hS ht hW⟩)) dX12_fault_59
      · have i10 : x1.toInt = (1 : Int) := vq_eq c8 rfl (by decide +kernel)
        exact ((iv_no (a := 2) (b := 1) (iv_eqm c8 h1 (iv_c 1 (a := 1) (b := 1) (by decide +kernel)) (by decide +kernel)) (by decide +kernel))).elim
    · have i7 : x1.toInt = (0 : Int) := vq_eq c5 rfl (by decide +kernel)
      exact ((iv_no (a := 2) (b := 0) (iv_eqm c5 h1 (iv_c 0 (a := 0) (b := 0) (by decide +kernel)) (by decide +kernel)) (by decide +kernel))).elim
  · exact absurd (vq_so0 (b := 0) (c := 2) (vq_says0 hf3 c4) eg2 (by decide +kernel) (by decide +kernel)) (by have z1 := h1.1; have z2 := h1.2; omega)

theorem ca_X12_fault_e2   (X : CallFix p m c cc nL s args sg_tbl own) (hK : va_K D vwCl tys s) (hG : sgG (KT P) D vwCl (fun q : Nat => base ≤ q) tys ad ks H) (hC : sgC base s) (hS : va_S (fun q : Nat => base ≤ q) s.heap H locs) (hb : base ≤ s.heap.size) (a0 : Nat) (h0 : isK ad ks 12 a0) (x1 : Int32) (h1 : iv 2 2 x1) (hl0 : 0 ≤ sgL2 P ∧ sgL2 P ≤ 240) (hby : sgBy2 P) (hl : Cond.methodLink own index yX12_fault ∈ sg_tbl) (hsize : ls.size = nL) (hst : st0 = [.int x1].reverse ++ .ref a0 :: rest) (hW : (rest.map fun v => v.category).sum ≤ 8) (hR : 8 ≤ R.frames ∧ 173 ≤ R.locals) (hf : cells ≤ R.cells ∧ slots ≤ R.slots) (hdg : decode cc pc = .ok (.invokevirtual index, 3)) (kk : ∀ (r : Int32) (t : State) (H1 : Heap) (locs1 : List Loc), t.heap = H1 → (fun r : Int32 => True) r → ((r.toInt = -1 ∧ ∃ (k9 : Nat) (f9 : Nat → Int × Int) (c9 : Int × Int), gK (sgU2 P) (sgL2 P) k9 ∧ c9 = ((k9 : Int), (k9 : Int)) ∧ (∀ j : Nat, j < k9 → mqAt f9 (256 + 4 * j) (gmT (sgU2 P) (sgL2 P) j)) ∧ (∃ a1 : Int, vGame (sgU2 P) (sgL2 P) = (true, a1)) ∧ sgB (KQ f9 c9 P) D vwCl base tys ad ks t) ∨ (∃ w : Int, vGame (sgU2 P) (sgL2 P) = (false, w) ∧ 0 ≤ w ∧ w ≤ 240 ∧ r.toInt = w ∧ sgB (KT P) D vwCl base tys ad ks t)) → va_S (fun q : Nat => base ≤ q) s.heap H1 locs1 → W p l e R s m args below meth c H1 locs1 cells slots Q (F0 m (pc + 3) ls (.int r :: rest))) : W p l e R s m args below meth c H locs cells slots Q (F0 m pc ls st0) :=
  sg_callV2i X hK hG hC hS hb (m_X12_fault_e2 l a0 h0 x1 h1 hl0 hby) h0 (k := 12) (ci := 12) rfl (C := RX12) (T := TX12) (N := 53) rfl wl_7_117 wl_1_13 wl_7_115 wl_7_116 (n := 1) (by decide +kernel) rfl rfl rfl hl hsize hst hW hR hf hdg kk
end
