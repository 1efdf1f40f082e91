
section
variable {p : Program} {l : Launch} {e : Env} {R : Room} {s : State} {m : MethodId} {args : Array Value} {below : List Frame} {meth : Method} {c : Code} {H : Heap} {locs : List Loc} {cells slots : Nat} {Q : State → Prop} {cc : ByteArray} {nL pc : Nat} {ls : Array Slot} {rest : List Value} {own : String} {D : va_G} {A : Nat → Prop} {tys : List (ClassId × FieldType)} {ad ks : List Nat} {P : sgPm} {H0 : Heap} {index : Nat} {base : Nat} {st0 : List Value} {a : Nat}

set_option maxHeartbeats 8000000 in
set_option maxRecDepth 100000 in
theorem m_X11_sumOf_0 (l : Launch) {D : va_G} {base : Nat} {tys : List (ClassId × FieldType)} {ad ks : List Nat} {P : sgPm} (hp1 : P.2.1 = false) (a0 : Nat) (h0 : isK ad ks 11 a0) (x1 : Int32) : Met l yX11_sumOf (Cond.code yX11_sumOf cX11_sumOf 2 (some .int) :: sg_tbl) ({ frames := 7, cells := 1, slots := 8256, locals := 166 }) (va_Pc [.ref a0, .int x1] (sgB (KT P) D vwCl base tys ad ks)) (va_Qi (fun r (u : Int32) => u = r ∧ (fun r : Int32 => True) r) (fun u t => ∃ (b : Bool) (tys2 : List (ClassId × FieldType)) (ad2 ks2 : List Nat), sgMo ad ks ad2 ks2 ∧ sgB (KT (sgPlTop (P.1, b, P.2.2))) D vwCl base tys2 ad2 ks2 t) (fun q : Nat => base ≤ q)) 1 8256 (fun q : Nat => base ≤ q) := by
  refine sg_ofN (by decide +kernel) (Nat.le_of_ble_eq_true rfl) (fun p e s m below meth c X hr hlk hb hK hC hG ls hl => ?_)
  have hS : va_S (fun q : Nat => base ≤ q) s.heap s.heap [] := va_S.rf
  have hl : lv_has ls 2 [(0, .ref a0), (1, .int x1)] := hl
  refine lv_aload_n X.1 X.2.1 dX11_sumOf_0 rfl (lv_at hl 0 rfl) ?_
  refine ca_X11_noLawn X hK hG hC (fun _ h => h) hS hb a0 h0 wl_4_74 hl.1 (rest := []) rfl (Nat.le_of_ble_eq_true rfl) ⟨Nat.le_of_ble_eq_true rfl, Nat.le_of_ble_eq_true rfl⟩ ⟨Nat.le_of_ble_eq_true rfl, Nat.le_of_ble_eq_true rfl⟩ dX11_sumOf_1 (fun f1 locs hf1 hS => ?_)
  refine lv_if_eq (tgt := 11) X.1 X.2.1 dX11_sumOf_4 (by decide) (fun c2 => ?_) (fun c2 => ?_)
  · refine lv_aload_n X.1 X.2.1 dX11_sumOf_11 rfl (lv_at hl 0 rfl) ?_
    refine gf_X11_8 X hK hG h0 wl_2_203 dX11_sumOf_12 (fun q3 hq3 kq3 => ?_)
    refine lv_aload_n X.1 X.2.1 dX11_sumOf_15 rfl (lv_at hl 0 rfl) ?_
    refine gf_X11_3 X hK hG h0 wl_2_198 dX11_sumOf_16 (fun q4 hq4 kq4 => ?_)
    refine gf_X9_0 X hK hG hq4 wl_1_118 dX11_sumOf_19 (fun f5 hf5 kf5 => ?_)
    refine ca_X2_findParts X hK hG hC hS hb q3 hq3 f5 hf5 wl_5_136 hl.1 (rest := []) rfl (Nat.le_of_ble_eq_true rfl) ⟨Nat.le_of_ble_eq_true rfl, Nat.le_of_ble_eq_true rfl⟩ ⟨Nat.le_of_ble_eq_true rfl, Nat.le_of_ble_eq_true rfl⟩ dX11_sumOf_22 (fun H locs hG hS => ?_)
    refine lv_iload_n X.1 X.2.1 dX11_sumOf_25 rfl (lv_at hl 1 rfl) ?_
    refine lv_if_lt (tgt := 51) X.1 X.2.1 dX11_sumOf_26 (by decide) (fun c7 => ?_) (fun c7 => ?_)
    · refine lv_ldcw X.1 X.2.1 X.2.2.2.1 (X.2.2.2.2 _ wl_5_9) dX11_sumOf_51 ?_
      have hG := sg_plTopF hp1 hG
      refine W.widen (k := 1) (n := 8256) (Nat.le_of_ble_eq_true rfl) (Nat.le_of_ble_eq_true rfl) ?_
      exact sg_iretN X hr hlk hS trivial (fun t ht hW => ⟨false, _, _, _, sgMo.rf _ _, sg_post hb hK hC hG hS ht hW⟩) dX11_sumOf_54
    · refine lv_iload_n X.1 X.2.1 dX11_sumOf_29 rfl (lv_at hl 1 rfl) ?_
      refine lv_aload_n X.1 X.2.1 dX11_sumOf_30 rfl (lv_at hl 0 rfl) ?_
      refine gf_X11_8 X hK hG h0 wl_2_203 dX11_sumOf_31 (fun q8 hq8 kq8 => ?_)
      refine gf_X2_6 X hK hG hq8 wl_2_152 dX11_sumOf_34 (fun f9 hf9 kf9 => ?_)
      refine lv_icmp_ge (tgt := 51) X.1 X.2.1 dX11_sumOf_37 (by decide) (fun c10 => ?_) (fun c10 => ?_)
      · refine lv_ldcw X.1 X.2.1 X.2.2.2.1 (X.2.2.2.2 _ wl_5_9) dX11_sumOf_51 ?_
        have hG := sg_plTopF hp1 hG
        refine W.widen (k := 1) (n := 8256) (Nat.le_of_ble_eq_true rfl) (Nat.le_of_ble_eq_true rfl) ?_
        exact sg_iretN X hr hlk hS trivial (fun t ht hW => ⟨false, _, _, _, sgMo.rf _ _, sg_post hb hK hC hG hS ht hW⟩) dX11_sumOf_54
      · refine lv_aload_n X.1 X.2.1 dX11_sumOf_40 rfl (lv_at hl 0 rfl) ?_
        refine gg_X11_8 X hK hG h0 wl_2_203 kq8 dX11_sumOf_41 ?_
        refine lv_iload_n X.1 X.2.1 dX11_sumOf_44 rfl (lv_at hl 1 rfl) ?_
        refine ca_X2_isSmall X hK hG hC (fun _ h => h) hS hb q8 hq8 x1 (iv_lt (b' := 29) (iv_gt_of c10) (iv_ler (c' := 0) (iv_ge_of c7) (iv_c 0 (a := 0) (b := 0) (by decide +kernel)) (iv_top x1) (by decide +kernel)) hf9 (by decide +kernel)) wl_5_152 hl.1 (rest := []) rfl (Nat.le_of_ble_eq_true rfl) ⟨Nat.le_of_ble_eq_true rfl, Nat.le_of_ble_eq_true rfl⟩ ⟨Nat.le_of_ble_eq_true rfl, Nat.le_of_ble_eq_true rfl⟩ dX11_sumOf_45 (fun f11 locs hf11 hS => ?_)
        refine lv_if_ne (tgt := 55) X.1 X.2.1 dX11_sumOf_48 (by decide) (fun c12 => ?_) (fun c12 => ?_)
        · refine lv_aload_n X.1 X.2.1 dX11_sumOf_55 rfl (lv_at hl 0 rfl) ?_
          refine gg_X11_8 X hK hG h0 wl_2_203 kq8 dX11_sumOf_56 ?_
          refine ca_X2_sumUp_0 X hK hG hC hS hb hp1 q8 hq8 wl_5_157 hl.1 (rest := []) rfl (Nat.le_of_ble_eq_true rfl) ⟨Nat.le_of_ble_eq_true rfl, Nat.le_of_ble_eq_true rfl⟩ ⟨Nat.le_of_ble_eq_true rfl, Nat.le_of_ble_eq_true rfl⟩ dX11_sumOf_59 (fun tg13 H locs hvm htg13 hWg13 hS => ?_)
          obtain ⟨bg13, tys1, ad1, ks1, hmo, hBg13⟩ := hWg13
          have hK := sg_hKb hvm hBg13
          have hG := hBg13.2.2.2
          rw [htg13] at hG
          have oa0 := hmo _ _ h0
          rcases bg13 with _ | _
          · refine lv_aload_n X.1 X.2.1 dX11_sumOf_62 rfl (lv_at hl 0 rfl) ?_
            refine gf_X11_8 X hK hG oa0 wl_2_203 dX11_sumOf_63 (fun q14 hq14 kq14 => ?_)
            refine lv_iload_n X.1 X.2.1 dX11_sumOf_66 rfl (lv_at hl 1 rfl) ?_
            refine lv_aload_n X.1 X.2.1 dX11_sumOf_67 rfl (lv_at hl 0 rfl) ?_
            refine gg_X11_8 X hK hG oa0 wl_2_203 kq14 dX11_sumOf_68 ?_
            refine gf_X2_1 X hK hG hq14 wl_2_146 dX11_sumOf_71 (fun q15 hq15 kq15 => ?_)
            refine lv_iload_n X.1 X.2.1 dX11_sumOf_74 rfl (lv_at hl 1 rfl) ?_
            refine al_15 X hK hG hq15 (iv_vpin (iv_lt (b' := 29) (iv_gt_of c10) (iv_ler (c' := 0) (iv_ge_of c7) (iv_c 0 (a := 0) (b := 0) (by decide +kernel)) (iv_top x1) (by decide +kernel)) hf9 (by decide +kernel)) (by decide +kernel)) dX11_sumOf_75 (fun f16 hf16 => ?_)
            refine ca_X2_sumLeft_0 X hK hG hC (fun _ h => h) hS hb rfl q14 hq14 x1 (iv_lt (b' := 29) (iv_gt_of c10) (iv_ler (c' := 0) (iv_ge_of c7) (iv_c 0 (a := 0) (b := 0) (by decide +kernel)) (iv_top x1) (by decide +kernel)) hf9 (by decide +kernel)) f16 wl_5_179 hl.1 (rest := []) rfl (Nat.le_of_ble_eq_true rfl) ⟨Nat.le_of_ble_eq_true rfl, Nat.le_of_ble_eq_true rfl⟩ ⟨Nat.le_of_ble_eq_true rfl, Nat.le_of_ble_eq_true rfl⟩ dX11_sumOf_76 (fun f17 locs hf17 hS => ?_)
            exact sg_iretN X hr hlk hS trivial (fun t ht hW => ⟨_, _, _, _, hmo, sg_post hb hK hC hG hS ht hW⟩) dX11_sumOf_79
          · refine lv_aload_n X.1 X.2.1 dX11_sumOf_62 rfl (lv_at hl 0 rfl) ?_
            refine gf_X11_8 X hK hG oa0 wl_2_203 dX11_sumOf_63 (fun q18 hq18 kq18 => ?_)
            refine lv_iload_n X.1 X.2.1 dX11_sumOf_66 rfl (lv_at hl 1 rfl) ?_
            refine lv_aload_n X.1 X.2.1 dX11_sumOf_67 rfl (lv_at hl 0 rfl) ?_
            refine gg_X11_8 X hK hG oa0 wl_2_203 kq18 dX11_sumOf_68 ?_
            refine gf_X2_1 X hK hG hq18 wl_2_146 dX11_sumOf_71 (fun q19 hq19 kq19 => ?_)
            refine lv_iload_n X.1 X.2.1 dX11_sumOf_74 rfl (lv_at hl 1 rfl) ?_
            refine al_15 X hK hG hq19 (iv_vpin (iv_lt (b' := 29) (iv_gt_of c10) (iv_ler (c' := 0) (iv_ge_of c7) (iv_c 0 (a := 0) (b := 0) (by decide +kernel)) (iv_top x1) (by decide +kernel)) hf9 (by decide +kernel)) (by decide +kernel)) dX11_sumOf_75 (fun f20 hf20 => ?_)
            refine ca_X2_sumLeft_1 X hK hG hC (fun _ h => h) hS hb rfl q18 hq18 x1 (iv_lt (b' := 29) (iv_gt_of c10) (iv_ler (c' := 0) (iv_ge_of c7) (iv_c 0 (a := 0) (b := 0) (by decide +kernel)) (iv_top x1) (by decide +kernel)) hf9 (by decide +kernel)) f20 wl_5_179 hl.1 (rest := []) rfl (Nat.le_of_ble_eq_true rfl) ⟨Nat.le_of_ble_eq_true rfl, Nat.le_of_ble_eq_true rfl⟩ ⟨Nat.le_of_ble_eq_true rfl, Nat.le_of_ble_eq_true rfl⟩ dX11_sumOf_76 (fun f21 locs hf21 hS => ?_)
            exact sg_iretN X hr hlk hS trivial (fun t ht hW => ⟨_, _, _, _, hmo, sg_post hb hK hC hG hS ht hW⟩) dX11_sumOf_79
        · refine lv_ldcw X.1 X.2.1 X.2.2.2.1 (X.2.2.2.2 _ wl_5_9) dX11_sumOf_51 ?_
          have hG := sg_plTopF hp1 hG
          refine W.widen (k := 1) (n := 8256) (Nat.le_of_ble_eq_true rfl) (Nat.le_of_ble_eq_true rfl) ?_
          exact sg_iretN X hr hlk hS trivial (fun t ht hW => ⟨false, _, _, _, sgMo.rf _ _, sg_post hb hK hC hG hS ht hW⟩) dX11_sumOf_54
  · refine lv_ldcw X.1 X.2.1 X.2.2.2.1 (X.2.2.2.2 _ wl_5_9) dX11_sumOf_7 ?_
    have hG := sg_plTopF hp1 hG
    refine W.widen (k := 1) (n := 8256) (Nat.le_of_ble_eq_true rfl) (Nat.le_of_ble_eq_true rfl) ?_
    exact sg_iretN X hr hlk hS trivial (fun t ht hW => ⟨false, _, _, _, sgMo.rf _ _, sg_post hb hK hC hG hS ht hW⟩) dX11_sumOf_10

theorem ca_X11_sumOf_0   (X : CallFix p m c cc nL s args sg_tbl own) (hK : va_K D vwCl tys s) (hG : sgG (KT P) D vwCl (fun q : Nat => base ≤ q) tys ad ks H) (hC : sgC base s) (hS : va_S (fun q : Nat => base ≤ q) s.heap H locs) (hb : base ≤ s.heap.size) (hp1 : P.2.1 = false) (a0 : Nat) (h0 : isK ad ks 11 a0) (x1 : Int32) (hl : Cond.methodLink own index yX11_sumOf ∈ sg_tbl) (hsize : ls.size = nL) (hst : st0 = [.int x1].reverse ++ .ref a0 :: rest) (hW : (rest.map fun v => v.category).sum ≤ 8) (hR : 8 ≤ R.frames ∧ 187 ≤ R.locals) (hf : cells + 1 ≤ R.cells ∧ slots + 8256 ≤ R.slots) (hdg : decode cc pc = .ok (.invokevirtual index, 3)) (kk : ∀ (r : Int32) (t : State) (H1 : Heap) (locs1 : List Loc), s.vm.Alike t.vm → t.heap = H1 → (fun r : Int32 => True) r → (∃ (b : Bool) (tys2 : List (ClassId × FieldType)) (ad2 ks2 : List Nat), sgMo ad ks ad2 ks2 ∧ sgB (KT (sgPlTop (P.1, b, P.2.2))) D vwCl base tys2 ad2 ks2 t) → va_S (fun q : Nat => base ≤ q) s.heap H1 locs1 → W p l e R s m args below meth c H1 locs1 (cells + 1) (slots + 8256) Q (F0 m (pc + 3) ls (.int r :: rest))) : W p l e R s m args below meth c H locs cells slots Q (F0 m pc ls st0) :=
  sg_callNi X hK hG hC hS hb (m_X11_sumOf_0 l hp1 a0 h0 x1) h0 (k := 11) (ci := 11) rfl (C := RX11) (T := TX11) (N := 17) rfl wl_5_151 wl_1_1 wl_5_149 wl_5_150 (n := 1) (by decide +kernel) rfl rfl rfl hl hsize hst hW hR hf hdg kk

set_option maxHeartbeats 8000000 in
set_option maxRecDepth 100000 in
theorem m_X11_winning_0 (l : Launch) {D : va_G} {base : Nat} {tys : List (ClassId × FieldType)} {ad ks : List Nat} {P : sgPm} (hp1 : P.2.1 = false) (a0 : Nat) (h0 : isK ad ks 11 a0) : Met l yX11_winning (Cond.code yX11_winning cX11_winning 1 (some .int) :: sg_tbl) ({ frames := 7, cells := 1, slots := 8256, locals := 166 }) (va_Pc [.ref a0] (sgB (KT P) D vwCl base tys ad ks)) (va_Qi (fun r (u : Int32) => u = r ∧ (fun r : Int32 => True) r) (fun u t => ∃ (b : Bool) (tys2 : List (ClassId × FieldType)) (ad2 ks2 : List Nat), sgMo ad ks ad2 ks2 ∧ sgB (KT (sgPlTop (P.1, b, P.2.2))) D vwCl base tys2 ad2 ks2 t) (fun q : Nat => base ≤ q)) 1 8256 (fun q : Nat => base ≤ q) := by
  refine sg_ofN (by decide +kernel) (Nat.le_of_ble_eq_true rfl) (fun p e s m below meth c X hr hlk hb hK hC hG ls hl => ?_)
  have hS : va_S (fun q : Nat => base ≤ q) s.heap s.heap [] := va_S.rf
  have hl : lv_has ls 1 [(0, .ref a0)] := hl
  refine lv_aload_n X.1 X.2.1 dX11_winning_0 rfl (lv_at hl 0 rfl) ?_
  refine ca_X11_noLawn X hK hG hC (fun _ h => h) hS hb a0 h0 wl_4_74 hl.1 (rest := []) rfl (Nat.le_of_ble_eq_true rfl) ⟨Nat.le_of_ble_eq_true rfl, Nat.le_of_ble_eq_true rfl⟩ ⟨Nat.le_of_ble_eq_true rfl, Nat.le_of_ble_eq_true rfl⟩ dX11_winning_1 (fun f1 locs hf1 hS => ?_)
  refine lv_if_eq (tgt := 9) X.1 X.2.1 dX11_winning_4 (by decide) (fun c2 => ?_) (fun c2 => ?_)
  · refine lv_aload_n X.1 X.2.1 dX11_winning_9 rfl (lv_at hl 0 rfl) ?_
    refine gf_X11_8 X hK hG h0 wl_2_203 dX11_winning_10 (fun q3 hq3 kq3 => ?_)
    refine lv_aload_n X.1 X.2.1 dX11_winning_13 rfl (lv_at hl 0 rfl) ?_
    refine gf_X11_3 X hK hG h0 wl_2_198 dX11_winning_14 (fun q4 hq4 kq4 => ?_)
    refine gf_X9_0 X hK hG hq4 wl_1_118 dX11_winning_17 (fun f5 hf5 kf5 => ?_)
    refine ca_X2_findParts X hK hG hC hS hb q3 hq3 f5 hf5 wl_5_136 hl.1 (rest := []) rfl (Nat.le_of_ble_eq_true rfl) ⟨Nat.le_of_ble_eq_true rfl, Nat.le_of_ble_eq_true rfl⟩ ⟨Nat.le_of_ble_eq_true rfl, Nat.le_of_ble_eq_true rfl⟩ dX11_winning_20 (fun H locs hG hS => ?_)
    refine lv_aload_n X.1 X.2.1 dX11_winning_23 rfl (lv_at hl 0 rfl) ?_
    refine gf_X11_8 X hK hG h0 wl_2_203 dX11_winning_24 (fun q7 hq7 kq7 => ?_)
    refine ca_X2_allSmall X hK hG hC (fun _ h => h) hS hb q7 hq7 wl_5_187 hl.1 (rest := []) rfl (Nat.le_of_ble_eq_true rfl) ⟨Nat.le_of_ble_eq_true rfl, Nat.le_of_ble_eq_true rfl⟩ ⟨Nat.le_of_ble_eq_true rfl, Nat.le_of_ble_eq_true rfl⟩ dX11_winning_27 (fun f8 locs hf8 hS => ?_)
    refine lv_if_ne (tgt := 37) X.1 X.2.1 dX11_winning_30 (by decide) (fun c9 => ?_) (fun c9 => ?_)
    · refine lv_aload_n X.1 X.2.1 dX11_winning_37 rfl (lv_at hl 0 rfl) ?_
      refine gg_X11_8 X hK hG h0 wl_2_203 kq7 dX11_winning_38 ?_
      refine ca_X2_sumUp_0 X hK hG hC hS hb hp1 q7 hq7 wl_5_157 hl.1 (rest := []) rfl (Nat.le_of_ble_eq_true rfl) ⟨Nat.le_of_ble_eq_true rfl, Nat.le_of_ble_eq_true rfl⟩ ⟨Nat.le_of_ble_eq_true rfl, Nat.le_of_ble_eq_true rfl⟩ dX11_winning_41 (fun tg10 H locs hvm htg10 hWg10 hS => ?_)
      obtain ⟨bg10, tys1, ad1, ks1, hmo, hBg10⟩ := hWg10
      have hK := sg_hKb hvm hBg10
      have hG := hBg10.2.2.2
      rw [htg10] at hG
      have oa0 := hmo _ _ h0
      rcases bg10 with _ | _
      · refine lv_aload_n X.1 X.2.1 dX11_winning_44 rfl (lv_at hl 0 rfl) ?_
        refine gf_X11_8 X hK hG oa0 wl_2_203 dX11_winning_45 (fun q11 hq11 kq11 => ?_)
        refine ca_X2_winningCode_0 X hK hG hC hS hb rfl q11 hq11 wl_5_191 hl.1 (rest := []) rfl (Nat.le_of_ble_eq_true rfl) ⟨Nat.le_of_ble_eq_true rfl, Nat.le_of_ble_eq_true rfl⟩ ⟨Nat.le_of_ble_eq_true rfl, Nat.le_of_ble_eq_true rfl⟩ dX11_winning_48 (fun f12 H locs hf12 hG hS => ?_)
        exact sg_iretN X hr hlk hS trivial (fun t ht hW => ⟨_, _, _, _, hmo, sg_post hb hK hC hG hS ht hW⟩) dX11_winning_51
      · refine lv_aload_n X.1 X.2.1 dX11_winning_44 rfl (lv_at hl 0 rfl) ?_
        refine gf_X11_8 X hK hG oa0 wl_2_203 dX11_winning_45 (fun q13 hq13 kq13 => ?_)
        refine ca_X2_winningCode_1 X hK hG hC hS hb rfl q13 hq13 wl_5_191 hl.1 (rest := []) rfl (Nat.le_of_ble_eq_true rfl) ⟨Nat.le_of_ble_eq_true rfl, Nat.le_of_ble_eq_true rfl⟩ ⟨Nat.le_of_ble_eq_true rfl, Nat.le_of_ble_eq_true rfl⟩ dX11_winning_48 (fun f14 H locs hf14 hG hS => ?_)
        exact sg_iretN X hr hlk hS trivial (fun t ht hW => ⟨_, _, _, _, hmo, sg_post hb hK hC hG hS ht hW⟩) dX11_winning_51
    · refine lv_ldcw X.1 X.2.1 X.2.2.2.1 (X.2.2.2.2 _ wl_5_9) dX11_winning_33 ?_
      have hG := sg_plTopF hp1 hG
      refine W.widen (k := 1) (n := 8256) (Nat.le_of_ble_eq_true rfl) (Nat.le_of_ble_eq_true rfl) ?_
      exact sg_iretN X hr hlk hS trivial (fun t ht hW => ⟨false, _, _, _, sgMo.rf _ _, sg_post hb hK hC hG hS ht hW⟩) dX11_winning_36
  · refine lv_iconst (v := (-1)) X.1 X.2.1 dX11_winning_7 (by decide +kernel) ?_
    have hG := sg_plTopF hp1 hG
    refine W.widen (k := 1) (n := 8256) (Nat.le_of_ble_eq_true rfl) (Nat.le_of_ble_eq_true rfl) ?_
    exact sg_iretN X hr hlk hS trivial (fun t ht hW => ⟨false, _, _, _, sgMo.rf _ _, sg_post hb hK hC hG hS ht hW⟩) dX11_winning_8

theorem ca_X11_winning_0   (X : CallFix p m c cc nL s args sg_tbl own) (hK : va_K D vwCl tys s) (hG : sgG (KT P) D vwCl (fun q : Nat => base ≤ q) tys ad ks H) (hC : sgC base s) (hS : va_S (fun q : Nat => base ≤ q) s.heap H locs) (hb : base ≤ s.heap.size) (hp1 : P.2.1 = false) (a0 : Nat) (h0 : isK ad ks 11 a0) (hl : Cond.methodLink own index yX11_winning ∈ sg_tbl) (hsize : ls.size = nL) (hst : st0 = [].reverse ++ .ref a0 :: rest) (hW : (rest.map fun v => v.category).sum ≤ 8) (hR : 8 ≤ R.frames ∧ 186 ≤ R.locals) (hf : cells + 1 ≤ R.cells ∧ slots + 8256 ≤ R.slots) (hdg : decode cc pc = .ok (.invokevirtual index, 3)) (kk : ∀ (r : Int32) (t : State) (H1 : Heap) (locs1 : List Loc), s.vm.Alike t.vm → t.heap = H1 → (fun r : Int32 => True) r → (∃ (b : Bool) (tys2 : List (ClassId × FieldType)) (ad2 ks2 : List Nat), sgMo ad ks ad2 ks2 ∧ sgB (KT (sgPlTop (P.1, b, P.2.2))) D vwCl base tys2 ad2 ks2 t) → va_S (fun q : Nat => base ≤ q) s.heap H1 locs1 → W p l e R s m args below meth c H1 locs1 (cells + 1) (slots + 8256) Q (F0 m (pc + 3) ls (.int r :: rest))) : W p l e R s m args below meth c H locs cells slots Q (F0 m pc ls st0) :=
  sg_callNi X hK hG hC hS hb (m_X11_winning_0 l hp1 a0 h0) h0 (k := 11) (ci := 11) rfl (C := RX11) (T := TX11) (N := 17) rfl wl_5_186 wl_1_1 wl_5_184 wl_5_185 (n := 0) (by decide +kernel) rfl rfl rfl hl hsize hst hW hR hf hdg kk
end
