
section
variable {p : Program} {l : Launch} {e : Env} {R : Room} {s : State} {m : MethodId} {args : Array Value} {below : List Frame} {meth : Method} {c : Code} {H : Heap} {locs : List Loc} {cells slots : Nat} {Q : State → Prop} {cc : ByteArray} {nL pc : Nat} {ls : Array Slot} {rest : List Value} {own : String} {D : va_G} {A : Nat → Prop} {tys : List (ClassId × FieldType)} {ad ks : List Nat} {P : sgPm} {H0 : Heap} {index : Nat} {base : Nat} {st0 : List Value} {a : Nat}
theorem pk_X12_11r {b : Bool} {d lo hi mr f : Int} (hG : sgG (KR b d lo hi mr f P) D vwCl A tys ad ks H) (ha : isK ad ks 12 a) : ∃ x : Int32, iv f (241) x ∧ fld D H 12 a 11 (.int x) := by
  obtain ⟨v, hv, hf⟩ := sg_peek hG ha (k := 12) (ci := 12) rfl (r := (RX12, TX12, 53)) rfl 11 (show 11 < 53 by decide) rfl
  obtain ⟨x, rfl, hx⟩ := hv
  exact ⟨x, hx, hf⟩
set_option maxHeartbeats 8000000 in
set_option maxRecDepth 100000 in
theorem m_X12_number_v (l : Launch) {D : va_G} {base : Nat} {tys : List (ClassId × FieldType)} {ad ks : List Nat} {P : sgPm}{b : Bool} {d : Int} {lo mr f : Int}  (a0 : Nat) (h0 : isK ad ks 12 a0) (x1 : Int32) (x2 : Int32) (hlo : 0 ≤ lo ∧ lo ≤ 241 ∧ -1 ≤ f ∧ f ≤ 0 ∧ 0 ≤ mr) (hd0 : 0 ≤ d) : Met l yX12_number (Cond.code yX12_number cX12_number 5 (some .int) :: sg_tbl) ({ frames := 1, cells := 0, slots := 0, locals := 25 }) (va_Pc [.ref a0, .int x1, .int x2] (sgB (KR b d lo 241 mr f P) D vwCl base tys ad ks)) (va_Qi (fun r (u : Int32) => u = r ∧ (fun r : Int32 => True) r) (fun u t => sgB (KR b d lo 241 mr f P) D vwCl base tys ad ks t ∧ ∃ w : Int32, fld D t.heap 12 a0 11 (.int w) ∧ (iv 0 241 w ∨ (x1.toInt ≤ u.toInt ∧ u.toInt ≤ x2.toInt))) (fun q : Nat => base ≤ q)) 0 0 (fun q : Nat => base ≤ q) := by
  refine sg_ofW (by decide +kernel) (Nat.le_of_ble_eq_true rfl) (fun p e s m below meth c X hr hlk hb hK hC hG ls hl => ?_)
  have hS : va_S (fun q : Nat => base ≤ q) s.heap s.heap [] := va_S.rf
  have hl : lv_has ls 5 [(0, .ref a0), (1, .int x1), (2, .int x2)] := hl
  refine lv_aload_n X.1 X.2.1 dX12_number_0 rfl (lv_at hl 0 rfl) ?_
  refine ca_X12_look X hK hG hC hS hb a0 h0 ⟨by omega, by omega, by omega, by omega, by omega⟩ ⟨by omega, by omega, by omega⟩ wl_7_137 hl.1 (rest := []) rfl (Nat.le_of_ble_eq_true rfl) ⟨Nat.le_of_ble_eq_true rfl, Nat.le_of_ble_eq_true rfl⟩ ⟨Nat.le_of_ble_eq_true rfl, Nat.le_of_ble_eq_true rfl⟩ dX12_number_1 (fun f1 tf1 H locs htf1 hf1 hWf1 hS => ?_)
  obtain ⟨hBf1, v2, kv2, hv2, lv2⟩ := hWf1
  have hG := hBf1.2.2.2
  rw [htf1] at hG kv2
  have ⟨lav2, uav2⟩ : lo ≤ v2.toInt ∧ v2.toInt ≤ 241 := hv2
  have hv2 : iv 0 241 v2 := ⟨by omega, by omega⟩
  refine lv_istore_n (lv' := [(3, .int f1), (0, .ref a0), (1, .int x1), (2, .int x2)]) X.1 X.2.1 dX12_number_4 rfl hl (by decide) rfl (fun ls hl => ?_)
  refine lv_aload_n X.1 X.2.1 dX12_number_5 rfl (lv_at hl 1 rfl) ?_
  refine ca_X12_isDigit X hK hG hC (fun _ h => h) hS hb a0 h0 ⟨by omega, by omega, by omega, by omega, by omega⟩ wl_7_187 hl.1 (rest := []) rfl (Nat.le_of_ble_eq_true rfl) ⟨Nat.le_of_ble_eq_true rfl, Nat.le_of_ble_eq_true rfl⟩ ⟨Nat.le_of_ble_eq_true rfl, Nat.le_of_ble_eq_true rfl⟩ dX12_number_6 (fun f3 locs hf3 hS => ?_)
  refine lv_if_ne (tgt := 19) X.1 X.2.1 dX12_number_9 (by decide) (fun c4 => ?_) (fun c4 => ?_)
  · obtain ⟨v5, kv5, hv5⟩ := hf3.2 c4
    have ⟨lav5, uav5⟩ : lo ≤ v5.toInt ∧ v5.toInt ≤ 239 := hv5
    have hv5 : iv 0 239 v5 := ⟨by omega, uav5⟩
    refine lv_iload_n X.1 X.2.1 dX12_number_19 rfl (lv_at hl 0 rfl) ?_
    refine lv_bipush (v := 48) X.1 X.2.1 dX12_number_20 (by decide +kernel) ?_
    refine lv_isub X.1 X.2.1 dX12_number_22 ?_
    refine lv_topi (fun f6 ef6 => ?_)
    refine lv_istore (lv' := [(4, .int f6), (3, .int f1), (0, .ref a0), (1, .int x1), (2, .int x2)]) X.1 X.2.1 dX12_number_23 hl (by decide) rfl (fun ls hl => ?_)
    refine lv_aload_n X.1 X.2.1 dX12_number_25 rfl (lv_at hl 2 rfl) ?_
    refine lv_dup X.1 X.2.1 dX12_number_26 rfl ?_
    refine gg_X12_10r X hK hG h0 wl_6_188 kv5 dX12_number_27 ?_
    refine lv_iconst (v := 1) X.1 X.2.1 dX12_number_30 (by decide +kernel) ?_
    refine lv_iadd X.1 X.2.1 dX12_number_31 ?_
    refine lv_topi (fun f7 ef7 => ?_)
    have sf7 : f7.toInt = v5.toInt + 1 := sg_inc (k := 1) ef7 hv5 (by decide +kernel)
    have uf7 : f7.toInt ≤ 241 := Int.le_trans ((iv_add (a' := 1) (b' := 240) ef7 hv5 (iv_c 1 (a := 1) (b := 1) (by decide +kernel)) (by decide +kernel))).2 (by omega)
    refine pf_X12_10R (lo2 := f7.toInt) (hi2 := 241) X hK hG hS h0 wl_6_188 ⟨_, rfl, Int.le_refl _, uf7⟩ dX12_number_32 (fun H locs hG hS => ?_)
    refine lv_aload_n X.1 X.2.1 dX12_number_35 rfl (lv_at hl 2 rfl) ?_
    refine ca_X12_isDigit X hK hG hC (fun _ h => h) hS hb a0 h0 ⟨by omega, by omega, by omega, by omega, by omega⟩ wl_7_187 hl.1 (rest := []) rfl (Nat.le_of_ble_eq_true rfl) ⟨Nat.le_of_ble_eq_true rfl, Nat.le_of_ble_eq_true rfl⟩ ⟨Nat.le_of_ble_eq_true rfl, Nat.le_of_ble_eq_true rfl⟩ dX12_number_36 (fun f8 locs hf8 hS => ?_)
    have B10_67 : ∀ (H : Heap) (locs : List Loc) (ls : Array Slot) (z10_4 : Int32) (lo10 : Int), f7.toInt ≤ lo10 → lo10 ≤ 241 → sgG (KR b d lo10 241 mr f P) D vwCl (fun q : Nat => base ≤ q) tys ad ks H → va_S (fun q : Nat => base ≤ q) s.heap H locs → lv_has ls 5 [(0, .ref a0), (1, .int x1), (2, .int x2), (4, .int z10_4)] → W p l e (headSpec (Cond.code yX12_number cX12_number 5 (some .int) :: sg_tbl) ({ frames := 1, cells := 0, slots := 0, locals := 25 })).room s m #[.ref a0, .int x1, .int x2] below meth c H locs 0 0 (MQ below (va_Qi (fun r (u : Int32) => u = r ∧ (fun r : Int32 => True) r) (fun u t => sgB (KR b d lo 241 mr f P) D vwCl base tys ad ks t ∧ ∃ w : Int32, fld D t.heap 12 a0 11 (.int w) ∧ (iv 0 241 w ∨ (x1.toInt ≤ u.toInt ∧ u.toInt ≤ x2.toInt))) (fun q : Nat => base ≤ q)) #[.ref a0, .int x1, .int x2] s 0 0 (fun q : Nat => base ≤ q)) (F0 m 67 ls []) := by
      intro H locs ls z10_4 lo10 jl10 jm10 hG hS hl
      refine lv_aload_n X.1 X.2.1 dX12_number_67 rfl (lv_at hl 0 rfl) ?_
      refine ca_X12_isDigit X hK hG hC (fun _ h => h) hS hb a0 h0 ⟨by omega, by omega, by omega, by omega, by omega⟩ wl_7_187 hl.1 (rest := []) rfl (Nat.le_of_ble_eq_true rfl) ⟨Nat.le_of_ble_eq_true rfl, Nat.le_of_ble_eq_true rfl⟩ ⟨Nat.le_of_ble_eq_true rfl, Nat.le_of_ble_eq_true rfl⟩ dX12_number_68 (fun f11 locs hf11 hS => ?_)
      refine lv_if_eq (tgt := 81) X.1 X.2.1 dX12_number_71 (by decide) (fun c12 => ?_) (fun c12 => ?_)
      · refine lv_iload X.1 X.2.1 dX12_number_81 (lv_at hl 3 rfl) ?_
        obtain ⟨g14, eg14⟩ : ∃ y : Int64, y = (z10_4 : Int32).toInt64 := ⟨_, rfl⟩
        refine lv_i2l (v := g14) X.1 X.2.1 dX12_number_83 eg14.symm ?_
        refine lv_iload_n X.1 X.2.1 dX12_number_84 rfl (lv_at hl 1 rfl) ?_
        obtain ⟨g15, eg15⟩ : ∃ y : Int64, y = (x1 : Int32).toInt64 := ⟨_, rfl⟩
        refine lv_i2l (v := g15) X.1 X.2.1 dX12_number_85 eg15.symm ?_
        refine lv_iload_n X.1 X.2.1 dX12_number_86 rfl (lv_at hl 2 rfl) ?_
        obtain ⟨g16, eg16⟩ : ∃ y : Int64, y = (x2 : Int32).toInt64 := ⟨_, rfl⟩
        refine lv_i2l (v := g16) X.1 X.2.1 dX12_number_87 eg16.symm ?_
        refine ca_X12_isIn X hK (sgr_toKT hG (by omega) (by omega) (by omega)) hC (fun _ h => h) hS hb g14 g15 g16 wl_7_119 hl.1 (rest := []) rfl (Nat.le_of_ble_eq_true rfl) ⟨Nat.le_of_ble_eq_true rfl, Nat.le_of_ble_eq_true rfl⟩ ⟨Nat.le_of_ble_eq_true rfl, Nat.le_of_ble_eq_true rfl⟩ dX12_number_88 (fun f17 locs hf17 hS => ?_)
        refine lv_if_ne (tgt := 109) X.1 X.2.1 dX12_number_91 (by decide) (fun c18 => ?_) (fun c18 => ?_)
        · have ilq19 : z10_4.toInt ≤ x2.toInt := sg_isinI (hf17.2 c18) eg14 eg16
          refine lv_iload X.1 X.2.1 dX12_number_109 (lv_at hl 3 rfl) ?_
          have hG := sgr_weak (d' := d) (lo' := lo) (hi' := 241) (f' := f) hG (by omega) (by omega) (by omega) (by omega)
          obtain ⟨wq, hwq, kwq⟩ := pk_X12_11r hG h0
          exact sg_iret2 X hr hlk hS trivial (fun t ht hW => ⟨sg_post hb hK hC hG hS ht hW, wq, by rw [ht]; exact kwq, Or.inr (sg_isin2 (hf17.2 c18) eg14 eg15 eg16)⟩) dX12_number_111
        · refine lv_aload_n X.1 X.2.1 dX12_number_94 rfl (lv_at hl 0 rfl) ?_
          refine lv_dup X.1 X.2.1 dX12_number_95 rfl ?_
          refine gf_X12_10r X hK hG h0 wl_6_188 dX12_number_96 (fun f20 hf20 kf20 => ?_)
          have ⟨laf20, uaf20⟩ : lo10 ≤ f20.toInt ∧ f20.toInt ≤ 241 := hf20
          have hf20 : iv 1 241 f20 := ⟨by omega, by omega⟩
          refine lv_iconst (v := 1) X.1 X.2.1 dX12_number_99 (by decide +kernel) ?_
          refine lv_isub X.1 X.2.1 dX12_number_100 ?_
          refine lv_topi (fun f21 ef21 => ?_)
          have sf21 : f21.toInt = f20.toInt - 1 := sg_dec (k := 1) ef21 hf20 (by decide +kernel)
          have uf21 : f21.toInt ≤ 241 := Int.le_trans ((iv_sub (a' := 0) (b' := 240) ef21 hf20 (iv_c 1 (a := 1) (b := 1) (by decide +kernel)) (by decide +kernel))).2 (by omega)
          refine pf_X12_10R (lo2 := f21.toInt) (hi2 := 241) X hK hG hS h0 wl_6_188 ⟨_, rfl, Int.le_refl _, uf21⟩ dX12_number_101 (fun H locs hG hS => ?_)
          refine lv_aload_n X.1 X.2.1 dX12_number_104 rfl (lv_at hl 0 rfl) ?_
          refine ca_X12_fails_v X hK hG hC hS hb a0 h0 ⟨by omega, by omega, by omega, by omega, by omega⟩ wl_7_141 hl.1 (rest := []) rfl (Nat.le_of_ble_eq_true rfl) ⟨Nat.le_of_ble_eq_true rfl, Nat.le_of_ble_eq_true rfl⟩ ⟨Nat.le_of_ble_eq_true rfl, Nat.le_of_ble_eq_true rfl⟩ dX12_number_105 (fun f22 tf22 H locs htf22 hf22 hWf22 hS => ?_)
          obtain ⟨hBf22, w23, kw23, hw23⟩ := hWf22
          have hG := hBf22.2.2.2
          rw [htf22] at hG kw23
          refine lv_pop X.1 X.2.1 dX12_number_108 rfl ?_
          refine lv_iload X.1 X.2.1 dX12_number_109 (lv_at hl 3 rfl) ?_
          have hG := sgr_weak (d' := d) (lo' := lo) (hi' := 241) (f' := f) hG (by omega) (by omega) (by omega) (by omega)
          exact sg_iret2 X hr hlk hS trivial (fun t ht hW => ⟨sg_post hb hK hC hG hS ht hW, w23, by rw [ht]; exact kw23, Or.inl hw23⟩) dX12_number_111
      · obtain ⟨v13, kv13, hv13⟩ := hf11.2 c12
        have ⟨lav13, uav13⟩ : lo10 ≤ v13.toInt ∧ v13.toInt ≤ 239 := hv13
        have hv13 : iv 0 239 v13 := ⟨by omega, uav13⟩
        refine lv_aload_n X.1 X.2.1 dX12_number_74 rfl (lv_at hl 0 rfl) ?_
        refine ca_X12_fails_v X hK hG hC hS hb a0 h0 ⟨by omega, by omega, by omega, by omega, by omega⟩ wl_7_141 hl.1 (rest := []) rfl (Nat.le_of_ble_eq_true rfl) ⟨Nat.le_of_ble_eq_true rfl, Nat.le_of_ble_eq_true rfl⟩ ⟨Nat.le_of_ble_eq_true rfl, Nat.le_of_ble_eq_true rfl⟩ dX12_number_75 (fun f24 tf24 H locs htf24 hf24 hWf24 hS => ?_)
        obtain ⟨hBf24, w25, kw25, hw25⟩ := hWf24
        have hG := hBf24.2.2.2
        rw [htf24] at hG kw25
        refine lv_pop X.1 X.2.1 dX12_number_78 rfl ?_
        refine lv_iconst (v := 0) X.1 X.2.1 dX12_number_79 (by decide +kernel) ?_
        have hG := sgr_weak (d' := d) (lo' := lo) (hi' := 241) (f' := f) hG (by omega) (by omega) (by omega) (by omega)
        exact sg_iret2 X hr hlk hS trivial (fun t ht hW => ⟨sg_post hb hK hC hG hS ht hW, w25, by rw [ht]; exact kw25, Or.inl hw25⟩) dX12_number_80
    refine lv_if_eq (tgt := 67) X.1 X.2.1 dX12_number_39 (by decide) (fun c9 => ?_) (fun c9 => ?_)
    · exact B10_67 H _ _ f6 f7.toInt (by omega) (by omega) hG hS (lv_sub hl [2, 3, 4, 0] rfl)
    · obtain ⟨v26, kv26, hv26⟩ := hf8.2 c9
      have ⟨lav26, uav26⟩ : f7.toInt ≤ v26.toInt ∧ v26.toInt ≤ 239 := hv26
      have hv26 : iv 0 239 v26 := ⟨by omega, uav26⟩
      refine lv_bipush (v := 10) X.1 X.2.1 dX12_number_42 (by decide +kernel) ?_
      refine lv_iload X.1 X.2.1 dX12_number_44 (lv_at hl 0 rfl) ?_
      refine lv_imul X.1 X.2.1 dX12_number_46 ?_
      refine lv_topi (fun f27 ef27 => ?_)
      refine lv_aload_n X.1 X.2.1 dX12_number_47 rfl (lv_at hl 2 rfl) ?_
      refine ca_X12_here X hK hG hC (fun _ h => h) hS hb a0 h0 ⟨by omega, by omega, by omega, by omega, by omega⟩ wl_7_191 hl.1 (rest := [.int f27]) rfl (Nat.le_of_ble_eq_true rfl) ⟨Nat.le_of_ble_eq_true rfl, Nat.le_of_ble_eq_true rfl⟩ ⟨Nat.le_of_ble_eq_true rfl, Nat.le_of_ble_eq_true rfl⟩ dX12_number_48 (fun f28 locs hf28 hS => ?_)
      refine lv_iadd X.1 X.2.1 dX12_number_51 ?_
      refine lv_topi (fun f29 ef29 => ?_)
      refine lv_bipush (v := 48) X.1 X.2.1 dX12_number_52 (by decide +kernel) ?_
      refine lv_isub X.1 X.2.1 dX12_number_54 ?_
      refine lv_topi (fun f30 ef30 => ?_)
      refine lv_istore (lv' := [(4, .int f30), (3, .int f1), (0, .ref a0), (1, .int x1), (2, .int x2)]) X.1 X.2.1 dX12_number_55 hl (by decide) rfl (fun ls hl => ?_)
      refine lv_aload_n X.1 X.2.1 dX12_number_57 rfl (lv_at hl 2 rfl) ?_
      refine lv_dup X.1 X.2.1 dX12_number_58 rfl ?_
      refine gg_X12_10r X hK hG h0 wl_6_188 kv26 dX12_number_59 ?_
      refine lv_iconst (v := 1) X.1 X.2.1 dX12_number_62 (by decide +kernel) ?_
      refine lv_iadd X.1 X.2.1 dX12_number_63 ?_
      refine lv_topi (fun f31 ef31 => ?_)
      have sf31 : f31.toInt = v26.toInt + 1 := sg_inc (k := 1) ef31 hv26 (by decide +kernel)
      have uf31 : f31.toInt ≤ 241 := Int.le_trans ((iv_add (a' := 1) (b' := 240) ef31 hv26 (iv_c 1 (a := 1) (b := 1) (by decide +kernel)) (by decide +kernel))).2 (by omega)
      refine pf_X12_10R (lo2 := f31.toInt) (hi2 := 241) X hK hG hS h0 wl_6_188 ⟨_, rfl, Int.le_refl _, uf31⟩ dX12_number_64 (fun H locs hG hS => ?_)
      exact B10_67 H _ _ f30 f31.toInt (by omega) (by omega) hG hS (lv_sub hl [2, 3, 4, 0] rfl)
  · refine lv_aload_n X.1 X.2.1 dX12_number_12 rfl (lv_at hl 1 rfl) ?_
    refine ca_X12_fails_v X hK hG hC hS hb a0 h0 ⟨by omega, by omega, by omega, by omega, by omega⟩ wl_7_141 hl.1 (rest := []) rfl (Nat.le_of_ble_eq_true rfl) ⟨Nat.le_of_ble_eq_true rfl, Nat.le_of_ble_eq_true rfl⟩ ⟨Nat.le_of_ble_eq_true rfl, Nat.le_of_ble_eq_true rfl⟩ dX12_number_13 (fun f32 tf32 H locs htf32 hf32 hWf32 hS => ?_)
    obtain ⟨hBf32, w33, kw33, hw33⟩ := hWf32
    have hG := hBf32.2.2.2
    rw [htf32] at hG kw33
    refine lv_pop X.1 X.2.1 dX12_number_16 rfl ?_
    refine lv_iconst (v := 0) X.1 X.2.1 dX12_number_17 (by decide +kernel) ?_
    exact sg_iret2 X hr hlk hS trivial (fun t ht hW => ⟨sg_post hb hK hC hG hS ht hW, w33, by rw [ht]; exact kw33, Or.inl hw33⟩) dX12_number_18

theorem ca_X12_number_v  {b : Bool} {d : Int} {lo mr f : Int}  (X : CallFix p m c cc nL s args sg_tbl own) (hK : va_K D vwCl tys s) (hG : sgG (KR b d lo 241 mr f P) D vwCl (fun q : Nat => base ≤ q) tys ad ks H) (hC : sgC base s) (hS : va_S (fun q : Nat => base ≤ q) s.heap H locs) (hb : base ≤ s.heap.size) (a0 : Nat) (h0 : isK ad ks 12 a0) (x1 : Int32) (x2 : Int32) (hlo : 0 ≤ lo ∧ lo ≤ 241 ∧ -1 ≤ f ∧ f ≤ 0 ∧ 0 ≤ mr) (hd0 : 0 ≤ d) (hl : Cond.methodLink own index yX12_number ∈ sg_tbl) (hsize : ls.size = nL) (hst : st0 = [.int x1, .int x2].reverse ++ .ref a0 :: rest) (hW : (rest.map fun v => v.category).sum ≤ 8) (hR : 2 ≤ R.frames ∧ 49 ≤ R.locals) (hf : cells ≤ R.cells ∧ slots ≤ R.slots) (hdg : decode cc pc = .ok (.invokevirtual index, 3)) (kk : ∀ (r : Int32) (t : State) (H1 : Heap) (locs1 : List Loc), t.heap = H1 → (fun r : Int32 => True) r → (sgB (KR b d lo 241 mr f P) D vwCl base tys ad ks t ∧ ∃ w : Int32, fld D t.heap 12 a0 11 (.int w) ∧ (iv 0 241 w ∨ (x1.toInt ≤ r.toInt ∧ r.toInt ≤ x2.toInt))) → va_S (fun q : Nat => base ≤ q) s.heap H1 locs1 → W p l e R s m args below meth c H1 locs1 cells slots Q (F0 m (pc + 3) ls (.int r :: rest))) : W p l e R s m args below meth c H locs cells slots Q (F0 m pc ls st0) :=
  sg_callV2i X hK hG hC hS hb (m_X12_number_v l a0 h0 x1 x2 hlo hd0) h0 (k := 12) (ci := 12) rfl (C := RX12) (T := TX12) (N := 53) rfl wl_7_186 wl_1_13 wl_7_185 wl_0_55 (n := 2) (by decide +kernel) rfl rfl rfl hl hsize hst hW hR hf hdg kk
end
