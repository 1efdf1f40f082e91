
section
variable {p : Program} {l : Launch} {e : Env} {R : Room} {s : State} {m : MethodId} {args : Array Value} {below : List Frame} {meth : Method} {c : Code} {H : Heap} {locs : List Loc} {cells slots : Nat} {Q : State → Prop} {cc : ByteArray} {nL pc : Nat} {ls : Array Slot} {rest : List Value} {own : String} {D : va_G} {A : Nat → Prop} {tys : List (ClassId × FieldType)} {ad ks : List Nat} {P : sgPm} {H0 : Heap} {index : Nat} {base : Nat} {st0 : List Value} {a : Nat}

set_option maxHeartbeats 8000000 in
set_option maxRecDepth 100000 in
theorem m_X12_goesIn_4 (l : Launch) {D : va_G} {base : Nat} {tys : List (ClassId × FieldType)} {ad ks : List Nat} {P : sgPm}{b : Bool} {lo mr f : Int}  (a0 : Nat) (h0 : isK ad ks 12 a0) (hlo : 0 ≤ lo ∧ lo ≤ 241 ∧ -1 ≤ f ∧ f ≤ 0 ∧ 0 ≤ mr) : Met l yX12_goesIn (Cond.code yX12_goesIn cX12_goesIn 1 (some .boolean) :: sg_tbl) ({ frames := 1, cells := 0, slots := 0, locals := 20 }) (va_Pc [.ref a0] (sgB (KR b 4 lo 240 mr f P) D vwCl base tys ad ks)) (va_Qi (fun r (u : Int32) => u = r ∧ (fun r : Int32 => iv 0 1 r) r) (fun u t => (u = 0 ∧ sgB (KR b 4 lo 241 mr f P) D vwCl base tys ad ks t) ∨ (u = 1 ∧ sgB (KR b 5 lo 241 mr f P) D vwCl base tys ad ks t)) (fun q : Nat => base ≤ q)) 0 0 (fun q : Nat => base ≤ q) := by
  refine sg_ofW (by decide +kernel) (Nat.le_of_ble_eq_true rfl) (fun p e s m below meth c X hr hlk hb hK hC hG ls hl => ?_)
  have hS : va_S (fun q : Nat => base ≤ q) s.heap s.heap [] := va_S.rf
  have hl : lv_has ls 1 [(0, .ref a0)] := hl
  refine lv_aload_n X.1 X.2.1 dX12_goesIn_0 rfl (lv_at hl 0 rfl) ?_
  refine gf_X12_12r X hK hG h0 wl_6_190 dX12_goesIn_1 (fun f1 hf1 kf1 => ?_)
  refine lv_bipush (v := 6) X.1 X.2.1 dX12_goesIn_4 (by decide +kernel) ?_
  refine lv_icmp_ne (tgt := 14) X.1 X.2.1 dX12_goesIn_6 (by decide) (fun c2 => ?_) (fun c2 => ?_)
  · refine lv_aload_n X.1 X.2.1 dX12_goesIn_14 rfl (lv_at hl 0 rfl) ?_
    refine lv_dup X.1 X.2.1 dX12_goesIn_15 rfl ?_
    refine gg_X12_12r X hK hG h0 wl_6_190 kf1 dX12_goesIn_16 ?_
    refine lv_iconst (v := 1) X.1 X.2.1 dX12_goesIn_19 (by decide +kernel) ?_
    refine lv_iadd X.1 X.2.1 dX12_goesIn_20 ?_
    refine lv_topi (fun f3 ef3 => ?_)
    refine pf_X12_12R (d2 := 5) X hK hG hS h0 wl_6_190 ⟨_, rfl, (iv_add (a' := 5) (b' := 6) ef3 (iv_ne_hi (b' := 5) c2 hf1 (by decide +kernel)) (iv_c 1 (a := 1) (b := 1) (by decide +kernel)) (by decide +kernel))⟩ dX12_goesIn_21 (fun H locs hG hS => ?_)
    refine lv_aload_n X.1 X.2.1 dX12_goesIn_24 rfl (lv_at hl 0 rfl) ?_
    refine lv_dup X.1 X.2.1 dX12_goesIn_25 rfl ?_
    refine gf_X12_10r X hK hG h0 wl_6_188 dX12_goesIn_26 (fun f4 hf4 kf4 => ?_)
    have ⟨laf4, uaf4⟩ : lo ≤ f4.toInt ∧ f4.toInt ≤ 240 := hf4
    have hf4 : iv 0 240 f4 := ⟨by omega, by omega⟩
    refine lv_iconst (v := 1) X.1 X.2.1 dX12_goesIn_29 (by decide +kernel) ?_
    refine lv_iadd X.1 X.2.1 dX12_goesIn_30 ?_
    refine lv_topi (fun f5 ef5 => ?_)
    have sf5 : f5.toInt = f4.toInt + 1 := sg_inc (k := 1) ef5 hf4 (by decide +kernel)
    have uf5 : f5.toInt ≤ 241 := Int.le_trans ((iv_add (a' := 1) (b' := 241) ef5 hf4 (iv_c 1 (a := 1) (b := 1) (by decide +kernel)) (by decide +kernel))).2 (by omega)
    refine pf_X12_10R (lo2 := f5.toInt) (hi2 := 241) X hK hG hS h0 wl_6_188 ⟨_, rfl, Int.le_refl _, uf5⟩ dX12_goesIn_31 (fun H locs hG hS => ?_)
    refine lv_iconst (v := 1) X.1 X.2.1 dX12_goesIn_34 (by decide +kernel) ?_
    have hG := sgr_weak (d' := 5) (lo' := lo) (hi' := 241) (f' := f) hG (by omega) (by omega) (by omega) (by omega)
    exact sg_zret2 X hr (sg_zn (iv_of (iv_c 1 (a := 1) (b := 1) (by decide +kernel)) (a' := 0) (b' := 1) (by decide +kernel))) hlk hS (iv_of (iv_c 1 (a := 1) (b := 1) (by decide +kernel)) (a' := 0) (b' := 1) (by decide +kernel)) (fun t ht hW => (Or.inr ⟨rfl, sg_post hb hK hC hG hS ht hW⟩)) dX12_goesIn_35
  · refine lv_aload_n X.1 X.2.1 dX12_goesIn_9 rfl (lv_at hl 0 rfl) ?_
    have hG := sgr_weak (d' := 4) (lo' := lo) (hi' := 241) (f' := f) hG (by omega) (by omega) (by omega) (by omega)
    refine ca_X12_fails X hK hG hC hS hb a0 h0 ⟨by omega, by omega, by omega, by omega, by omega⟩ wl_7_141 hl.1 (rest := []) rfl (Nat.le_of_ble_eq_true rfl) ⟨Nat.le_of_ble_eq_true rfl, Nat.le_of_ble_eq_true rfl⟩ ⟨Nat.le_of_ble_eq_true rfl, Nat.le_of_ble_eq_true rfl⟩ dX12_goesIn_10 (fun f6 H locs hf6 hG hS => ?_)
    exact sg_zret2 X hr (sg_zn (iv_of hf6 (a' := 0) (b' := 1) (by decide +kernel))) hlk hS (iv_of hf6 (a' := 0) (b' := 1) (by decide +kernel)) (fun t ht hW => (Or.inl ⟨sg_is0 hf6, sg_post hb hK hC hG hS ht hW⟩)) dX12_goesIn_13

theorem ca_X12_goesIn_4  {b : Bool} {lo mr f : Int}  (X : CallFix p m c cc nL s args sg_tbl own) (hK : va_K D vwCl tys s) (hG : sgG (KR b 4 lo 240 mr f P) D vwCl (fun q : Nat => base ≤ q) tys ad ks H) (hC : sgC base s) (hS : va_S (fun q : Nat => base ≤ q) s.heap H locs) (hb : base ≤ s.heap.size) (a0 : Nat) (h0 : isK ad ks 12 a0) (hlo : 0 ≤ lo ∧ lo ≤ 241 ∧ -1 ≤ f ∧ f ≤ 0 ∧ 0 ≤ mr) (hl : Cond.methodLink own index yX12_goesIn ∈ sg_tbl) (hsize : ls.size = nL) (hst : st0 = [].reverse ++ .ref a0 :: rest) (hW : (rest.map fun v => v.category).sum ≤ 8) (hR : 2 ≤ R.frames ∧ 40 ≤ R.locals) (hf : cells ≤ R.cells ∧ slots ≤ R.slots) (hdg : decode cc pc = .ok (.invokevirtual index, 3)) (kk : ∀ (r : Int32) (t : State) (H1 : Heap) (locs1 : List Loc), t.heap = H1 → (fun r : Int32 => iv 0 1 r) r → ((r = 0 ∧ sgB (KR b 4 lo 241 mr f P) D vwCl base tys ad ks t) ∨ (r = 1 ∧ sgB (KR b 5 lo 241 mr f P) D vwCl base tys ad ks t)) → va_S (fun q : Nat => base ≤ q) s.heap H1 locs1 → W p l e R s m args below meth c H1 locs1 cells slots Q (F0 m (pc + 3) ls (.int r :: rest))) : W p l e R s m args below meth c H locs cells slots Q (F0 m pc ls st0) :=
  sg_callV2i X hK hG hC hS hb (m_X12_goesIn_4 l a0 h0 hlo) h0 (k := 12) (ci := 12) rfl (C := RX12) (T := TX12) (N := 53) rfl wl_8_8 wl_1_13 wl_8_7 wl_0_67 (n := 0) (by decide +kernel) rfl rfl rfl hl hsize hst hW hR hf hdg kk

set_option maxHeartbeats 8000000 in
set_option maxRecDepth 100000 in
theorem m_X12_atom_4 (l : Launch) {D : va_G} {base : Nat} {tys : List (ClassId × FieldType)} {ad ks : List Nat} {P : sgPm}{b : Bool} {lo mr f : Int}  (a0 : Nat) (h0 : isK ad ks 12 a0) (hlo : 0 ≤ lo ∧ lo ≤ 241 ∧ -1 ≤ f ∧ f ≤ 0 ∧ 0 ≤ mr) : sgMi l (KR b 4 lo 241 mr f P) D vwCl base tys ad ks yX12_atom cX12_atom 4 (some .int) ({ frames := 11, cells := 0, slots := 0, locals := 249 }) [.ref a0] (fun r : Int32 => True) := by
  refine sg_ofW (by decide +kernel) (Nat.le_of_ble_eq_true rfl) (fun p e s m below meth c X hr hlk hb hK hC hG ls hl => ?_)
  have hS : va_S (fun q : Nat => base ≤ q) s.heap s.heap [] := va_S.rf
  have hl : lv_has ls 4 [(0, .ref a0)] := hl
  refine lv_aload_n X.1 X.2.1 dX12_atom_0 rfl (lv_at hl 0 rfl) ?_
  refine ca_X12_look X hK hG hC hS hb a0 h0 ⟨by omega, by omega, by omega, by omega, by omega⟩ ⟨by omega, by omega, by omega⟩ wl_7_137 hl.1 (rest := []) rfl (Nat.le_of_ble_eq_true rfl) ⟨Nat.le_of_ble_eq_true rfl, Nat.le_of_ble_eq_true rfl⟩ ⟨Nat.le_of_ble_eq_true rfl, Nat.le_of_ble_eq_true rfl⟩ dX12_atom_1 (fun f1 tf1 H locs htf1 hf1 hWf1 hS => ?_)
  obtain ⟨hBf1, v2, kv2, hv2, lv2⟩ := hWf1
  have hG := hBf1.2.2.2
  rw [htf1] at hG kv2
  have ⟨lav2, uav2⟩ : lo ≤ v2.toInt ∧ v2.toInt ≤ 241 := hv2
  have hv2 : iv 0 241 v2 := ⟨by omega, by omega⟩
  refine lv_istore_n (lv' := [(1, .int f1), (0, .ref a0)]) X.1 X.2.1 dX12_atom_4 rfl hl (by decide) rfl (fun ls hl => ?_)
  obtain ⟨t3, vt3, pt3, rt3⟩ := hC.2.2.1
  refine va_ldcS X.1 X.2.1 X.2.2.2.1 rt3 dX12_atom_5 ?_
  refine lv_iload_n X.1 X.2.1 dX12_atom_7 rfl (lv_at hl 0 rfl) ?_
  refine ca_X12_isAmong_6 X hK (sgr_toKT hG (by omega) (by omega) (by omega)) hC (fun _ h => h) hS hb pt3 f1 (sg_htb (by decide +kernel)) wl_7_214 hl.1 (rest := []) rfl (Nat.le_of_ble_eq_true rfl) ⟨Nat.le_of_ble_eq_true rfl, Nat.le_of_ble_eq_true rfl⟩ ⟨Nat.le_of_ble_eq_true rfl, Nat.le_of_ble_eq_true rfl⟩ dX12_atom_8 (fun f4 locs hf4 hS => ?_)
  refine lv_if_eq (tgt := 31) X.1 X.2.1 dX12_atom_11 (by decide) (fun c5 => ?_) (fun c5 => ?_)
  · refine lv_iload_n X.1 X.2.1 dX12_atom_31 rfl (lv_at hl 0 rfl) ?_
    refine lv_bipush (v := 91) X.1 X.2.1 dX12_atom_32 (by decide +kernel) ?_
    refine lv_icmp_ne (tgt := 74) X.1 X.2.1 dX12_atom_34 (by decide) (fun c6 => ?_) (fun c6 => ?_)
    · refine lv_aload_n X.1 X.2.1 dX12_atom_74 rfl (lv_at hl 1 rfl) ?_
      refine ca_X12_isDigit X hK hG hC (fun _ h => h) hS hb a0 h0 ⟨by omega, by omega, by omega, by omega, by omega⟩ wl_7_187 hl.1 (rest := []) rfl (Nat.le_of_ble_eq_true rfl) ⟨Nat.le_of_ble_eq_true rfl, Nat.le_of_ble_eq_true rfl⟩ ⟨Nat.le_of_ble_eq_true rfl, Nat.le_of_ble_eq_true rfl⟩ dX12_atom_75 (fun f7 locs hf7 hS => ?_)
      have B9_86 : ∀ (H : Heap) (locs : List Loc) (ls : Array Slot) (lo9 : Int), lo ≤ lo9 → lo9 ≤ 241 → sgG (KR b 4 lo9 241 mr f P) D vwCl (fun q : Nat => base ≤ q) tys ad ks H → va_S (fun q : Nat => base ≤ q) s.heap H locs → lv_has ls 4 [(0, .ref a0)] → W p l e (headSpec (Cond.code yX12_atom cX12_atom 4 (some .int) :: sg_tbl) ({ frames := 11, cells := 0, slots := 0, locals := 249 })).room s m #[.ref a0] below meth c H locs 0 0 (MQ below (va_Qi (fun r (_ : Unit) => (fun r : Int32 => True) r) (fun _ => sgB (KR b 4 lo 241 mr f P) D vwCl base tys ad ks) (fun q : Nat => base ≤ q)) #[.ref a0] s 0 0 (fun q : Nat => base ≤ q)) (F0 m 86 ls []) := by
        intro H locs ls lo9 jl9 jm9 hG hS hl
        refine lv_iconst (v := 0) X.1 X.2.1 dX12_atom_86 (by decide +kernel) ?_
        refine lv_istore_n (lv' := [(2, .int 0), (0, .ref a0)]) X.1 X.2.1 dX12_atom_87 rfl hl (by decide) rfl (fun ls hl => ?_)
        refine lv_iconst (v := 0) X.1 X.2.1 dX12_atom_88 (by decide +kernel) ?_
        refine lv_istore_n (lv' := [(3, .int 0), (2, .int 0), (0, .ref a0)]) X.1 X.2.1 dX12_atom_89 rfl hl (by decide) rfl (fun ls hl => ?_)
        have B10_90 : ∀ (N : Nat) (H : Heap) (locs : List Loc) (ls : Array Slot) (z10_2 : Int32) (z10_3 : Int32) (lo10 : Int), lo9 ≤ lo10 → lo10 ≤ 241 → sgG (KR b 4 lo10 241 mr f P) D vwCl (fun q : Nat => base ≤ q) tys ad ks H → va_S (fun q : Nat => base ≤ q) s.heap H locs → lv_has ls 4 [(0, .ref a0), (2, .int z10_2), (3, .int z10_3)] → iv 0 4 z10_3 → (5 - z10_3.toInt).toNat ≤ N → W p l e (headSpec (Cond.code yX12_atom cX12_atom 4 (some .int) :: sg_tbl) ({ frames := 11, cells := 0, slots := 0, locals := 249 })).room s m #[.ref a0] below meth c H locs 0 0 (MQ below (va_Qi (fun r (_ : Unit) => (fun r : Int32 => True) r) (fun _ => sgB (KR b 4 lo 241 mr f P) D vwCl base tys ad ks) (fun q : Nat => base ≤ q)) #[.ref a0] s 0 0 (fun q : Nat => base ≤ q)) (F0 m 90 ls []) := by
          intro N; induction N with
          | zero =>
            intro H locs ls z10_2 z10_3 lo10 jl10 jm10 hG hS hl hz10_3 hN
            exact absurd hN (by have := iv_up hz10_3; omega)
          | succ N ih10 =>
            intro H locs ls z10_2 z10_3 lo10 jl10 jm10 hG hS hl hz10_3 hN10
            refine lv_aload_n X.1 X.2.1 dX12_atom_90 rfl (lv_at hl 0 rfl) ?_
            refine ca_X12_isDigit X hK hG hC (fun _ h => h) hS hb a0 h0 ⟨by omega, by omega, by omega, by omega, by omega⟩ wl_7_187 hl.1 (rest := []) rfl (Nat.le_of_ble_eq_true rfl) ⟨Nat.le_of_ble_eq_true rfl, Nat.le_of_ble_eq_true rfl⟩ ⟨Nat.le_of_ble_eq_true rfl, Nat.le_of_ble_eq_true rfl⟩ dX12_atom_91 (fun f11 locs hf11 hS => ?_)
            refine lv_if_eq (tgt := 156) X.1 X.2.1 dX12_atom_94 (by decide) (fun c12 => ?_) (fun c12 => ?_)
            · refine lv_iload_n X.1 X.2.1 dX12_atom_156 rfl (lv_at hl 1 rfl) ?_
              have hG := sgr_weak (d' := 4) (lo' := lo) (hi' := 241) (f' := f) hG (by omega) (by omega) (by omega) (by omega)
              exact sg_iret X hr hlk hb hK hC hG hS trivial dX12_atom_157
            · obtain ⟨v13, kv13, hv13⟩ := hf11.2 c12
              have ⟨lav13, uav13⟩ : lo10 ≤ v13.toInt ∧ v13.toInt ≤ 239 := hv13
              have hv13 : iv 0 239 v13 := ⟨by omega, uav13⟩
              refine lv_aload_n X.1 X.2.1 dX12_atom_97 rfl (lv_at hl 0 rfl) ?_
              refine gf_X12_11r X hK hG h0 wl_6_189 dX12_atom_98 (fun f14 hf14 kf14 => ?_)
              have ⟨laf14, uaf14⟩ : f ≤ f14.toInt ∧ f14.toInt ≤ 241 := hf14
              have hf14 : iv (-1) 241 f14 := ⟨by omega, by omega⟩
              refine lv_iconst (v := (-1)) X.1 X.2.1 dX12_atom_101 (by decide +kernel) ?_
              refine lv_icmp_ne (tgt := 156) X.1 X.2.1 dX12_atom_102 (by decide) (fun c15 => ?_) (fun c15 => ?_)
              · refine lv_iload_n X.1 X.2.1 dX12_atom_156 rfl (lv_at hl 1 rfl) ?_
                have hG := sgr_weak (d' := 4) (lo' := lo) (hi' := 241) (f' := f) hG (by omega) (by omega) (by omega) (by omega)
                exact sg_iret X hr hlk hb hK hC hG hS trivial dX12_atom_157
              · refine lv_iload_n X.1 X.2.1 dX12_atom_105 rfl (lv_at hl 2 rfl) ?_
                refine lv_iconst (v := 4) X.1 X.2.1 dX12_atom_106 (by decide +kernel) ?_
                refine lv_icmp_ne (tgt := 117) X.1 X.2.1 dX12_atom_107 (by decide) (fun c16 => ?_) (fun c16 => ?_)
                · refine lv_bipush (v := 10) X.1 X.2.1 dX12_atom_117 (by decide +kernel) ?_
                  refine lv_iload_n X.1 X.2.1 dX12_atom_119 rfl (lv_at hl 1 rfl) ?_
                  refine lv_imul X.1 X.2.1 dX12_atom_120 ?_
                  refine lv_topi (fun f17 ef17 => ?_)
                  refine lv_aload_n X.1 X.2.1 dX12_atom_121 rfl (lv_at hl 0 rfl) ?_
                  refine gf_X12_5r X hK hG h0 wl_6_183 dX12_atom_122 (fun q18 hq18 kq18 => ?_)
                  refine lv_aload_n X.1 X.2.1 dX12_atom_125 rfl (lv_at hl 0 rfl) ?_
                  refine gf_X12_8r X hK hG h0 wl_6_186 dX12_atom_126 (fun f19 hf19 kf19 => ?_)
                  refine lv_aload_n X.1 X.2.1 dX12_atom_129 rfl (lv_at hl 0 rfl) ?_
                  refine gg_X12_10r X hK hG h0 wl_6_188 kv13 dX12_atom_130 ?_
                  refine lv_iadd X.1 X.2.1 dX12_atom_133 ?_
                  refine lv_topi (fun f20 ef20 => ?_)
                  refine al_txt X hK hG hq18 hf19 hv13 ef20 dX12_atom_134 (fun f21 => ?_)
                  refine lv_iadd X.1 X.2.1 dX12_atom_135 ?_
                  refine lv_topi (fun f22 ef22 => ?_)
                  refine lv_bipush (v := 48) X.1 X.2.1 dX12_atom_136 (by decide +kernel) ?_
                  refine lv_isub X.1 X.2.1 dX12_atom_138 ?_
                  refine lv_topi (fun f23 ef23 => ?_)
                  refine lv_istore_n (lv' := [(2, .int f23), (0, .ref a0), (3, .int z10_3)]) X.1 X.2.1 dX12_atom_139 rfl hl (by decide) rfl (fun ls hl => ?_)
                  refine lv_aload_n X.1 X.2.1 dX12_atom_140 rfl (lv_at hl 1 rfl) ?_
                  refine lv_dup X.1 X.2.1 dX12_atom_141 rfl ?_
                  refine gg_X12_10r X hK hG h0 wl_6_188 kv13 dX12_atom_142 ?_
                  refine lv_iconst (v := 1) X.1 X.2.1 dX12_atom_145 (by decide +kernel) ?_
                  refine lv_iadd X.1 X.2.1 dX12_atom_146 ?_
                  refine lv_topi (fun f24 ef24 => ?_)
                  have sf24 : f24.toInt = v13.toInt + 1 := sg_inc (k := 1) ef24 hv13 (by decide +kernel)
                  have uf24 : f24.toInt ≤ 241 := Int.le_trans ((iv_add (a' := 1) (b' := 240) ef24 hv13 (iv_c 1 (a := 1) (b := 1) (by decide +kernel)) (by decide +kernel))).2 (by omega)
                  refine pf_X12_10R (lo2 := f24.toInt) (hi2 := 241) X hK hG hS h0 wl_6_188 ⟨_, rfl, Int.le_refl _, uf24⟩ dX12_atom_147 (fun H locs hG hS => ?_)
                  obtain ⟨y25, ey25⟩ : ∃ y : Int32, y = z10_3 + Int32.ofInt 1 := ⟨_, rfl⟩
                  refine lv_iinc (v := y25) (lv' := [(3, .int y25), (2, .int f23), (0, .ref a0)]) X.1 X.2.1 dX12_atom_150 hl (k := 2) rfl ey25.symm (by decide) rfl (fun ls hl => ?_)
                  refine lv_goto (tgt := 90) X.1 X.2.1 dX12_atom_153 (by decide) ?_
                  exact ih10 H _ _ f23 y25 f24.toInt (by omega) (by omega) hG hS (lv_sub hl [2, 1, 0] rfl) (iv_of (iv_add (a' := 1) (b' := 4) ey25 (iv_ne_hi (b' := 3) c16 hz10_3 (by decide +kernel)) (iv_c _ (a := 1) (b := 1) (by decide +kernel)) (by decide +kernel)) (a' := 0) (b' := 4) (by decide +kernel)) (iv_stepU ey25 (iv_ne_hi (b' := 3) c16 hz10_3 (by decide +kernel)) (by decide +kernel) hN10)
                · refine lv_aload_n X.1 X.2.1 dX12_atom_110 rfl (lv_at hl 0 rfl) ?_
                  refine ca_X12_fails X hK hG hC hS hb a0 h0 ⟨by omega, by omega, by omega, by omega, by omega⟩ wl_7_141 hl.1 (rest := []) rfl (Nat.le_of_ble_eq_true rfl) ⟨Nat.le_of_ble_eq_true rfl, Nat.le_of_ble_eq_true rfl⟩ ⟨Nat.le_of_ble_eq_true rfl, Nat.le_of_ble_eq_true rfl⟩ dX12_atom_111 (fun f26 H locs hf26 hG hS => ?_)
                  refine lv_pop X.1 X.2.1 dX12_atom_114 rfl ?_
                  refine lv_iconst (v := 0) X.1 X.2.1 dX12_atom_115 (by decide +kernel) ?_
                  have hG := sgr_weak (d' := 4) (lo' := lo) (hi' := 241) (f' := f) hG (by omega) (by omega) (by omega) (by omega)
                  exact sg_iret X hr hlk hb hK hC hG hS trivial dX12_atom_116
        exact B10_90 _ H _ _ 0 0 lo9 (by omega) (by omega) hG hS (lv_sub hl [2, 1, 0] rfl) (iv_of (iv_c 0 (a := 0) (b := 0) (by decide +kernel)) (a' := 0) (b' := 4) (by decide +kernel)) (Nat.le_refl _)
      refine lv_if_ne (tgt := 86) X.1 X.2.1 dX12_atom_78 (by decide) (fun c8 => ?_) (fun c8 => ?_)
      · obtain ⟨v27, kv27, hv27⟩ := hf7.2 c8
        have ⟨lav27, uav27⟩ : lo ≤ v27.toInt ∧ v27.toInt ≤ 239 := hv27
        have hv27 : iv 0 239 v27 := ⟨by omega, uav27⟩
        exact B9_86 H _ _ lo (by omega) (by omega) hG hS (lv_sub hl [1] rfl)
      · refine lv_aload_n X.1 X.2.1 dX12_atom_81 rfl (lv_at hl 1 rfl) ?_
        refine ca_X12_fails X hK hG hC hS hb a0 h0 ⟨by omega, by omega, by omega, by omega, by omega⟩ wl_7_141 hl.1 (rest := []) rfl (Nat.le_of_ble_eq_true rfl) ⟨Nat.le_of_ble_eq_true rfl, Nat.le_of_ble_eq_true rfl⟩ ⟨Nat.le_of_ble_eq_true rfl, Nat.le_of_ble_eq_true rfl⟩ dX12_atom_82 (fun f28 H locs hf28 hG hS => ?_)
        refine lv_pop X.1 X.2.1 dX12_atom_85 rfl ?_
        exact B9_86 H _ _ lo (by omega) (by omega) hG hS (lv_sub hl [1] rfl)
    · refine lv_aload_n X.1 X.2.1 dX12_atom_37 rfl (lv_at hl 1 rfl) ?_
      have uss29 : v2.toInt ≤ 240 := ((iv_of (sg_lk (iv_eqm (a' := 91) (b' := 91) c6 hf1 (iv_c 91 (a := 91) (b := 91) (by decide +kernel)) (by decide +kernel)) lv2 hv2) (a' := 0) (b' := 240) (by decide +kernel))).2
      have hG := sgr_str (lo' := v2.toInt) (hi' := 240) hG h0 kv2 ⟨Int.le_refl _, ((iv_of (sg_lk (iv_eqm (a' := 91) (b' := 91) c6 hf1 (iv_c 91 (a := 91) (b := 91) (by decide +kernel)) (by decide +kernel)) lv2 hv2) (a' := 0) (b' := 240) (by decide +kernel))).2⟩
      refine ca_X12_goesIn_4 X hK hG hC hS hb a0 h0 ⟨by omega, by omega, by omega, by omega, by omega⟩ wl_8_5 hl.1 (rest := []) rfl (Nat.le_of_ble_eq_true rfl) ⟨Nat.le_of_ble_eq_true rfl, Nat.le_of_ble_eq_true rfl⟩ ⟨Nat.le_of_ble_eq_true rfl, Nat.le_of_ble_eq_true rfl⟩ dX12_atom_38 (fun f30 tf30 H locs htf30 hf30 hWf30 hS => ?_)
      rcases hWf30 with ⟨rfl, hBf30⟩ | ⟨rfl, hBf30⟩
      · have hG := hBf30.2.2.2
        rw [htf30] at hG
        refine lv_if_ne (tgt := 46) X.1 X.2.1 dX12_atom_41 (by decide) (fun c31 => ?_) (fun c31 => ?_)
        · exact ((c31 (iv_one (iv_c 0 (a := 0) (b := 0) (by decide +kernel)) (iv_c 0 (a := 0) (b := 0) (by decide +kernel)) (by decide +kernel)))).elim
        · refine lv_iconst (v := 0) X.1 X.2.1 dX12_atom_44 (by decide +kernel) ?_
          have hG := sgr_weak (d' := 4) (lo' := lo) (hi' := 241) (f' := f) hG (by omega) (by omega) (by omega) (by omega)
          exact sg_iret X hr hlk hb hK hC hG hS trivial dX12_atom_45
      · have hG := hBf30.2.2.2
        rw [htf30] at hG
        refine lv_if_ne (tgt := 46) X.1 X.2.1 dX12_atom_41 (by decide) (fun c32 => ?_) (fun c32 => ?_)
        · refine lv_aload_n X.1 X.2.1 dX12_atom_46 rfl (lv_at hl 1 rfl) ?_
          refine ca_X12_sum_5 X hK hG hC hS hb a0 h0 ⟨by omega, by omega, by omega, by omega, by omega⟩ wl_7_233 hl.1 (rest := []) rfl (Nat.le_of_ble_eq_true rfl) ⟨Nat.le_of_ble_eq_true rfl, Nat.le_of_ble_eq_true rfl⟩ ⟨Nat.le_of_ble_eq_true rfl, Nat.le_of_ble_eq_true rfl⟩ dX12_atom_47 (fun f33 H locs hf33 hG hS => ?_)
          refine lv_istore_n (lv' := [(2, .int f33), (1, .int f1), (0, .ref a0)]) X.1 X.2.1 dX12_atom_50 rfl hl (by decide) rfl (fun ls hl => ?_)
          refine lv_aload_n X.1 X.2.1 dX12_atom_51 rfl (lv_at hl 2 rfl) ?_
          refine lv_bipush (v := 93) X.1 X.2.1 dX12_atom_52 (by decide +kernel) ?_
          refine ca_X12_takes X hK hG hC hS hb a0 h0 93 (iv_of (iv_c 93 (a := 93) (b := 93) (by decide +kernel)) (a' := 0) (b' := 127) (by decide +kernel)) ⟨by omega, by omega, by omega, by omega, by omega⟩ wl_7_217 hl.1 (rest := []) rfl (Nat.le_of_ble_eq_true rfl) ⟨Nat.le_of_ble_eq_true rfl, Nat.le_of_ble_eq_true rfl⟩ ⟨Nat.le_of_ble_eq_true rfl, Nat.le_of_ble_eq_true rfl⟩ dX12_atom_54 (fun f34 H locs hf34 hG hS => ?_)
          refine lv_if_ne (tgt := 62) X.1 X.2.1 dX12_atom_57 (by decide) (fun c35 => ?_) (fun c35 => ?_)
          · refine lv_aload_n X.1 X.2.1 dX12_atom_62 rfl (lv_at hl 2 rfl) ?_
            refine lv_dup X.1 X.2.1 dX12_atom_63 rfl ?_
            refine gf_X12_12r X hK hG h0 wl_6_190 dX12_atom_64 (fun f36 hf36 kf36 => ?_)
            refine lv_iconst (v := 1) X.1 X.2.1 dX12_atom_67 (by decide +kernel) ?_
            refine lv_isub X.1 X.2.1 dX12_atom_68 ?_
            refine lv_topi (fun f37 ef37 => ?_)
            refine pf_X12_12R (d2 := 4) X hK hG hS h0 wl_6_190 ⟨_, rfl, (iv_of (iv_sub (a' := 4) (b' := 5) ef37 hf36 (iv_c 1 (a := 1) (b := 1) (by decide +kernel)) (by decide +kernel)) (a' := 4) (b' := 6) (by decide +kernel))⟩ dX12_atom_69 (fun H locs hG hS => ?_)
            refine lv_iload_n X.1 X.2.1 dX12_atom_72 rfl (lv_at hl 0 rfl) ?_
            have hG := sgr_weak (d' := 4) (lo' := lo) (hi' := 241) (f' := f) hG (by omega) (by omega) (by omega) (by omega)
            exact sg_iret X hr hlk hb hK hC hG hS trivial dX12_atom_73
          · refine lv_iconst (v := 0) X.1 X.2.1 dX12_atom_60 (by decide +kernel) ?_
            have hG := sgr_weak (d' := 4) (lo' := lo) (hi' := 241) (f' := f) hG (by omega) (by omega) (by omega) (by omega)
            exact sg_iret X hr hlk hb hK hC hG hS trivial dX12_atom_61
        · exact ((iv_no (a := 1) (b := 0) (iv_eqm c32 (iv_c 1 (a := 1) (b := 1) (by decide +kernel)) (iv_c 0 (a := 0) (b := 0) (by decide +kernel)) (by decide +kernel)) (by decide +kernel))).elim
  · refine lv_aload_n X.1 X.2.1 dX12_atom_14 rfl (lv_at hl 1 rfl) ?_
    refine lv_dup X.1 X.2.1 dX12_atom_15 rfl ?_
    refine gg_X12_10r X hK hG h0 wl_6_188 kv2 dX12_atom_16 ?_
    refine lv_iconst (v := 1) X.1 X.2.1 dX12_atom_19 (by decide +kernel) ?_
    refine lv_iadd X.1 X.2.1 dX12_atom_20 ?_
    refine lv_topi (fun f38 ef38 => ?_)
    have sf38 : f38.toInt = v2.toInt + 1 := sg_inc (k := 1) ef38 (sg_lk (hf4.2 c5) lv2 hv2) (by decide +kernel)
    have uf38 : f38.toInt ≤ 241 := Int.le_trans ((iv_add (a' := 1) (b' := 240) ef38 (sg_lk (hf4.2 c5) lv2 hv2) (iv_c 1 (a := 1) (b := 1) (by decide +kernel)) (by decide +kernel))).2 (by omega)
    refine pf_X12_10R (lo2 := f38.toInt) (hi2 := 241) X hK hG hS h0 wl_6_188 ⟨_, rfl, Int.le_refl _, uf38⟩ dX12_atom_21 (fun H locs hG hS => ?_)
    refine lv_aload_n X.1 X.2.1 dX12_atom_24 rfl (lv_at hl 1 rfl) ?_
    refine gf_X12_4r X hK hG h0 wl_6_182 dX12_atom_25 (fun q39 hq39 kq39 => ?_)
    refine lv_iload_n X.1 X.2.1 dX12_atom_28 rfl (lv_at hl 0 rfl) ?_
    refine al_48r X hK hG hq39 (iv_vpin (hf4.2 c5) (by decide +kernel)) dX12_atom_29 (fun f40 hf40 => ?_)
    have hG := sgr_weak (d' := 4) (lo' := lo) (hi' := 241) (f' := f) hG (by omega) (by omega) (by omega) (by omega)
    exact sg_iret X hr hlk hb hK hC hG hS trivial dX12_atom_30

theorem ca_X12_atom_4  {b : Bool} {lo mr f : Int}  (X : CallFix p m c cc nL s args sg_tbl own) (hK : va_K D vwCl tys s) (hG : sgG (KR b 4 lo 241 mr f P) D vwCl (fun q : Nat => base ≤ q) tys ad ks H) (hC : sgC base s) (hS : va_S (fun q : Nat => base ≤ q) s.heap H locs) (hb : base ≤ s.heap.size) (a0 : Nat) (h0 : isK ad ks 12 a0) (hlo : 0 ≤ lo ∧ lo ≤ 241 ∧ -1 ≤ f ∧ f ≤ 0 ∧ 0 ≤ mr) (hl : Cond.methodLink own index yX12_atom ∈ sg_tbl) (hsize : ls.size = nL) (hst : st0 = [].reverse ++ .ref a0 :: rest) (hW : (rest.map fun v => v.category).sum ≤ 8) (hR : 12 ≤ R.frames ∧ 272 ≤ R.locals) (hf : cells ≤ R.cells ∧ slots ≤ R.slots) (hdg : decode cc pc = .ok (.invokevirtual index, 3)) (kk : ∀ (r : Int32) (H1 : Heap) (locs1 : List Loc), (fun r : Int32 => True) r → sgG (KR b 4 lo 241 mr f P) D vwCl (fun q : Nat => base ≤ q) tys ad ks H1 → va_S (fun q : Nat => base ≤ q) s.heap H1 locs1 → W p l e R s m args below meth c H1 locs1 cells slots Q (F0 m (pc + 3) ls (.int r :: rest))) : W p l e R s m args below meth c H locs cells slots Q (F0 m pc ls st0) :=
  sg_callVi X hK hG hC hS hb (m_X12_atom_4 l a0 h0 hlo) h0 (k := 12) (ci := 12) rfl (C := RX12) (T := TX12) (N := 53) rfl wl_8_4 wl_1_13 wl_8_3 wl_0_66 (n := 0) (by decide +kernel) rfl rfl rfl hl hsize hst hW hR hf hdg kk

set_option maxHeartbeats 8000000 in
set_option maxRecDepth 100000 in
theorem m_X12_term_4 (l : Launch) {D : va_G} {base : Nat} {tys : List (ClassId × FieldType)} {ad ks : List Nat} {P : sgPm}{b : Bool} {lo mr f : Int}  (a0 : Nat) (h0 : isK ad ks 12 a0) (hlo : 0 ≤ lo ∧ lo ≤ 241 ∧ -1 ≤ f ∧ f ≤ 0 ∧ 0 ≤ mr) : sgMi l (KR b 4 lo 241 mr f P) D vwCl base tys ad ks yX12_term cX12_term 5 (some .int) ({ frames := 12, cells := 0, slots := 0, locals := 272 }) [.ref a0] (fun r : Int32 => True) := by
  refine sg_ofW (by decide +kernel) (Nat.le_of_ble_eq_true rfl) (fun p e s m below meth c X hr hlk hb hK hC hG ls hl => ?_)
  have hS : va_S (fun q : Nat => base ≤ q) s.heap s.heap [] := va_S.rf
  have hl : lv_has ls 5 [(0, .ref a0)] := hl
  refine lv_aload_n X.1 X.2.1 dX12_term_0 rfl (lv_at hl 0 rfl) ?_
  refine ca_X12_atom_4 X hK hG hC hS hb a0 h0 ⟨by omega, by omega, by omega, by omega, by omega⟩ wl_8_1 hl.1 (rest := []) rfl (Nat.le_of_ble_eq_true rfl) ⟨Nat.le_of_ble_eq_true rfl, Nat.le_of_ble_eq_true rfl⟩ ⟨Nat.le_of_ble_eq_true rfl, Nat.le_of_ble_eq_true rfl⟩ dX12_term_1 (fun f1 H locs hf1 hG hS => ?_)
  refine lv_istore_n (lv' := [(1, .int f1), (0, .ref a0)]) X.1 X.2.1 dX12_term_4 rfl hl (by decide) rfl (fun ls hl => ?_)
  have B2_5 : ∀ (N : Nat) (H : Heap) (locs : List Loc) (ls : Array Slot) (z2_1 : Int32) (lo2 : Int), lo ≤ lo2 → lo2 ≤ 241 → sgG (KR b 4 lo2 241 mr f P) D vwCl (fun q : Nat => base ≤ q) tys ad ks H → va_S (fun q : Nat => base ≤ q) s.heap H locs → lv_has ls 5 [(0, .ref a0), (1, .int z2_1)] → (242 - lo2).toNat ≤ N → W p l e (headSpec (Cond.code yX12_term cX12_term 5 (some .int) :: sg_tbl) ({ frames := 12, cells := 0, slots := 0, locals := 272 })).room s m #[.ref a0] below meth c H locs 0 0 (MQ below (va_Qi (fun r (_ : Unit) => (fun r : Int32 => True) r) (fun _ => sgB (KR b 4 lo 241 mr f P) D vwCl base tys ad ks) (fun q : Nat => base ≤ q)) #[.ref a0] s 0 0 (fun q : Nat => base ≤ q)) (F0 m 5 ls []) := by
    intro N; induction N with
    | zero =>
      intro H locs ls z2_1 lo2 jl2 jm2 hG hS hl hN
      exact absurd hN (by have := jm2; omega)
    | succ N ih2 =>
      intro H locs ls z2_1 lo2 jl2 jm2 hG hS hl hN2
      refine lv_aload_n X.1 X.2.1 dX12_term_5 rfl (lv_at hl 0 rfl) ?_
      refine gf_X12_11r X hK hG h0 wl_6_189 dX12_term_6 (fun f3 hf3 kf3 => ?_)
      have ⟨laf3, uaf3⟩ : f ≤ f3.toInt ∧ f3.toInt ≤ 241 := hf3
      have hf3 : iv (-1) 241 f3 := ⟨by omega, by omega⟩
      refine lv_iconst (v := (-1)) X.1 X.2.1 dX12_term_9 (by decide +kernel) ?_
      refine lv_icmp_ne (tgt := 94) X.1 X.2.1 dX12_term_10 (by decide) (fun c4 => ?_) (fun c4 => ?_)
      · refine lv_iload_n X.1 X.2.1 dX12_term_94 rfl (lv_at hl 1 rfl) ?_
        have hG := sgr_weak (d' := 4) (lo' := lo) (hi' := 241) (f' := f) hG (by omega) (by omega) (by omega) (by omega)
        exact sg_iret X hr hlk hb hK hC hG hS trivial dX12_term_95
      · refine lv_aload_n X.1 X.2.1 dX12_term_13 rfl (lv_at hl 0 rfl) ?_
        refine ca_X12_look X hK hG hC hS hb a0 h0 ⟨by omega, by omega, by omega, by omega, by omega⟩ ⟨by omega, by omega, by omega⟩ wl_7_137 hl.1 (rest := []) rfl (Nat.le_of_ble_eq_true rfl) ⟨Nat.le_of_ble_eq_true rfl, Nat.le_of_ble_eq_true rfl⟩ ⟨Nat.le_of_ble_eq_true rfl, Nat.le_of_ble_eq_true rfl⟩ dX12_term_14 (fun f5 tf5 H locs htf5 hf5 hWf5 hS => ?_)
        obtain ⟨hBf5, v6, kv6, hv6, lv6⟩ := hWf5
        have hG := hBf5.2.2.2
        rw [htf5] at hG kv6
        have ⟨lav6, uav6⟩ : lo2 ≤ v6.toInt ∧ v6.toInt ≤ 241 := hv6
        have hv6 : iv 0 241 v6 := ⟨by omega, by omega⟩
        refine lv_bipush (v := 42) X.1 X.2.1 dX12_term_17 (by decide +kernel) ?_
        have B8_31 : ∀ (H : Heap) (locs : List Loc) (ls : Array Slot) (lo8 : Int), lo2 ≤ lo8 → lo8 ≤ 240 → sgG (KR b 4 lo8 240 mr f P) D vwCl (fun q : Nat => base ≤ q) tys ad ks H → va_S (fun q : Nat => base ≤ q) s.heap H locs → lv_has ls 5 [(0, .ref a0), (1, .int z2_1)] → W p l e (headSpec (Cond.code yX12_term cX12_term 5 (some .int) :: sg_tbl) ({ frames := 12, cells := 0, slots := 0, locals := 272 })).room s m #[.ref a0] below meth c H locs 0 0 (MQ below (va_Qi (fun r (_ : Unit) => (fun r : Int32 => True) r) (fun _ => sgB (KR b 4 lo 241 mr f P) D vwCl base tys ad ks) (fun q : Nat => base ≤ q)) #[.ref a0] s 0 0 (fun q : Nat => base ≤ q)) (F0 m 31 ls []) := by
          intro H locs ls lo8 jl8 jm8 hG hS hl
          refine lv_aload_n X.1 X.2.1 dX12_term_31 rfl (lv_at hl 0 rfl) ?_
          refine ca_X12_look X hK hG hC hS hb a0 h0 ⟨by omega, by omega, by omega, by omega, by omega⟩ ⟨by omega, by omega, by omega⟩ wl_7_137 hl.1 (rest := []) rfl (Nat.le_of_ble_eq_true rfl) ⟨Nat.le_of_ble_eq_true rfl, Nat.le_of_ble_eq_true rfl⟩ ⟨Nat.le_of_ble_eq_true rfl, Nat.le_of_ble_eq_true rfl⟩ dX12_term_32 (fun f9 tf9 H locs htf9 hf9 hWf9 hS => ?_)
          obtain ⟨hBf9, v10, kv10, hv10, lv10⟩ := hWf9
          have hG := hBf9.2.2.2
          rw [htf9] at hG kv10
          have ⟨lav10, uav10⟩ : lo8 ≤ v10.toInt ∧ v10.toInt ≤ 240 := hv10
          have hv10 : iv 0 240 v10 := ⟨by omega, by omega⟩
          refine lv_bipush (v := 42) X.1 X.2.1 dX12_term_35 (by decide +kernel) ?_
          have B12_45 : ∀ (locs : List Loc) (ls : Array Slot) (w12_0 : Int32), va_S (fun q : Nat => base ≤ q) s.heap H locs → lv_has ls 5 [(0, .ref a0), (1, .int z2_1)] → iv 0 1 w12_0 → W p l e (headSpec (Cond.code yX12_term cX12_term 5 (some .int) :: sg_tbl) ({ frames := 12, cells := 0, slots := 0, locals := 272 })).room s m #[.ref a0] below meth c H locs 0 0 (MQ below (va_Qi (fun r (_ : Unit) => (fun r : Int32 => True) r) (fun _ => sgB (KR b 4 lo 241 mr f P) D vwCl base tys ad ks) (fun q : Nat => base ≤ q)) #[.ref a0] s 0 0 (fun q : Nat => base ≤ q)) (F0 m 45 ls [.int w12_0]) := by
            intro locs ls w12_0 hS hl hw12_0
            refine lv_istore_n (lv' := [(2, .int w12_0), (0, .ref a0), (1, .int z2_1)]) X.1 X.2.1 dX12_term_45 rfl hl (by decide) rfl (fun ls hl => ?_)
            refine lv_aload_n X.1 X.2.1 dX12_term_46 rfl (lv_at hl 1 rfl) ?_
            refine lv_dup X.1 X.2.1 dX12_term_47 rfl ?_
            refine gg_X12_10r X hK hG h0 wl_6_188 kv10 dX12_term_48 ?_
            refine lv_iconst (v := 1) X.1 X.2.1 dX12_term_51 (by decide +kernel) ?_
            refine lv_iadd X.1 X.2.1 dX12_term_52 ?_
            refine lv_topi (fun f13 ef13 => ?_)
            have sf13 : f13.toInt = v10.toInt + 1 := sg_inc (k := 1) ef13 hv10 (by decide +kernel)
            have uf13 : f13.toInt ≤ 241 := Int.le_trans ((iv_add (a' := 1) (b' := 241) ef13 hv10 (iv_c 1 (a := 1) (b := 1) (by decide +kernel)) (by decide +kernel))).2 (by omega)
            refine pf_X12_10R (lo2 := f13.toInt) (hi2 := 241) X hK hG hS h0 wl_6_188 ⟨_, rfl, Int.le_refl _, uf13⟩ dX12_term_53 (fun H locs hG hS => ?_)
            refine lv_aload_n X.1 X.2.1 dX12_term_56 rfl (lv_at hl 1 rfl) ?_
            refine ca_X12_atom_4 X hK hG hC hS hb a0 h0 ⟨by omega, by omega, by omega, by omega, by omega⟩ wl_8_1 hl.1 (rest := []) rfl (Nat.le_of_ble_eq_true rfl) ⟨Nat.le_of_ble_eq_true rfl, Nat.le_of_ble_eq_true rfl⟩ ⟨Nat.le_of_ble_eq_true rfl, Nat.le_of_ble_eq_true rfl⟩ dX12_term_57 (fun f14 H locs hf14 hG hS => ?_)
            obtain ⟨g15, eg15⟩ : ∃ y : Int64, y = (f14 : Int32).toInt64 := ⟨_, rfl⟩
            refine lv_i2l (v := g15) X.1 X.2.1 dX12_term_60 eg15.symm ?_
            refine lv_lstore_n (lv' := [(3, .long g15), (2, .int w12_0), (0, .ref a0), (1, .int z2_1)]) X.1 X.2.1 dX12_term_61 rfl hl (by decide) rfl (fun ls hl => ?_)
            refine lv_iload_n X.1 X.2.1 dX12_term_62 rfl (lv_at hl 1 rfl) ?_
            have B17_87 : ∀ (locs : List Loc) (ls : Array Slot) (w17_0 : Int64), va_S (fun q : Nat => base ≤ q) s.heap H locs → lv_has ls 5 [(0, .ref a0)] → W p l e (headSpec (Cond.code yX12_term cX12_term 5 (some .int) :: sg_tbl) ({ frames := 12, cells := 0, slots := 0, locals := 272 })).room s m #[.ref a0] below meth c H locs 0 0 (MQ below (va_Qi (fun r (_ : Unit) => (fun r : Int32 => True) r) (fun _ => sgB (KR b 4 lo 241 mr f P) D vwCl base tys ad ks) (fun q : Nat => base ≤ q)) #[.ref a0] s 0 0 (fun q : Nat => base ≤ q)) (F0 m 87 ls [.long w17_0]) := by
              intro locs ls w17_0 hS hl
              refine ca_X12_within X hK (sgr_toKT hG (by omega) (by omega) (by omega)) hC (fun _ h => h) hS hb w17_0 wl_8_9 hl.1 (rest := []) rfl (Nat.le_of_ble_eq_true rfl) ⟨Nat.le_of_ble_eq_true rfl, Nat.le_of_ble_eq_true rfl⟩ ⟨Nat.le_of_ble_eq_true rfl, Nat.le_of_ble_eq_true rfl⟩ dX12_term_87 (fun f18 locs hf18 hS => ?_)
              refine lv_istore_n (lv' := [(1, .int f18), (0, .ref a0)]) X.1 X.2.1 dX12_term_90 rfl hl (by decide) rfl (fun ls hl => ?_)
              refine lv_goto (tgt := 5) X.1 X.2.1 dX12_term_91 (by decide) ?_
              exact ih2 H _ _ f18 f13.toInt (by omega) (by omega) hG hS (lv_sub hl [1, 0] rfl) (by omega)
            refine lv_if_eq (tgt := 73) X.1 X.2.1 dX12_term_63 (by decide) (fun c16 => ?_) (fun c16 => ?_)
            · refine lv_lload_n X.1 X.2.1 dX12_term_73 rfl (lv_at hl 0 rfl) ?_
              refine lv_lconst (v := 0) X.1 X.2.1 dX12_term_74 (by decide +kernel) ?_
              refine W.lcmp X.1 X.2.1 dX12_term_75 ?_
              refine lv_topi (fun f19 ef19 => ?_)
              refine lv_if_ne (tgt := 83) X.1 X.2.1 dX12_term_76 (by decide) (fun c20 => ?_) (fun c20 => ?_)
              · refine lv_iload_n X.1 X.2.1 dX12_term_83 rfl (lv_at hl 3 rfl) ?_
                obtain ⟨g21, eg21⟩ : ∃ y : Int64, y = (z2_1 : Int32).toInt64 := ⟨_, rfl⟩
                refine lv_i2l (v := g21) X.1 X.2.1 dX12_term_84 eg21.symm ?_
                refine lv_lload_n X.1 X.2.1 dX12_term_85 rfl (lv_at hl 0 rfl) ?_
                refine lv_ldiv X.1 X.2.1 dX12_term_86 (sg_lcmp0 ef19 c20) ?_
                refine lv_topl (fun g22 eg22 => ?_)
                exact B17_87 _ _ g22 hS (lv_sub hl [2] rfl)
              · refine lv_lconst (v := 0) X.1 X.2.1 dX12_term_79 (by decide +kernel) ?_
                refine lv_goto (tgt := 87) X.1 X.2.1 dX12_term_80 (by decide) ?_
                exact B17_87 _ _ 0 hS (lv_sub hl [2] rfl)
            · refine lv_iload_n X.1 X.2.1 dX12_term_66 rfl (lv_at hl 3 rfl) ?_
              obtain ⟨g23, eg23⟩ : ∃ y : Int64, y = (z2_1 : Int32).toInt64 := ⟨_, rfl⟩
              refine lv_i2l (v := g23) X.1 X.2.1 dX12_term_67 eg23.symm ?_
              refine lv_lload_n X.1 X.2.1 dX12_term_68 rfl (lv_at hl 0 rfl) ?_
              refine lv_lmul X.1 X.2.1 dX12_term_69 ?_
              refine lv_topl (fun g24 eg24 => ?_)
              refine lv_goto (tgt := 87) X.1 X.2.1 dX12_term_70 (by decide) ?_
              exact B17_87 _ _ g24 hS (lv_sub hl [2] rfl)
          refine lv_icmp_ne (tgt := 44) X.1 X.2.1 dX12_term_37 (by decide) (fun c11 => ?_) (fun c11 => ?_)
          · refine lv_iconst (v := 0) X.1 X.2.1 dX12_term_44 (by decide +kernel) ?_
            exact B12_45 _ _ 0 hS (lv_sub hl [0, 1] rfl) (iv_of (iv_c 0 (a := 0) (b := 0) (by decide +kernel)) (a' := 0) (b' := 1) (by decide +kernel))
          · refine lv_iconst (v := 1) X.1 X.2.1 dX12_term_40 (by decide +kernel) ?_
            refine lv_goto (tgt := 45) X.1 X.2.1 dX12_term_41 (by decide) ?_
            exact B12_45 _ _ 1 hS (lv_sub hl [0, 1] rfl) (iv_of (iv_c 1 (a := 1) (b := 1) (by decide +kernel)) (a' := 0) (b' := 1) (by decide +kernel))
        refine lv_icmp_eq (tgt := 31) X.1 X.2.1 dX12_term_19 (by decide) (fun c7 => ?_) (fun c7 => ?_)
        · have uss25 : v6.toInt ≤ 240 := ((iv_of (sg_lk (iv_eqm (a' := 42) (b' := 42) c7 hf5 (iv_c 42 (a := 42) (b := 42) (by decide +kernel)) (by decide +kernel)) lv6 hv6) (a' := 0) (b' := 240) (by decide +kernel))).2
          have hG := sgr_str (lo' := v6.toInt) (hi' := 240) hG h0 kv6 ⟨Int.le_refl _, ((iv_of (sg_lk (iv_eqm (a' := 42) (b' := 42) c7 hf5 (iv_c 42 (a := 42) (b := 42) (by decide +kernel)) (by decide +kernel)) lv6 hv6) (a' := 0) (b' := 240) (by decide +kernel))).2⟩
          exact B8_31 H _ _ v6.toInt (by omega) (by omega) hG hS (lv_sub hl [0, 1] rfl)
        · refine lv_aload_n X.1 X.2.1 dX12_term_22 rfl (lv_at hl 0 rfl) ?_
          refine ca_X12_look X hK hG hC hS hb a0 h0 ⟨by omega, by omega, by omega, by omega, by omega⟩ ⟨by omega, by omega, by omega⟩ wl_7_137 hl.1 (rest := []) rfl (Nat.le_of_ble_eq_true rfl) ⟨Nat.le_of_ble_eq_true rfl, Nat.le_of_ble_eq_true rfl⟩ ⟨Nat.le_of_ble_eq_true rfl, Nat.le_of_ble_eq_true rfl⟩ dX12_term_23 (fun f26 tf26 H locs htf26 hf26 hWf26 hS => ?_)
          obtain ⟨hBf26, v27, kv27, hv27, lv27⟩ := hWf26
          have hG := hBf26.2.2.2
          rw [htf26] at hG kv27
          have ⟨lav27, uav27⟩ : lo2 ≤ v27.toInt ∧ v27.toInt ≤ 241 := hv27
          have hv27 : iv 0 241 v27 := ⟨by omega, by omega⟩
          refine lv_bipush (v := 47) X.1 X.2.1 dX12_term_26 (by decide +kernel) ?_
          refine lv_icmp_ne (tgt := 94) X.1 X.2.1 dX12_term_28 (by decide) (fun c28 => ?_) (fun c28 => ?_)
          · refine lv_iload_n X.1 X.2.1 dX12_term_94 rfl (lv_at hl 1 rfl) ?_
            have hG := sgr_weak (d' := 4) (lo' := lo) (hi' := 241) (f' := f) hG (by omega) (by omega) (by omega) (by omega)
            exact sg_iret X hr hlk hb hK hC hG hS trivial dX12_term_95
          · have uss29 : v27.toInt ≤ 240 := ((iv_of (sg_lk (iv_eqm (a' := 47) (b' := 47) c28 hf26 (iv_c 47 (a := 47) (b := 47) (by decide +kernel)) (by decide +kernel)) lv27 hv27) (a' := 0) (b' := 240) (by decide +kernel))).2
            have hG := sgr_str (lo' := v27.toInt) (hi' := 240) hG h0 kv27 ⟨Int.le_refl _, ((iv_of (sg_lk (iv_eqm (a' := 47) (b' := 47) c28 hf26 (iv_c 47 (a := 47) (b := 47) (by decide +kernel)) (by decide +kernel)) lv27 hv27) (a' := 0) (b' := 240) (by decide +kernel))).2⟩
            exact B8_31 H _ _ v27.toInt (by omega) (by omega) hG hS (lv_sub hl [0, 1] rfl)
  exact B2_5 _ H _ _ f1 lo (by omega) (by omega) hG hS (lv_sub hl [1, 0] rfl) (Nat.le_refl _)

theorem ca_X12_term_4  {b : Bool} {lo mr f : Int}  (X : CallFix p m c cc nL s args sg_tbl own) (hK : va_K D vwCl tys s) (hG : sgG (KR b 4 lo 241 mr f P) D vwCl (fun q : Nat => base ≤ q) tys ad ks H) (hC : sgC base s) (hS : va_S (fun q : Nat => base ≤ q) s.heap H locs) (hb : base ≤ s.heap.size) (a0 : Nat) (h0 : isK ad ks 12 a0) (hlo : 0 ≤ lo ∧ lo ≤ 241 ∧ -1 ≤ f ∧ f ≤ 0 ∧ 0 ≤ mr) (hl : Cond.methodLink own index yX12_term ∈ sg_tbl) (hsize : ls.size = nL) (hst : st0 = [].reverse ++ .ref a0 :: rest) (hW : (rest.map fun v => v.category).sum ≤ 8) (hR : 13 ≤ R.frames ∧ 296 ≤ R.locals) (hf : cells ≤ R.cells ∧ slots ≤ R.slots) (hdg : decode cc pc = .ok (.invokevirtual index, 3)) (kk : ∀ (r : Int32) (H1 : Heap) (locs1 : List Loc), (fun r : Int32 => True) r → sgG (KR b 4 lo 241 mr f P) D vwCl (fun q : Nat => base ≤ q) tys ad ks H1 → va_S (fun q : Nat => base ≤ q) s.heap H1 locs1 → W p l e R s m args below meth c H1 locs1 cells slots Q (F0 m (pc + 3) ls (.int r :: rest))) : W p l e R s m args below meth c H locs cells slots Q (F0 m pc ls st0) :=
  sg_callVi X hK hG hC hS hb (m_X12_term_4 l a0 h0 hlo) h0 (k := 12) (ci := 12) rfl (C := RX12) (T := TX12) (N := 53) rfl wl_8_0 wl_1_13 wl_7_239 wl_0_65 (n := 0) (by decide +kernel) rfl rfl rfl hl hsize hst hW hR hf hdg kk

set_option maxHeartbeats 8000000 in
set_option maxRecDepth 100000 in
theorem m_X12_sum_4 (l : Launch) {D : va_G} {base : Nat} {tys : List (ClassId × FieldType)} {ad ks : List Nat} {P : sgPm}{b : Bool} {lo mr f : Int}  (a0 : Nat) (h0 : isK ad ks 12 a0) (hlo : 0 ≤ lo ∧ lo ≤ 241 ∧ -1 ≤ f ∧ f ≤ 0 ∧ 0 ≤ mr) : sgMi l (KR b 4 lo 241 mr f P) D vwCl base tys ad ks yX12_sum cX12_sum 5 (some .int) ({ frames := 13, cells := 0, slots := 0, locals := 296 }) [.ref a0] (fun r : Int32 => True) := by
  refine sg_ofW (by decide +kernel) (Nat.le_of_ble_eq_true rfl) (fun p e s m below meth c X hr hlk hb hK hC hG ls hl => ?_)
  have hS : va_S (fun q : Nat => base ≤ q) s.heap s.heap [] := va_S.rf
  have hl : lv_has ls 5 [(0, .ref a0)] := hl
  refine lv_aload_n X.1 X.2.1 dX12_sum_0 rfl (lv_at hl 0 rfl) ?_
  refine ca_X12_term_4 X hK hG hC hS hb a0 h0 ⟨by omega, by omega, by omega, by omega, by omega⟩ wl_7_237 hl.1 (rest := []) rfl (Nat.le_of_ble_eq_true rfl) ⟨Nat.le_of_ble_eq_true rfl, Nat.le_of_ble_eq_true rfl⟩ ⟨Nat.le_of_ble_eq_true rfl, Nat.le_of_ble_eq_true rfl⟩ dX12_sum_1 (fun f1 H locs hf1 hG hS => ?_)
  refine lv_istore_n (lv' := [(1, .int f1), (0, .ref a0)]) X.1 X.2.1 dX12_sum_4 rfl hl (by decide) rfl (fun ls hl => ?_)
  have B2_5 : ∀ (N : Nat) (H : Heap) (locs : List Loc) (ls : Array Slot) (z2_1 : Int32) (lo2 : Int), lo ≤ lo2 → lo2 ≤ 241 → sgG (KR b 4 lo2 241 mr f P) D vwCl (fun q : Nat => base ≤ q) tys ad ks H → va_S (fun q : Nat => base ≤ q) s.heap H locs → lv_has ls 5 [(0, .ref a0), (1, .int z2_1)] → (242 - lo2).toNat ≤ N → W p l e (headSpec (Cond.code yX12_sum cX12_sum 5 (some .int) :: sg_tbl) ({ frames := 13, cells := 0, slots := 0, locals := 296 })).room s m #[.ref a0] below meth c H locs 0 0 (MQ below (va_Qi (fun r (_ : Unit) => (fun r : Int32 => True) r) (fun _ => sgB (KR b 4 lo 241 mr f P) D vwCl base tys ad ks) (fun q : Nat => base ≤ q)) #[.ref a0] s 0 0 (fun q : Nat => base ≤ q)) (F0 m 5 ls []) := by
    intro N; induction N with
    | zero =>
      intro H locs ls z2_1 lo2 jl2 jm2 hG hS hl hN
      exact absurd hN (by have := jm2; omega)
    | succ N ih2 =>
      intro H locs ls z2_1 lo2 jl2 jm2 hG hS hl hN2
      refine lv_aload_n X.1 X.2.1 dX12_sum_5 rfl (lv_at hl 0 rfl) ?_
      refine gf_X12_11r X hK hG h0 wl_6_189 dX12_sum_6 (fun f3 hf3 kf3 => ?_)
      have ⟨laf3, uaf3⟩ : f ≤ f3.toInt ∧ f3.toInt ≤ 241 := hf3
      have hf3 : iv (-1) 241 f3 := ⟨by omega, by omega⟩
      refine lv_iconst (v := (-1)) X.1 X.2.1 dX12_sum_9 (by decide +kernel) ?_
      refine lv_icmp_ne (tgt := 84) X.1 X.2.1 dX12_sum_10 (by decide) (fun c4 => ?_) (fun c4 => ?_)
      · refine lv_iload_n X.1 X.2.1 dX12_sum_84 rfl (lv_at hl 1 rfl) ?_
        have hG := sgr_weak (d' := 4) (lo' := lo) (hi' := 241) (f' := f) hG (by omega) (by omega) (by omega) (by omega)
        exact sg_iret X hr hlk hb hK hC hG hS trivial dX12_sum_85
      · refine lv_aload_n X.1 X.2.1 dX12_sum_13 rfl (lv_at hl 0 rfl) ?_
        refine ca_X12_look X hK hG hC hS hb a0 h0 ⟨by omega, by omega, by omega, by omega, by omega⟩ ⟨by omega, by omega, by omega⟩ wl_7_137 hl.1 (rest := []) rfl (Nat.le_of_ble_eq_true rfl) ⟨Nat.le_of_ble_eq_true rfl, Nat.le_of_ble_eq_true rfl⟩ ⟨Nat.le_of_ble_eq_true rfl, Nat.le_of_ble_eq_true rfl⟩ dX12_sum_14 (fun f5 tf5 H locs htf5 hf5 hWf5 hS => ?_)
        obtain ⟨hBf5, v6, kv6, hv6, lv6⟩ := hWf5
        have hG := hBf5.2.2.2
        rw [htf5] at hG kv6
        have ⟨lav6, uav6⟩ : lo2 ≤ v6.toInt ∧ v6.toInt ≤ 241 := hv6
        have hv6 : iv 0 241 v6 := ⟨by omega, by omega⟩
        refine lv_bipush (v := 43) X.1 X.2.1 dX12_sum_17 (by decide +kernel) ?_
        have B8_31 : ∀ (H : Heap) (locs : List Loc) (ls : Array Slot) (lo8 : Int), lo2 ≤ lo8 → lo8 ≤ 240 → sgG (KR b 4 lo8 240 mr f P) D vwCl (fun q : Nat => base ≤ q) tys ad ks H → va_S (fun q : Nat => base ≤ q) s.heap H locs → lv_has ls 5 [(0, .ref a0), (1, .int z2_1)] → W p l e (headSpec (Cond.code yX12_sum cX12_sum 5 (some .int) :: sg_tbl) ({ frames := 13, cells := 0, slots := 0, locals := 296 })).room s m #[.ref a0] below meth c H locs 0 0 (MQ below (va_Qi (fun r (_ : Unit) => (fun r : Int32 => True) r) (fun _ => sgB (KR b 4 lo 241 mr f P) D vwCl base tys ad ks) (fun q : Nat => base ≤ q)) #[.ref a0] s 0 0 (fun q : Nat => base ≤ q)) (F0 m 31 ls []) := by
          intro H locs ls lo8 jl8 jm8 hG hS hl
          refine lv_aload_n X.1 X.2.1 dX12_sum_31 rfl (lv_at hl 0 rfl) ?_
          refine ca_X12_look X hK hG hC hS hb a0 h0 ⟨by omega, by omega, by omega, by omega, by omega⟩ ⟨by omega, by omega, by omega⟩ wl_7_137 hl.1 (rest := []) rfl (Nat.le_of_ble_eq_true rfl) ⟨Nat.le_of_ble_eq_true rfl, Nat.le_of_ble_eq_true rfl⟩ ⟨Nat.le_of_ble_eq_true rfl, Nat.le_of_ble_eq_true rfl⟩ dX12_sum_32 (fun f9 tf9 H locs htf9 hf9 hWf9 hS => ?_)
          obtain ⟨hBf9, v10, kv10, hv10, lv10⟩ := hWf9
          have hG := hBf9.2.2.2
          rw [htf9] at hG kv10
          have ⟨lav10, uav10⟩ : lo8 ≤ v10.toInt ∧ v10.toInt ≤ 240 := hv10
          have hv10 : iv 0 240 v10 := ⟨by omega, by omega⟩
          refine lv_bipush (v := 43) X.1 X.2.1 dX12_sum_35 (by decide +kernel) ?_
          have B12_45 : ∀ (locs : List Loc) (ls : Array Slot) (w12_0 : Int32), va_S (fun q : Nat => base ≤ q) s.heap H locs → lv_has ls 5 [(0, .ref a0), (1, .int z2_1)] → iv 0 1 w12_0 → W p l e (headSpec (Cond.code yX12_sum cX12_sum 5 (some .int) :: sg_tbl) ({ frames := 13, cells := 0, slots := 0, locals := 296 })).room s m #[.ref a0] below meth c H locs 0 0 (MQ below (va_Qi (fun r (_ : Unit) => (fun r : Int32 => True) r) (fun _ => sgB (KR b 4 lo 241 mr f P) D vwCl base tys ad ks) (fun q : Nat => base ≤ q)) #[.ref a0] s 0 0 (fun q : Nat => base ≤ q)) (F0 m 45 ls [.int w12_0]) := by
            intro locs ls w12_0 hS hl hw12_0
            refine lv_istore_n (lv' := [(2, .int w12_0), (0, .ref a0), (1, .int z2_1)]) X.1 X.2.1 dX12_sum_45 rfl hl (by decide) rfl (fun ls hl => ?_)
            refine lv_aload_n X.1 X.2.1 dX12_sum_46 rfl (lv_at hl 1 rfl) ?_
            refine lv_dup X.1 X.2.1 dX12_sum_47 rfl ?_
            refine gg_X12_10r X hK hG h0 wl_6_188 kv10 dX12_sum_48 ?_
            refine lv_iconst (v := 1) X.1 X.2.1 dX12_sum_51 (by decide +kernel) ?_
            refine lv_iadd X.1 X.2.1 dX12_sum_52 ?_
            refine lv_topi (fun f13 ef13 => ?_)
            have sf13 : f13.toInt = v10.toInt + 1 := sg_inc (k := 1) ef13 hv10 (by decide +kernel)
            have uf13 : f13.toInt ≤ 241 := Int.le_trans ((iv_add (a' := 1) (b' := 241) ef13 hv10 (iv_c 1 (a := 1) (b := 1) (by decide +kernel)) (by decide +kernel))).2 (by omega)
            refine pf_X12_10R (lo2 := f13.toInt) (hi2 := 241) X hK hG hS h0 wl_6_188 ⟨_, rfl, Int.le_refl _, uf13⟩ dX12_sum_53 (fun H locs hG hS => ?_)
            refine lv_aload_n X.1 X.2.1 dX12_sum_56 rfl (lv_at hl 1 rfl) ?_
            refine ca_X12_term_4 X hK hG hC hS hb a0 h0 ⟨by omega, by omega, by omega, by omega, by omega⟩ wl_7_237 hl.1 (rest := []) rfl (Nat.le_of_ble_eq_true rfl) ⟨Nat.le_of_ble_eq_true rfl, Nat.le_of_ble_eq_true rfl⟩ ⟨Nat.le_of_ble_eq_true rfl, Nat.le_of_ble_eq_true rfl⟩ dX12_sum_57 (fun f14 H locs hf14 hG hS => ?_)
            obtain ⟨g15, eg15⟩ : ∃ y : Int64, y = (f14 : Int32).toInt64 := ⟨_, rfl⟩
            refine lv_i2l (v := g15) X.1 X.2.1 dX12_sum_60 eg15.symm ?_
            refine lv_lstore_n (lv' := [(3, .long g15), (2, .int w12_0), (0, .ref a0), (1, .int z2_1)]) X.1 X.2.1 dX12_sum_61 rfl hl (by decide) rfl (fun ls hl => ?_)
            refine lv_iload_n X.1 X.2.1 dX12_sum_62 rfl (lv_at hl 1 rfl) ?_
            have B17_77 : ∀ (locs : List Loc) (ls : Array Slot) (w17_0 : Int64), va_S (fun q : Nat => base ≤ q) s.heap H locs → lv_has ls 5 [(0, .ref a0)] → W p l e (headSpec (Cond.code yX12_sum cX12_sum 5 (some .int) :: sg_tbl) ({ frames := 13, cells := 0, slots := 0, locals := 296 })).room s m #[.ref a0] below meth c H locs 0 0 (MQ below (va_Qi (fun r (_ : Unit) => (fun r : Int32 => True) r) (fun _ => sgB (KR b 4 lo 241 mr f P) D vwCl base tys ad ks) (fun q : Nat => base ≤ q)) #[.ref a0] s 0 0 (fun q : Nat => base ≤ q)) (F0 m 77 ls [.long w17_0]) := by
              intro locs ls w17_0 hS hl
              refine ca_X12_within X hK (sgr_toKT hG (by omega) (by omega) (by omega)) hC (fun _ h => h) hS hb w17_0 wl_8_9 hl.1 (rest := []) rfl (Nat.le_of_ble_eq_true rfl) ⟨Nat.le_of_ble_eq_true rfl, Nat.le_of_ble_eq_true rfl⟩ ⟨Nat.le_of_ble_eq_true rfl, Nat.le_of_ble_eq_true rfl⟩ dX12_sum_77 (fun f18 locs hf18 hS => ?_)
              refine lv_istore_n (lv' := [(1, .int f18), (0, .ref a0)]) X.1 X.2.1 dX12_sum_80 rfl hl (by decide) rfl (fun ls hl => ?_)
              refine lv_goto (tgt := 5) X.1 X.2.1 dX12_sum_81 (by decide) ?_
              exact ih2 H _ _ f18 f13.toInt (by omega) (by omega) hG hS (lv_sub hl [1, 0] rfl) (by omega)
            refine lv_if_eq (tgt := 73) X.1 X.2.1 dX12_sum_63 (by decide) (fun c16 => ?_) (fun c16 => ?_)
            · refine lv_iload_n X.1 X.2.1 dX12_sum_73 rfl (lv_at hl 3 rfl) ?_
              obtain ⟨g19, eg19⟩ : ∃ y : Int64, y = (z2_1 : Int32).toInt64 := ⟨_, rfl⟩
              refine lv_i2l (v := g19) X.1 X.2.1 dX12_sum_74 eg19.symm ?_
              refine lv_lload_n X.1 X.2.1 dX12_sum_75 rfl (lv_at hl 0 rfl) ?_
              refine lv_lsub X.1 X.2.1 dX12_sum_76 ?_
              refine lv_topl (fun g20 eg20 => ?_)
              exact B17_77 _ _ g20 hS (lv_sub hl [2] rfl)
            · refine lv_iload_n X.1 X.2.1 dX12_sum_66 rfl (lv_at hl 3 rfl) ?_
              obtain ⟨g21, eg21⟩ : ∃ y : Int64, y = (z2_1 : Int32).toInt64 := ⟨_, rfl⟩
              refine lv_i2l (v := g21) X.1 X.2.1 dX12_sum_67 eg21.symm ?_
              refine lv_lload_n X.1 X.2.1 dX12_sum_68 rfl (lv_at hl 0 rfl) ?_
              refine lv_ladd X.1 X.2.1 dX12_sum_69 ?_
              refine lv_topl (fun g22 eg22 => ?_)
              refine lv_goto (tgt := 77) X.1 X.2.1 dX12_sum_70 (by decide) ?_
              exact B17_77 _ _ g22 hS (lv_sub hl [2] rfl)
          refine lv_icmp_ne (tgt := 44) X.1 X.2.1 dX12_sum_37 (by decide) (fun c11 => ?_) (fun c11 => ?_)
          · refine lv_iconst (v := 0) X.1 X.2.1 dX12_sum_44 (by decide +kernel) ?_
            exact B12_45 _ _ 0 hS (lv_sub hl [0, 1] rfl) (iv_of (iv_c 0 (a := 0) (b := 0) (by decide +kernel)) (a' := 0) (b' := 1) (by decide +kernel))
          · refine lv_iconst (v := 1) X.1 X.2.1 dX12_sum_40 (by decide +kernel) ?_
            refine lv_goto (tgt := 45) X.1 X.2.1 dX12_sum_41 (by decide) ?_
            exact B12_45 _ _ 1 hS (lv_sub hl [0, 1] rfl) (iv_of (iv_c 1 (a := 1) (b := 1) (by decide +kernel)) (a' := 0) (b' := 1) (by decide +kernel))
        refine lv_icmp_eq (tgt := 31) X.1 X.2.1 dX12_sum_19 (by decide) (fun c7 => ?_) (fun c7 => ?_)
        · have uss23 : v6.toInt ≤ 240 := ((iv_of (sg_lk (iv_eqm (a' := 43) (b' := 43) c7 hf5 (iv_c 43 (a := 43) (b := 43) (by decide +kernel)) (by decide +kernel)) lv6 hv6) (a' := 0) (b' := 240) (by decide +kernel))).2
          have hG := sgr_str (lo' := v6.toInt) (hi' := 240) hG h0 kv6 ⟨Int.le_refl _, ((iv_of (sg_lk (iv_eqm (a' := 43) (b' := 43) c7 hf5 (iv_c 43 (a := 43) (b := 43) (by decide +kernel)) (by decide +kernel)) lv6 hv6) (a' := 0) (b' := 240) (by decide +kernel))).2⟩
          exact B8_31 H _ _ v6.toInt (by omega) (by omega) hG hS (lv_sub hl [0, 1] rfl)
        · refine lv_aload_n X.1 X.2.1 dX12_sum_22 rfl (lv_at hl 0 rfl) ?_
          refine ca_X12_look X hK hG hC hS hb a0 h0 ⟨by omega, by omega, by omega, by omega, by omega⟩ ⟨by omega, by omega, by omega⟩ wl_7_137 hl.1 (rest := []) rfl (Nat.le_of_ble_eq_true rfl) ⟨Nat.le_of_ble_eq_true rfl, Nat.le_of_ble_eq_true rfl⟩ ⟨Nat.le_of_ble_eq_true rfl, Nat.le_of_ble_eq_true rfl⟩ dX12_sum_23 (fun f24 tf24 H locs htf24 hf24 hWf24 hS => ?_)
          obtain ⟨hBf24, v25, kv25, hv25, lv25⟩ := hWf24
          have hG := hBf24.2.2.2
          rw [htf24] at hG kv25
          have ⟨lav25, uav25⟩ : lo2 ≤ v25.toInt ∧ v25.toInt ≤ 241 := hv25
          have hv25 : iv 0 241 v25 := ⟨by omega, by omega⟩
          refine lv_bipush (v := 45) X.1 X.2.1 dX12_sum_26 (by decide +kernel) ?_
          refine lv_icmp_ne (tgt := 84) X.1 X.2.1 dX12_sum_28 (by decide) (fun c26 => ?_) (fun c26 => ?_)
          · refine lv_iload_n X.1 X.2.1 dX12_sum_84 rfl (lv_at hl 1 rfl) ?_
            have hG := sgr_weak (d' := 4) (lo' := lo) (hi' := 241) (f' := f) hG (by omega) (by omega) (by omega) (by omega)
            exact sg_iret X hr hlk hb hK hC hG hS trivial dX12_sum_85
          · have uss27 : v25.toInt ≤ 240 := ((iv_of (sg_lk (iv_eqm (a' := 45) (b' := 45) c26 hf24 (iv_c 45 (a := 45) (b := 45) (by decide +kernel)) (by decide +kernel)) lv25 hv25) (a' := 0) (b' := 240) (by decide +kernel))).2
            have hG := sgr_str (lo' := v25.toInt) (hi' := 240) hG h0 kv25 ⟨Int.le_refl _, ((iv_of (sg_lk (iv_eqm (a' := 45) (b' := 45) c26 hf24 (iv_c 45 (a := 45) (b := 45) (by decide +kernel)) (by decide +kernel)) lv25 hv25) (a' := 0) (b' := 240) (by decide +kernel))).2⟩
            exact B8_31 H _ _ v25.toInt (by omega) (by omega) hG hS (lv_sub hl [0, 1] rfl)
  exact B2_5 _ H _ _ f1 lo (by omega) (by omega) hG hS (lv_sub hl [1, 0] rfl) (Nat.le_refl _)

theorem ca_X12_sum_4  {b : Bool} {lo mr f : Int}  (X : CallFix p m c cc nL s args sg_tbl own) (hK : va_K D vwCl tys s) (hG : sgG (KR b 4 lo 241 mr f P) D vwCl (fun q : Nat => base ≤ q) tys ad ks H) (hC : sgC base s) (hS : va_S (fun q : Nat => base ≤ q) s.heap H locs) (hb : base ≤ s.heap.size) (a0 : Nat) (h0 : isK ad ks 12 a0) (hlo : 0 ≤ lo ∧ lo ≤ 241 ∧ -1 ≤ f ∧ f ≤ 0 ∧ 0 ≤ mr) (hl : Cond.methodLink own index yX12_sum ∈ sg_tbl) (hsize : ls.size = nL) (hst : st0 = [].reverse ++ .ref a0 :: rest) (hW : (rest.map fun v => v.category).sum ≤ 8) (hR : 14 ≤ R.frames ∧ 320 ≤ R.locals) (hf : cells ≤ R.cells ∧ slots ≤ R.slots) (hdg : decode cc pc = .ok (.invokevirtual index, 3)) (kk : ∀ (r : Int32) (H1 : Heap) (locs1 : List Loc), (fun r : Int32 => True) r → sgG (KR b 4 lo 241 mr f P) D vwCl (fun q : Nat => base ≤ q) tys ad ks H1 → va_S (fun q : Nat => base ≤ q) s.heap H1 locs1 → W p l e R s m args below meth c H1 locs1 cells slots Q (F0 m (pc + 3) ls (.int r :: rest))) : W p l e R s m args below meth c H locs cells slots Q (F0 m pc ls st0) :=
  sg_callVi X hK hG hC hS hb (m_X12_sum_4 l a0 h0 hlo) h0 (k := 12) (ci := 12) rfl (C := RX12) (T := TX12) (N := 53) rfl wl_7_236 wl_1_13 wl_7_235 wl_0_64 (n := 0) (by decide +kernel) rfl rfl rfl hl hsize hst hW hR hf hdg kk

set_option maxHeartbeats 8000000 in
set_option maxRecDepth 100000 in
theorem m_X12_compares_4 (l : Launch) {D : va_G} {base : Nat} {tys : List (ClassId × FieldType)} {ad ks : List Nat} {P : sgPm}{b : Bool} {lo mr f : Int}  (a0 : Nat) (h0 : isK ad ks 12 a0) (x1 : Int32) (h1 : iv 0 1 x1) (x2 : Int32) (hlo : 0 ≤ lo ∧ lo ≤ 241 ∧ -1 ≤ f ∧ f ≤ 0 ∧ 0 ≤ mr) : sgMi l (KR b 4 lo 241 mr f P) D vwCl base tys ad ks yX12_compares cX12_compares 6 (some .boolean) ({ frames := 14, cells := 0, slots := 0, locals := 320 }) [.ref a0, .int x1, .int x2] (fun r : Int32 => iv 0 1 r) := by
  refine sg_ofW (by decide +kernel) (Nat.le_of_ble_eq_true rfl) (fun p e s m below meth c X hr hlk hb hK hC hG ls hl => ?_)
  have hS : va_S (fun q : Nat => base ≤ q) s.heap s.heap [] := va_S.rf
  have hl : lv_has ls 6 [(0, .ref a0), (1, .int x1), (2, .int x2)] := hl
  refine lv_iload_n X.1 X.2.1 dX12_compares_0 rfl (lv_at hl 1 rfl) ?_
  have B2_12 : ∀ (H : Heap) (locs : List Loc) (ls : Array Slot) (w2_0 : Int32) (lo2 : Int), lo ≤ lo2 → lo2 ≤ 241 → sgG (KR b 4 lo2 241 mr f P) D vwCl (fun q : Nat => base ≤ q) tys ad ks H → va_S (fun q : Nat => base ≤ q) s.heap H locs → lv_has ls 6 [(0, .ref a0)] → W p l e (headSpec (Cond.code yX12_compares cX12_compares 6 (some .boolean) :: sg_tbl) ({ frames := 14, cells := 0, slots := 0, locals := 320 })).room s m #[.ref a0, .int x1, .int x2] below meth c H locs 0 0 (MQ below (va_Qi (fun r (_ : Unit) => (fun r : Int32 => iv 0 1 r) r) (fun _ => sgB (KR b 4 lo 241 mr f P) D vwCl base tys ad ks) (fun q : Nat => base ≤ q)) #[.ref a0, .int x1, .int x2] s 0 0 (fun q : Nat => base ≤ q)) (F0 m 12 ls [.int w2_0]) := by
    intro H locs ls w2_0 lo2 jl2 jm2 hG hS hl
    refine lv_istore_n (lv' := [(3, .int w2_0), (0, .ref a0)]) X.1 X.2.1 dX12_compares_12 rfl hl (by decide) rfl (fun ls hl => ?_)
    refine lv_aload_n X.1 X.2.1 dX12_compares_13 rfl (lv_at hl 1 rfl) ?_
    refine gf_X12_11r X hK hG h0 wl_6_189 dX12_compares_14 (fun f3 hf3 kf3 => ?_)
    have ⟨laf3, uaf3⟩ : f ≤ f3.toInt ∧ f3.toInt ≤ 241 := hf3
    have hf3 : iv (-1) 241 f3 := ⟨by omega, by omega⟩
    refine lv_iconst (v := (-1)) X.1 X.2.1 dX12_compares_17 (by decide +kernel) ?_
    refine lv_icmp_eq (tgt := 23) X.1 X.2.1 dX12_compares_18 (by decide) (fun c4 => ?_) (fun c4 => ?_)
    · refine lv_aload_n X.1 X.2.1 dX12_compares_23 rfl (lv_at hl 1 rfl) ?_
      refine ca_X12_look X hK hG hC hS hb a0 h0 ⟨by omega, by omega, by omega, by omega, by omega⟩ ⟨by omega, by omega, by omega⟩ wl_7_137 hl.1 (rest := []) rfl (Nat.le_of_ble_eq_true rfl) ⟨Nat.le_of_ble_eq_true rfl, Nat.le_of_ble_eq_true rfl⟩ ⟨Nat.le_of_ble_eq_true rfl, Nat.le_of_ble_eq_true rfl⟩ dX12_compares_24 (fun f5 tf5 H locs htf5 hf5 hWf5 hS => ?_)
      obtain ⟨hBf5, v6, kv6, hv6, lv6⟩ := hWf5
      have hG := hBf5.2.2.2
      rw [htf5] at hG kv6
      have ⟨lav6, uav6⟩ : lo2 ≤ v6.toInt ∧ v6.toInt ≤ 241 := hv6
      have hv6 : iv 0 241 v6 := ⟨by omega, by omega⟩
      refine lv_istore (lv' := [(4, .int f5), (3, .int w2_0), (0, .ref a0)]) X.1 X.2.1 dX12_compares_27 hl (by decide) rfl (fun ls hl => ?_)
      refine lv_iload X.1 X.2.1 dX12_compares_29 (lv_at hl 0 rfl) ?_
      refine ca_X12_isSign X hK (sgr_toKT hG (by omega) (by omega) (by omega)) hC (fun _ h => h) hS hb f5 wl_8_20 hl.1 (rest := []) rfl (Nat.le_of_ble_eq_true rfl) ⟨Nat.le_of_ble_eq_true rfl, Nat.le_of_ble_eq_true rfl⟩ ⟨Nat.le_of_ble_eq_true rfl, Nat.le_of_ble_eq_true rfl⟩ dX12_compares_31 (fun f7 locs hf7 hS => ?_)
      refine lv_if_ne (tgt := 42) X.1 X.2.1 dX12_compares_34 (by decide) (fun c8 => ?_) (fun c8 => ?_)
      · refine lv_aload_n X.1 X.2.1 dX12_compares_42 rfl (lv_at hl 2 rfl) ?_
        refine lv_dup X.1 X.2.1 dX12_compares_43 rfl ?_
        refine gg_X12_10r X hK hG h0 wl_6_188 kv6 dX12_compares_44 ?_
        refine lv_iconst (v := 1) X.1 X.2.1 dX12_compares_47 (by decide +kernel) ?_
        refine lv_iadd X.1 X.2.1 dX12_compares_48 ?_
        refine lv_topi (fun f9 ef9 => ?_)
        have sf9 : f9.toInt = v6.toInt + 1 := sg_inc (k := 1) ef9 (sg_lk (hf7.2 c8) lv6 hv6) (by decide +kernel)
        have uf9 : f9.toInt ≤ 241 := Int.le_trans ((iv_add (a' := 1) (b' := 240) ef9 (sg_lk (hf7.2 c8) lv6 hv6) (iv_c 1 (a := 1) (b := 1) (by decide +kernel)) (by decide +kernel))).2 (by omega)
        refine pf_X12_10R (lo2 := f9.toInt) (hi2 := 241) X hK hG hS h0 wl_6_188 ⟨_, rfl, Int.le_refl _, uf9⟩ dX12_compares_49 (fun H locs hG hS => ?_)
        refine lv_aload_n X.1 X.2.1 dX12_compares_52 rfl (lv_at hl 2 rfl) ?_
        refine ca_X12_sum_4 X hK hG hC hS hb a0 h0 ⟨by omega, by omega, by omega, by omega, by omega⟩ wl_7_233 hl.1 (rest := []) rfl (Nat.le_of_ble_eq_true rfl) ⟨Nat.le_of_ble_eq_true rfl, Nat.le_of_ble_eq_true rfl⟩ ⟨Nat.le_of_ble_eq_true rfl, Nat.le_of_ble_eq_true rfl⟩ dX12_compares_53 (fun f10 H locs hf10 hG hS => ?_)
        refine lv_istore (lv' := [(5, .int f10), (4, .int f5), (3, .int w2_0), (0, .ref a0)]) X.1 X.2.1 dX12_compares_56 hl (by decide) rfl (fun ls hl => ?_)
        refine lv_iload X.1 X.2.1 dX12_compares_58 (lv_at hl 1 rfl) ?_
        refine lv_bipush (v := 61) X.1 X.2.1 dX12_compares_60 (by decide +kernel) ?_
        refine lv_icmp_ne (tgt := 79) X.1 X.2.1 dX12_compares_62 (by decide) (fun c11 => ?_) (fun c11 => ?_)
        · refine lv_iload X.1 X.2.1 dX12_compares_79 (lv_at hl 1 rfl) ?_
          refine lv_bipush (v := 60) X.1 X.2.1 dX12_compares_81 (by decide +kernel) ?_
          refine lv_icmp_ne (tgt := 100) X.1 X.2.1 dX12_compares_83 (by decide) (fun c12 => ?_) (fun c12 => ?_)
          · refine lv_iload_n X.1 X.2.1 dX12_compares_100 rfl (lv_at hl 2 rfl) ?_
            refine lv_iload X.1 X.2.1 dX12_compares_101 (lv_at hl 0 rfl) ?_
            refine lv_icmp_le (tgt := 110) X.1 X.2.1 dX12_compares_103 (by decide) (fun c13 => ?_) (fun c13 => ?_)
            · refine lv_iconst (v := 0) X.1 X.2.1 dX12_compares_110 (by decide +kernel) ?_
              have hG := sgr_weak (d' := 4) (lo' := lo) (hi' := 241) (f' := f) hG (by omega) (by omega) (by omega) (by omega)
              exact sg_zret X hr (sg_zn (iv_of (iv_c 0 (a := 0) (b := 0) (by decide +kernel)) (a' := 0) (b' := 1) (by decide +kernel))) hlk hb hK hC hG hS (iv_of (iv_c 0 (a := 0) (b := 0) (by decide +kernel)) (a' := 0) (b' := 1) (by decide +kernel)) dX12_compares_111
            · refine lv_iconst (v := 1) X.1 X.2.1 dX12_compares_106 (by decide +kernel) ?_
              refine lv_goto (tgt := 111) X.1 X.2.1 dX12_compares_107 (by decide) ?_
              have hG := sgr_weak (d' := 4) (lo' := lo) (hi' := 241) (f' := f) hG (by omega) (by omega) (by omega) (by omega)
              exact sg_zret X hr (sg_zn (iv_of (iv_c 1 (a := 1) (b := 1) (by decide +kernel)) (a' := 0) (b' := 1) (by decide +kernel))) hlk hb hK hC hG hS (iv_of (iv_c 1 (a := 1) (b := 1) (by decide +kernel)) (a' := 0) (b' := 1) (by decide +kernel)) dX12_compares_111
          · refine lv_iload_n X.1 X.2.1 dX12_compares_86 rfl (lv_at hl 2 rfl) ?_
            refine lv_iload X.1 X.2.1 dX12_compares_87 (lv_at hl 0 rfl) ?_
            refine lv_icmp_ge (tgt := 96) X.1 X.2.1 dX12_compares_89 (by decide) (fun c14 => ?_) (fun c14 => ?_)
            · refine lv_iconst (v := 0) X.1 X.2.1 dX12_compares_96 (by decide +kernel) ?_
              refine lv_goto (tgt := 111) X.1 X.2.1 dX12_compares_97 (by decide) ?_
              have hG := sgr_weak (d' := 4) (lo' := lo) (hi' := 241) (f' := f) hG (by omega) (by omega) (by omega) (by omega)
              exact sg_zret X hr (sg_zn (iv_of (iv_c 0 (a := 0) (b := 0) (by decide +kernel)) (a' := 0) (b' := 1) (by decide +kernel))) hlk hb hK hC hG hS (iv_of (iv_c 0 (a := 0) (b := 0) (by decide +kernel)) (a' := 0) (b' := 1) (by decide +kernel)) dX12_compares_111
            · refine lv_iconst (v := 1) X.1 X.2.1 dX12_compares_92 (by decide +kernel) ?_
              refine lv_goto (tgt := 111) X.1 X.2.1 dX12_compares_93 (by decide) ?_
              have hG := sgr_weak (d' := 4) (lo' := lo) (hi' := 241) (f' := f) hG (by omega) (by omega) (by omega) (by omega)
              exact sg_zret X hr (sg_zn (iv_of (iv_c 1 (a := 1) (b := 1) (by decide +kernel)) (a' := 0) (b' := 1) (by decide +kernel))) hlk hb hK hC hG hS (iv_of (iv_c 1 (a := 1) (b := 1) (by decide +kernel)) (a' := 0) (b' := 1) (by decide +kernel)) dX12_compares_111
        · refine lv_iload_n X.1 X.2.1 dX12_compares_65 rfl (lv_at hl 2 rfl) ?_
          refine lv_iload X.1 X.2.1 dX12_compares_66 (lv_at hl 0 rfl) ?_
          refine lv_icmp_ne (tgt := 75) X.1 X.2.1 dX12_compares_68 (by decide) (fun c15 => ?_) (fun c15 => ?_)
          · refine lv_iconst (v := 0) X.1 X.2.1 dX12_compares_75 (by decide +kernel) ?_
            refine lv_goto (tgt := 111) X.1 X.2.1 dX12_compares_76 (by decide) ?_
            have hG := sgr_weak (d' := 4) (lo' := lo) (hi' := 241) (f' := f) hG (by omega) (by omega) (by omega) (by omega)
            exact sg_zret X hr (sg_zn (iv_of (iv_c 0 (a := 0) (b := 0) (by decide +kernel)) (a' := 0) (b' := 1) (by decide +kernel))) hlk hb hK hC hG hS (iv_of (iv_c 0 (a := 0) (b := 0) (by decide +kernel)) (a' := 0) (b' := 1) (by decide +kernel)) dX12_compares_111
          · refine lv_iconst (v := 1) X.1 X.2.1 dX12_compares_71 (by decide +kernel) ?_
            refine lv_goto (tgt := 111) X.1 X.2.1 dX12_compares_72 (by decide) ?_
            have hG := sgr_weak (d' := 4) (lo' := lo) (hi' := 241) (f' := f) hG (by omega) (by omega) (by omega) (by omega)
            exact sg_zret X hr (sg_zn (iv_of (iv_c 1 (a := 1) (b := 1) (by decide +kernel)) (a' := 0) (b' := 1) (by decide +kernel))) hlk hb hK hC hG hS (iv_of (iv_c 1 (a := 1) (b := 1) (by decide +kernel)) (a' := 0) (b' := 1) (by decide +kernel)) dX12_compares_111
      · refine lv_aload_n X.1 X.2.1 dX12_compares_37 rfl (lv_at hl 2 rfl) ?_
        refine ca_X12_fails X hK hG hC hS hb a0 h0 ⟨by omega, by omega, by omega, by omega, by omega⟩ wl_7_141 hl.1 (rest := []) rfl (Nat.le_of_ble_eq_true rfl) ⟨Nat.le_of_ble_eq_true rfl, Nat.le_of_ble_eq_true rfl⟩ ⟨Nat.le_of_ble_eq_true rfl, Nat.le_of_ble_eq_true rfl⟩ dX12_compares_38 (fun f16 H locs hf16 hG hS => ?_)
        have hG := sgr_weak (d' := 4) (lo' := lo) (hi' := 241) (f' := f) hG (by omega) (by omega) (by omega) (by omega)
        exact sg_zret X hr (sg_zn (iv_of hf16 (a' := 0) (b' := 1) (by decide +kernel))) hlk hb hK hC hG hS (iv_of hf16 (a' := 0) (b' := 1) (by decide +kernel)) dX12_compares_41
    · refine lv_iconst (v := 0) X.1 X.2.1 dX12_compares_21 (by decide +kernel) ?_
      have hG := sgr_weak (d' := 4) (lo' := lo) (hi' := 241) (f' := f) hG (by omega) (by omega) (by omega) (by omega)
      exact sg_zret X hr (sg_zn (iv_of (iv_c 0 (a := 0) (b := 0) (by decide +kernel)) (a' := 0) (b' := 1) (by decide +kernel))) hlk hb hK hC hG hS (iv_of (iv_c 0 (a := 0) (b := 0) (by decide +kernel)) (a' := 0) (b' := 1) (by decide +kernel)) dX12_compares_22
  refine lv_if_eq (tgt := 8) X.1 X.2.1 dX12_compares_1 (by decide) (fun c1 => ?_) (fun c1 => ?_)
  · refine lv_aload_n X.1 X.2.1 dX12_compares_8 rfl (lv_at hl 0 rfl) ?_
    refine ca_X12_sum_4 X hK hG hC hS hb a0 h0 ⟨by omega, by omega, by omega, by omega, by omega⟩ wl_7_233 hl.1 (rest := []) rfl (Nat.le_of_ble_eq_true rfl) ⟨Nat.le_of_ble_eq_true rfl, Nat.le_of_ble_eq_true rfl⟩ ⟨Nat.le_of_ble_eq_true rfl, Nat.le_of_ble_eq_true rfl⟩ dX12_compares_9 (fun f17 H locs hf17 hG hS => ?_)
    exact B2_12 H _ _ f17 lo (by omega) (by omega) hG hS (lv_sub hl [0] rfl)
  · refine lv_iload_n X.1 X.2.1 dX12_compares_4 rfl (lv_at hl 2 rfl) ?_
    refine lv_goto (tgt := 12) X.1 X.2.1 dX12_compares_5 (by decide) ?_
    exact B2_12 s.heap _ _ x2 lo (by omega) (by omega) hG hS (lv_sub hl [0] rfl)

theorem ca_X12_compares_4  {b : Bool} {lo mr f : Int}  (X : CallFix p m c cc nL s args sg_tbl own) (hK : va_K D vwCl tys s) (hG : sgG (KR b 4 lo 241 mr f P) D vwCl (fun q : Nat => base ≤ q) tys ad ks H) (hC : sgC base s) (hS : va_S (fun q : Nat => base ≤ q) s.heap H locs) (hb : base ≤ s.heap.size) (a0 : Nat) (h0 : isK ad ks 12 a0) (x1 : Int32) (h1 : iv 0 1 x1) (x2 : Int32) (hlo : 0 ≤ lo ∧ lo ≤ 241 ∧ -1 ≤ f ∧ f ≤ 0 ∧ 0 ≤ mr) (hl : Cond.methodLink own index yX12_compares ∈ sg_tbl) (hsize : ls.size = nL) (hst : st0 = [.int x1, .int x2].reverse ++ .ref a0 :: rest) (hW : (rest.map fun v => v.category).sum ≤ 8) (hR : 15 ≤ R.frames ∧ 345 ≤ R.locals) (hf : cells ≤ R.cells ∧ slots ≤ R.slots) (hdg : decode cc pc = .ok (.invokevirtual index, 3)) (kk : ∀ (r : Int32) (H1 : Heap) (locs1 : List Loc), (fun r : Int32 => iv 0 1 r) r → sgG (KR b 4 lo 241 mr f P) D vwCl (fun q : Nat => base ≤ q) tys ad ks H1 → va_S (fun q : Nat => base ≤ q) s.heap H1 locs1 → W p l e R s m args below meth c H1 locs1 cells slots Q (F0 m (pc + 3) ls (.int r :: rest))) : W p l e R s m args below meth c H locs cells slots Q (F0 m pc ls st0) :=
  sg_callVi X hK hG hC hS hb (m_X12_compares_4 l a0 h0 x1 h1 x2 hlo) h0 (k := 12) (ci := 12) rfl (C := RX12) (T := TX12) (N := 53) rfl wl_7_232 wl_1_13 wl_7_231 wl_0_63 (n := 2) (by decide +kernel) rfl rfl rfl hl hsize hst hW hR hf hdg kk

set_option maxHeartbeats 8000000 in
set_option maxRecDepth 100000 in
theorem m_X12_unit_4 (l : Launch) {D : va_G} {base : Nat} {tys : List (ClassId × FieldType)} {ad ks : List Nat} {P : sgPm}{b : Bool} {lo mr f : Int}  (a0 : Nat) (h0 : isK ad ks 12 a0) (hlo : 0 ≤ lo ∧ lo ≤ 241 ∧ -1 ≤ f ∧ f ≤ 0 ∧ 0 ≤ mr) : sgMi l (KR b 4 lo 241 mr f P) D vwCl base tys ad ks yX12_unit cX12_unit 3 (some .boolean) ({ frames := 15, cells := 0, slots := 0, locals := 345 }) [.ref a0] (fun r : Int32 => iv 0 1 r) := by
  refine sg_ofW (by decide +kernel) (Nat.le_of_ble_eq_true rfl) (fun p e s m below meth c X hr hlk hb hK hC hG ls hl => ?_)
  have hS : va_S (fun q : Nat => base ≤ q) s.heap s.heap [] := va_S.rf
  have hl : lv_has ls 3 [(0, .ref a0)] := hl
  refine lv_aload_n X.1 X.2.1 dX12_unit_0 rfl (lv_at hl 0 rfl) ?_
  refine ca_X12_look X hK hG hC hS hb a0 h0 ⟨by omega, by omega, by omega, by omega, by omega⟩ ⟨by omega, by omega, by omega⟩ wl_7_137 hl.1 (rest := []) rfl (Nat.le_of_ble_eq_true rfl) ⟨Nat.le_of_ble_eq_true rfl, Nat.le_of_ble_eq_true rfl⟩ ⟨Nat.le_of_ble_eq_true rfl, Nat.le_of_ble_eq_true rfl⟩ dX12_unit_1 (fun f1 tf1 H locs htf1 hf1 hWf1 hS => ?_)
  obtain ⟨hBf1, v2, kv2, hv2, lv2⟩ := hWf1
  have hG := hBf1.2.2.2
  rw [htf1] at hG kv2
  have ⟨lav2, uav2⟩ : lo ≤ v2.toInt ∧ v2.toInt ≤ 241 := hv2
  have hv2 : iv 0 241 v2 := ⟨by omega, by omega⟩
  refine lv_istore_n (lv' := [(1, .int f1), (0, .ref a0)]) X.1 X.2.1 dX12_unit_4 rfl hl (by decide) rfl (fun ls hl => ?_)
  refine lv_iload_n X.1 X.2.1 dX12_unit_5 rfl (lv_at hl 0 rfl) ?_
  refine lv_bipush (v := 33) X.1 X.2.1 dX12_unit_6 (by decide +kernel) ?_
  refine lv_icmp_ne (tgt := 45) X.1 X.2.1 dX12_unit_8 (by decide) (fun c3 => ?_) (fun c3 => ?_)
  · refine lv_iload_n X.1 X.2.1 dX12_unit_45 rfl (lv_at hl 0 rfl) ?_
    refine lv_bipush (v := 40) X.1 X.2.1 dX12_unit_46 (by decide +kernel) ?_
    refine lv_icmp_ne (tgt := 90) X.1 X.2.1 dX12_unit_48 (by decide) (fun c4 => ?_) (fun c4 => ?_)
    · refine lv_aload_n X.1 X.2.1 dX12_unit_90 rfl (lv_at hl 1 rfl) ?_
      refine lv_iconst (v := 0) X.1 X.2.1 dX12_unit_91 (by decide +kernel) ?_
      refine lv_iconst (v := 0) X.1 X.2.1 dX12_unit_92 (by decide +kernel) ?_
      refine ca_X12_compares_4 X hK hG hC hS hb a0 h0 0 (iv_of (iv_c 0 (a := 0) (b := 0) (by decide +kernel)) (a' := 0) (b' := 1) (by decide +kernel)) 0 ⟨by omega, by omega, by omega, by omega, by omega⟩ wl_7_229 hl.1 (rest := []) rfl (Nat.le_of_ble_eq_true rfl) ⟨Nat.le_of_ble_eq_true rfl, Nat.le_of_ble_eq_true rfl⟩ ⟨Nat.le_of_ble_eq_true rfl, Nat.le_of_ble_eq_true rfl⟩ dX12_unit_93 (fun f5 H locs hf5 hG hS => ?_)
      exact sg_zret X hr (sg_zn hf5) hlk hb hK hC hG hS hf5 dX12_unit_96
    · refine lv_aload_n X.1 X.2.1 dX12_unit_51 rfl (lv_at hl 1 rfl) ?_
      have uss6 : v2.toInt ≤ 240 := ((iv_of (sg_lk (iv_eqm (a' := 40) (b' := 40) c4 hf1 (iv_c 40 (a := 40) (b := 40) (by decide +kernel)) (by decide +kernel)) lv2 hv2) (a' := 0) (b' := 240) (by decide +kernel))).2
      have hG := sgr_str (lo' := v2.toInt) (hi' := 240) hG h0 kv2 ⟨Int.le_refl _, ((iv_of (sg_lk (iv_eqm (a' := 40) (b' := 40) c4 hf1 (iv_c 40 (a := 40) (b := 40) (by decide +kernel)) (by decide +kernel)) lv2 hv2) (a' := 0) (b' := 240) (by decide +kernel))).2⟩
      refine ca_X12_goesIn_4 X hK hG hC hS hb a0 h0 ⟨by omega, by omega, by omega, by omega, by omega⟩ wl_8_5 hl.1 (rest := []) rfl (Nat.le_of_ble_eq_true rfl) ⟨Nat.le_of_ble_eq_true rfl, Nat.le_of_ble_eq_true rfl⟩ ⟨Nat.le_of_ble_eq_true rfl, Nat.le_of_ble_eq_true rfl⟩ dX12_unit_52 (fun f7 tf7 H locs htf7 hf7 hWf7 hS => ?_)
      rcases hWf7 with ⟨rfl, hBf7⟩ | ⟨rfl, hBf7⟩
      · have hG := hBf7.2.2.2
        rw [htf7] at hG
        refine lv_if_ne (tgt := 60) X.1 X.2.1 dX12_unit_55 (by decide) (fun c8 => ?_) (fun c8 => ?_)
        · exact ((c8 (iv_one (iv_c 0 (a := 0) (b := 0) (by decide +kernel)) (iv_c 0 (a := 0) (b := 0) (by decide +kernel)) (by decide +kernel)))).elim
        · refine lv_iconst (v := 0) X.1 X.2.1 dX12_unit_58 (by decide +kernel) ?_
          have hG := sgr_weak (d' := 4) (lo' := lo) (hi' := 241) (f' := f) hG (by omega) (by omega) (by omega) (by omega)
          exact sg_zret X hr (sg_zn (iv_of (iv_c 0 (a := 0) (b := 0) (by decide +kernel)) (a' := 0) (b' := 1) (by decide +kernel))) hlk hb hK hC hG hS (iv_of (iv_c 0 (a := 0) (b := 0) (by decide +kernel)) (a' := 0) (b' := 1) (by decide +kernel)) dX12_unit_59
      · have hG := hBf7.2.2.2
        rw [htf7] at hG
        refine lv_if_ne (tgt := 60) X.1 X.2.1 dX12_unit_55 (by decide) (fun c9 => ?_) (fun c9 => ?_)
        · refine lv_aload_n X.1 X.2.1 dX12_unit_60 rfl (lv_at hl 1 rfl) ?_
          refine lv_iconst (v := 0) X.1 X.2.1 dX12_unit_61 (by decide +kernel) ?_
          refine lv_iconst (v := 0) X.1 X.2.1 dX12_unit_62 (by decide +kernel) ?_
          refine ca_X12_condition_5 X hK hG hC hS hb a0 h0 0 (iv_of (iv_c 0 (a := 0) (b := 0) (by decide +kernel)) (a' := 0) (b' := 1) (by decide +kernel)) 0 ⟨by omega, by omega, by omega, by omega, by omega⟩ wl_7_221 hl.1 (rest := []) rfl (Nat.le_of_ble_eq_true rfl) ⟨Nat.le_of_ble_eq_true rfl, Nat.le_of_ble_eq_true rfl⟩ ⟨Nat.le_of_ble_eq_true rfl, Nat.le_of_ble_eq_true rfl⟩ dX12_unit_63 (fun f10 H locs hf10 hG hS => ?_)
          refine lv_istore_n (lv' := [(2, .int f10), (1, .int f1), (0, .ref a0)]) X.1 X.2.1 dX12_unit_66 rfl hl (by decide) rfl (fun ls hl => ?_)
          refine lv_aload_n X.1 X.2.1 dX12_unit_67 rfl (lv_at hl 2 rfl) ?_
          refine lv_bipush (v := 41) X.1 X.2.1 dX12_unit_68 (by decide +kernel) ?_
          refine ca_X12_takes X hK hG hC hS hb a0 h0 41 (iv_of (iv_c 41 (a := 41) (b := 41) (by decide +kernel)) (a' := 0) (b' := 127) (by decide +kernel)) ⟨by omega, by omega, by omega, by omega, by omega⟩ wl_7_217 hl.1 (rest := []) rfl (Nat.le_of_ble_eq_true rfl) ⟨Nat.le_of_ble_eq_true rfl, Nat.le_of_ble_eq_true rfl⟩ ⟨Nat.le_of_ble_eq_true rfl, Nat.le_of_ble_eq_true rfl⟩ dX12_unit_70 (fun f11 H locs hf11 hG hS => ?_)
          refine lv_if_ne (tgt := 78) X.1 X.2.1 dX12_unit_73 (by decide) (fun c12 => ?_) (fun c12 => ?_)
          · refine lv_aload_n X.1 X.2.1 dX12_unit_78 rfl (lv_at hl 2 rfl) ?_
            refine lv_dup X.1 X.2.1 dX12_unit_79 rfl ?_
            refine gf_X12_12r X hK hG h0 wl_6_190 dX12_unit_80 (fun f13 hf13 kf13 => ?_)
            refine lv_iconst (v := 1) X.1 X.2.1 dX12_unit_83 (by decide +kernel) ?_
            refine lv_isub X.1 X.2.1 dX12_unit_84 ?_
            refine lv_topi (fun f14 ef14 => ?_)
            refine pf_X12_12R (d2 := 4) X hK hG hS h0 wl_6_190 ⟨_, rfl, (iv_of (iv_sub (a' := 4) (b' := 5) ef14 hf13 (iv_c 1 (a := 1) (b := 1) (by decide +kernel)) (by decide +kernel)) (a' := 4) (b' := 6) (by decide +kernel))⟩ dX12_unit_85 (fun H locs hG hS => ?_)
            refine lv_iload_n X.1 X.2.1 dX12_unit_88 rfl (lv_at hl 0 rfl) ?_
            have hG := sgr_weak (d' := 4) (lo' := lo) (hi' := 241) (f' := f) hG (by omega) (by omega) (by omega) (by omega)
            exact sg_zret X hr (sg_zn hf10) hlk hb hK hC hG hS hf10 dX12_unit_89
          · refine lv_iconst (v := 0) X.1 X.2.1 dX12_unit_76 (by decide +kernel) ?_
            have hG := sgr_weak (d' := 4) (lo' := lo) (hi' := 241) (f' := f) hG (by omega) (by omega) (by omega) (by omega)
            exact sg_zret X hr (sg_zn (iv_of (iv_c 0 (a := 0) (b := 0) (by decide +kernel)) (a' := 0) (b' := 1) (by decide +kernel))) hlk hb hK hC hG hS (iv_of (iv_c 0 (a := 0) (b := 0) (by decide +kernel)) (a' := 0) (b' := 1) (by decide +kernel)) dX12_unit_77
        · exact ((iv_no (a := 1) (b := 0) (iv_eqm c9 (iv_c 1 (a := 1) (b := 1) (by decide +kernel)) (iv_c 0 (a := 0) (b := 0) (by decide +kernel)) (by decide +kernel)) (by decide +kernel))).elim
  · refine lv_aload_n X.1 X.2.1 dX12_unit_11 rfl (lv_at hl 1 rfl) ?_
    have uss15 : v2.toInt ≤ 240 := ((iv_of (sg_lk (iv_eqm (a' := 33) (b' := 33) c3 hf1 (iv_c 33 (a := 33) (b := 33) (by decide +kernel)) (by decide +kernel)) lv2 hv2) (a' := 0) (b' := 240) (by decide +kernel))).2
    have hG := sgr_str (lo' := v2.toInt) (hi' := 240) hG h0 kv2 ⟨Int.le_refl _, ((iv_of (sg_lk (iv_eqm (a' := 33) (b' := 33) c3 hf1 (iv_c 33 (a := 33) (b := 33) (by decide +kernel)) (by decide +kernel)) lv2 hv2) (a' := 0) (b' := 240) (by decide +kernel))).2⟩
    refine ca_X12_goesIn_4 X hK hG hC hS hb a0 h0 ⟨by omega, by omega, by omega, by omega, by omega⟩ wl_8_5 hl.1 (rest := []) rfl (Nat.le_of_ble_eq_true rfl) ⟨Nat.le_of_ble_eq_true rfl, Nat.le_of_ble_eq_true rfl⟩ ⟨Nat.le_of_ble_eq_true rfl, Nat.le_of_ble_eq_true rfl⟩ dX12_unit_12 (fun f16 tf16 H locs htf16 hf16 hWf16 hS => ?_)
    rcases hWf16 with ⟨rfl, hBf16⟩ | ⟨rfl, hBf16⟩
    · have hG := hBf16.2.2.2
      rw [htf16] at hG
      refine lv_if_ne (tgt := 20) X.1 X.2.1 dX12_unit_15 (by decide) (fun c17 => ?_) (fun c17 => ?_)
      · exact ((c17 (iv_one (iv_c 0 (a := 0) (b := 0) (by decide +kernel)) (iv_c 0 (a := 0) (b := 0) (by decide +kernel)) (by decide +kernel)))).elim
      · refine lv_iconst (v := 0) X.1 X.2.1 dX12_unit_18 (by decide +kernel) ?_
        have hG := sgr_weak (d' := 4) (lo' := lo) (hi' := 241) (f' := f) hG (by omega) (by omega) (by omega) (by omega)
        exact sg_zret X hr (sg_zn (iv_of (iv_c 0 (a := 0) (b := 0) (by decide +kernel)) (a' := 0) (b' := 1) (by decide +kernel))) hlk hb hK hC hG hS (iv_of (iv_c 0 (a := 0) (b := 0) (by decide +kernel)) (a' := 0) (b' := 1) (by decide +kernel)) dX12_unit_19
    · have hG := hBf16.2.2.2
      rw [htf16] at hG
      refine lv_if_ne (tgt := 20) X.1 X.2.1 dX12_unit_15 (by decide) (fun c18 => ?_) (fun c18 => ?_)
      · refine lv_aload_n X.1 X.2.1 dX12_unit_20 rfl (lv_at hl 1 rfl) ?_
        refine ca_X12_unit_5 X hK hG hC hS hb a0 h0 ⟨by omega, by omega, by omega, by omega, by omega⟩ wl_8_23 hl.1 (rest := []) rfl (Nat.le_of_ble_eq_true rfl) ⟨Nat.le_of_ble_eq_true rfl, Nat.le_of_ble_eq_true rfl⟩ ⟨Nat.le_of_ble_eq_true rfl, Nat.le_of_ble_eq_true rfl⟩ dX12_unit_21 (fun f19 H locs hf19 hG hS => ?_)
        refine lv_istore_n (lv' := [(2, .int f19), (1, .int f1), (0, .ref a0)]) X.1 X.2.1 dX12_unit_24 rfl hl (by decide) rfl (fun ls hl => ?_)
        refine lv_aload_n X.1 X.2.1 dX12_unit_25 rfl (lv_at hl 2 rfl) ?_
        refine lv_dup X.1 X.2.1 dX12_unit_26 rfl ?_
        refine gf_X12_12r X hK hG h0 wl_6_190 dX12_unit_27 (fun f20 hf20 kf20 => ?_)
        refine lv_iconst (v := 1) X.1 X.2.1 dX12_unit_30 (by decide +kernel) ?_
        refine lv_isub X.1 X.2.1 dX12_unit_31 ?_
        refine lv_topi (fun f21 ef21 => ?_)
        refine pf_X12_12R (d2 := 4) X hK hG hS h0 wl_6_190 ⟨_, rfl, (iv_of (iv_sub (a' := 4) (b' := 5) ef21 hf20 (iv_c 1 (a := 1) (b := 1) (by decide +kernel)) (by decide +kernel)) (a' := 4) (b' := 6) (by decide +kernel))⟩ dX12_unit_32 (fun H locs hG hS => ?_)
        refine lv_iload_n X.1 X.2.1 dX12_unit_35 rfl (lv_at hl 0 rfl) ?_
        refine lv_if_ne (tgt := 43) X.1 X.2.1 dX12_unit_36 (by decide) (fun c22 => ?_) (fun c22 => ?_)
        · refine lv_iconst (v := 0) X.1 X.2.1 dX12_unit_43 (by decide +kernel) ?_
          have hG := sgr_weak (d' := 4) (lo' := lo) (hi' := 241) (f' := f) hG (by omega) (by omega) (by omega) (by omega)
          exact sg_zret X hr (sg_zn (iv_of (iv_c 0 (a := 0) (b := 0) (by decide +kernel)) (a' := 0) (b' := 1) (by decide +kernel))) hlk hb hK hC hG hS (iv_of (iv_c 0 (a := 0) (b := 0) (by decide +kernel)) (a' := 0) (b' := 1) (by decide +kernel)) dX12_unit_44
        · refine lv_iconst (v := 1) X.1 X.2.1 dX12_unit_39 (by decide +kernel) ?_
          refine lv_goto (tgt := 44) X.1 X.2.1 dX12_unit_40 (by decide) ?_
          have hG := sgr_weak (d' := 4) (lo' := lo) (hi' := 241) (f' := f) hG (by omega) (by omega) (by omega) (by omega)
          exact sg_zret X hr (sg_zn (iv_of (iv_c 1 (a := 1) (b := 1) (by decide +kernel)) (a' := 0) (b' := 1) (by decide +kernel))) hlk hb hK hC hG hS (iv_of (iv_c 1 (a := 1) (b := 1) (by decide +kernel)) (a' := 0) (b' := 1) (by decide +kernel)) dX12_unit_44
      · exact ((iv_no (a := 1) (b := 0) (iv_eqm c18 (iv_c 1 (a := 1) (b := 1) (by decide +kernel)) (iv_c 0 (a := 0) (b := 0) (by decide +kernel)) (by decide +kernel)) (by decide +kernel))).elim

theorem ca_X12_unit_4  {b : Bool} {lo mr f : Int}  (X : CallFix p m c cc nL s args sg_tbl own) (hK : va_K D vwCl tys s) (hG : sgG (KR b 4 lo 241 mr f P) D vwCl (fun q : Nat => base ≤ q) tys ad ks H) (hC : sgC base s) (hS : va_S (fun q : Nat => base ≤ q) s.heap H locs) (hb : base ≤ s.heap.size) (a0 : Nat) (h0 : isK ad ks 12 a0) (hlo : 0 ≤ lo ∧ lo ≤ 241 ∧ -1 ≤ f ∧ f ≤ 0 ∧ 0 ≤ mr) (hl : Cond.methodLink own index yX12_unit ∈ sg_tbl) (hsize : ls.size = nL) (hst : st0 = [].reverse ++ .ref a0 :: rest) (hW : (rest.map fun v => v.category).sum ≤ 8) (hR : 16 ≤ R.frames ∧ 367 ≤ R.locals) (hf : cells ≤ R.cells ∧ slots ≤ R.slots) (hdg : decode cc pc = .ok (.invokevirtual index, 3)) (kk : ∀ (r : Int32) (H1 : Heap) (locs1 : List Loc), (fun r : Int32 => iv 0 1 r) r → sgG (KR b 4 lo 241 mr f P) D vwCl (fun q : Nat => base ≤ q) tys ad ks H1 → va_S (fun q : Nat => base ≤ q) s.heap H1 locs1 → W p l e R s m args below meth c H1 locs1 cells slots Q (F0 m (pc + 3) ls (.int r :: rest))) : W p l e R s m args below meth c H locs cells slots Q (F0 m pc ls st0) :=
  sg_callVi X hK hG hC hS hb (m_X12_unit_4 l a0 h0 hlo) h0 (k := 12) (ci := 12) rfl (C := RX12) (T := TX12) (N := 53) rfl wl_8_26 wl_1_13 wl_8_25 wl_0_68 (n := 0) (by decide +kernel) rfl rfl rfl hl hsize hst hW hR hf hdg kk

set_option maxHeartbeats 8000000 in
set_option maxRecDepth 100000 in
theorem m_X12_part_4 (l : Launch) {D : va_G} {base : Nat} {tys : List (ClassId × FieldType)} {ad ks : List Nat} {P : sgPm}{b : Bool} {lo mr f : Int}  (a0 : Nat) (h0 : isK ad ks 12 a0) (x1 : Int32) (h1 : iv 0 1 x1) (x2 : Int32) (hlo : 0 ≤ lo ∧ lo ≤ 241 ∧ -1 ≤ f ∧ f ≤ 0 ∧ 0 ≤ mr) : sgMi l (KR b 4 lo 241 mr f P) D vwCl base tys ad ks yX12_part cX12_part 5 (some .boolean) ({ frames := 16, cells := 0, slots := 0, locals := 367 }) [.ref a0, .int x1, .int x2] (fun r : Int32 => iv 0 1 r) := by
  refine sg_ofW (by decide +kernel) (Nat.le_of_ble_eq_true rfl) (fun p e s m below meth c X hr hlk hb hK hC hG ls hl => ?_)
  have hS : va_S (fun q : Nat => base ≤ q) s.heap s.heap [] := va_S.rf
  have hl : lv_has ls 5 [(0, .ref a0), (1, .int x1), (2, .int x2)] := hl
  refine lv_iload_n X.1 X.2.1 dX12_part_0 rfl (lv_at hl 1 rfl) ?_
  have B2_17 : ∀ (H : Heap) (locs : List Loc) (ls : Array Slot) (w2_0 : Int32) (lo2 : Int), lo ≤ lo2 → lo2 ≤ 241 → sgG (KR b 4 lo2 241 mr f P) D vwCl (fun q : Nat => base ≤ q) tys ad ks H → va_S (fun q : Nat => base ≤ q) s.heap H locs → lv_has ls 5 [(0, .ref a0)] → iv 0 1 w2_0 → W p l e (headSpec (Cond.code yX12_part cX12_part 5 (some .boolean) :: sg_tbl) ({ frames := 16, cells := 0, slots := 0, locals := 367 })).room s m #[.ref a0, .int x1, .int x2] below meth c H locs 0 0 (MQ below (va_Qi (fun r (_ : Unit) => (fun r : Int32 => iv 0 1 r) r) (fun _ => sgB (KR b 4 lo 241 mr f P) D vwCl base tys ad ks) (fun q : Nat => base ≤ q)) #[.ref a0, .int x1, .int x2] s 0 0 (fun q : Nat => base ≤ q)) (F0 m 17 ls [.int w2_0]) := by
    intro H locs ls w2_0 lo2 jl2 jm2 hG hS hl hw2_0
    refine lv_istore_n (lv' := [(3, .int w2_0), (0, .ref a0)]) X.1 X.2.1 dX12_part_17 rfl hl (by decide) rfl (fun ls hl => ?_)
    have B3_18 : ∀ (N : Nat) (H : Heap) (locs : List Loc) (ls : Array Slot) (z3_3 : Int32) (lo3 : Int), lo2 ≤ lo3 → lo3 ≤ 241 → sgG (KR b 4 lo3 241 mr f P) D vwCl (fun q : Nat => base ≤ q) tys ad ks H → va_S (fun q : Nat => base ≤ q) s.heap H locs → lv_has ls 5 [(0, .ref a0), (3, .int z3_3)] → iv 0 1 z3_3 → (242 - lo3).toNat ≤ N → W p l e (headSpec (Cond.code yX12_part cX12_part 5 (some .boolean) :: sg_tbl) ({ frames := 16, cells := 0, slots := 0, locals := 367 })).room s m #[.ref a0, .int x1, .int x2] below meth c H locs 0 0 (MQ below (va_Qi (fun r (_ : Unit) => (fun r : Int32 => iv 0 1 r) r) (fun _ => sgB (KR b 4 lo 241 mr f P) D vwCl base tys ad ks) (fun q : Nat => base ≤ q)) #[.ref a0, .int x1, .int x2] s 0 0 (fun q : Nat => base ≤ q)) (F0 m 18 ls []) := by
      intro N; induction N with
      | zero =>
        intro H locs ls z3_3 lo3 jl3 jm3 hG hS hl hz3_3 hN
        exact absurd hN (by have := jm3; omega)
      | succ N ih3 =>
        intro H locs ls z3_3 lo3 jl3 jm3 hG hS hl hz3_3 hN3
        refine lv_aload_n X.1 X.2.1 dX12_part_18 rfl (lv_at hl 0 rfl) ?_
        refine gf_X12_11r X hK hG h0 wl_6_189 dX12_part_19 (fun f4 hf4 kf4 => ?_)
        have ⟨laf4, uaf4⟩ : f ≤ f4.toInt ∧ f4.toInt ≤ 241 := hf4
        have hf4 : iv (-1) 241 f4 := ⟨by omega, by omega⟩
        refine lv_iconst (v := (-1)) X.1 X.2.1 dX12_part_22 (by decide +kernel) ?_
        refine lv_icmp_ne (tgt := 69) X.1 X.2.1 dX12_part_23 (by decide) (fun c5 => ?_) (fun c5 => ?_)
        · refine lv_iload_n X.1 X.2.1 dX12_part_69 rfl (lv_at hl 1 rfl) ?_
          have hG := sgr_weak (d' := 4) (lo' := lo) (hi' := 241) (f' := f) hG (by omega) (by omega) (by omega) (by omega)
          exact sg_zret X hr (sg_zn hz3_3) hlk hb hK hC hG hS hz3_3 dX12_part_70
        · refine lv_aload_n X.1 X.2.1 dX12_part_26 rfl (lv_at hl 0 rfl) ?_
          refine ca_X12_look X hK hG hC hS hb a0 h0 ⟨by omega, by omega, by omega, by omega, by omega⟩ ⟨by omega, by omega, by omega⟩ wl_7_137 hl.1 (rest := []) rfl (Nat.le_of_ble_eq_true rfl) ⟨Nat.le_of_ble_eq_true rfl, Nat.le_of_ble_eq_true rfl⟩ ⟨Nat.le_of_ble_eq_true rfl, Nat.le_of_ble_eq_true rfl⟩ dX12_part_27 (fun f6 tf6 H locs htf6 hf6 hWf6 hS => ?_)
          obtain ⟨hBf6, v7, kv7, hv7, lv7⟩ := hWf6
          have hG := hBf6.2.2.2
          rw [htf6] at hG kv7
          have ⟨lav7, uav7⟩ : lo3 ≤ v7.toInt ∧ v7.toInt ≤ 241 := hv7
          have hv7 : iv 0 241 v7 := ⟨by omega, by omega⟩
          refine lv_bipush (v := 38) X.1 X.2.1 dX12_part_30 (by decide +kernel) ?_
          refine lv_icmp_ne (tgt := 69) X.1 X.2.1 dX12_part_32 (by decide) (fun c8 => ?_) (fun c8 => ?_)
          · refine lv_iload_n X.1 X.2.1 dX12_part_69 rfl (lv_at hl 1 rfl) ?_
            have hG := sgr_weak (d' := 4) (lo' := lo) (hi' := 241) (f' := f) hG (by omega) (by omega) (by omega) (by omega)
            exact sg_zret X hr (sg_zn hz3_3) hlk hb hK hC hG hS hz3_3 dX12_part_70
          · refine lv_aload_n X.1 X.2.1 dX12_part_35 rfl (lv_at hl 0 rfl) ?_
            refine lv_dup X.1 X.2.1 dX12_part_36 rfl ?_
            refine gg_X12_10r X hK hG h0 wl_6_188 kv7 dX12_part_37 ?_
            refine lv_iconst (v := 1) X.1 X.2.1 dX12_part_40 (by decide +kernel) ?_
            refine lv_iadd X.1 X.2.1 dX12_part_41 ?_
            refine lv_topi (fun f9 ef9 => ?_)
            have sf9 : f9.toInt = v7.toInt + 1 := sg_inc (k := 1) ef9 (sg_lk (iv_eqm (a' := 38) (b' := 38) c8 hf6 (iv_c 38 (a := 38) (b := 38) (by decide +kernel)) (by decide +kernel)) lv7 hv7) (by decide +kernel)
            have uf9 : f9.toInt ≤ 241 := Int.le_trans ((iv_add (a' := 1) (b' := 240) ef9 (sg_lk (iv_eqm (a' := 38) (b' := 38) c8 hf6 (iv_c 38 (a := 38) (b := 38) (by decide +kernel)) (by decide +kernel)) lv7 hv7) (iv_c 1 (a := 1) (b := 1) (by decide +kernel)) (by decide +kernel))).2 (by omega)
            refine pf_X12_10R (lo2 := f9.toInt) (hi2 := 241) X hK hG hS h0 wl_6_188 ⟨_, rfl, Int.le_refl _, uf9⟩ dX12_part_42 (fun H locs hG hS => ?_)
            refine lv_aload_n X.1 X.2.1 dX12_part_45 rfl (lv_at hl 0 rfl) ?_
            refine ca_X12_unit_4 X hK hG hC hS hb a0 h0 ⟨by omega, by omega, by omega, by omega, by omega⟩ wl_8_23 hl.1 (rest := []) rfl (Nat.le_of_ble_eq_true rfl) ⟨Nat.le_of_ble_eq_true rfl, Nat.le_of_ble_eq_true rfl⟩ ⟨Nat.le_of_ble_eq_true rfl, Nat.le_of_ble_eq_true rfl⟩ dX12_part_46 (fun f10 H locs hf10 hG hS => ?_)
            refine lv_istore (lv' := [(4, .int f10), (0, .ref a0), (3, .int z3_3)]) X.1 X.2.1 dX12_part_49 hl (by decide) rfl (fun ls hl => ?_)
            refine lv_iload_n X.1 X.2.1 dX12_part_51 rfl (lv_at hl 2 rfl) ?_
            have B12_65 : ∀ (locs : List Loc) (ls : Array Slot) (w12_0 : Int32), va_S (fun q : Nat => base ≤ q) s.heap H locs → lv_has ls 5 [(0, .ref a0)] → iv 0 1 w12_0 → W p l e (headSpec (Cond.code yX12_part cX12_part 5 (some .boolean) :: sg_tbl) ({ frames := 16, cells := 0, slots := 0, locals := 367 })).room s m #[.ref a0, .int x1, .int x2] below meth c H locs 0 0 (MQ below (va_Qi (fun r (_ : Unit) => (fun r : Int32 => iv 0 1 r) r) (fun _ => sgB (KR b 4 lo 241 mr f P) D vwCl base tys ad ks) (fun q : Nat => base ≤ q)) #[.ref a0, .int x1, .int x2] s 0 0 (fun q : Nat => base ≤ q)) (F0 m 65 ls [.int w12_0]) := by
              intro locs ls w12_0 hS hl hw12_0
              refine lv_istore_n (lv' := [(3, .int w12_0), (0, .ref a0)]) X.1 X.2.1 dX12_part_65 rfl hl (by decide) rfl (fun ls hl => ?_)
              refine lv_goto (tgt := 18) X.1 X.2.1 dX12_part_66 (by decide) ?_
              exact ih3 H _ _ w12_0 f9.toInt (by omega) (by omega) hG hS (lv_sub hl [1, 0] rfl) hw12_0 (by omega)
            have B13_64 : ∀ (locs : List Loc) (ls : Array Slot), va_S (fun q : Nat => base ≤ q) s.heap H locs → lv_has ls 5 [(0, .ref a0)] → W p l e (headSpec (Cond.code yX12_part cX12_part 5 (some .boolean) :: sg_tbl) ({ frames := 16, cells := 0, slots := 0, locals := 367 })).room s m #[.ref a0, .int x1, .int x2] below meth c H locs 0 0 (MQ below (va_Qi (fun r (_ : Unit) => (fun r : Int32 => iv 0 1 r) r) (fun _ => sgB (KR b 4 lo 241 mr f P) D vwCl base tys ad ks) (fun q : Nat => base ≤ q)) #[.ref a0, .int x1, .int x2] s 0 0 (fun q : Nat => base ≤ q)) (F0 m 64 ls []) := by
              intro locs ls hS hl
              refine lv_iconst (v := 0) X.1 X.2.1 dX12_part_64 (by decide +kernel) ?_
              exact B12_65 _ _ 0 hS (lv_sub hl [0] rfl) (iv_of (iv_c 0 (a := 0) (b := 0) (by decide +kernel)) (a' := 0) (b' := 1) (by decide +kernel))
            refine lv_if_eq (tgt := 64) X.1 X.2.1 dX12_part_52 (by decide) (fun c11 => ?_) (fun c11 => ?_)
            · exact B13_64 _ _ hS (lv_sub hl [1] rfl)
            · refine lv_iload X.1 X.2.1 dX12_part_55 (lv_at hl 0 rfl) ?_
              refine lv_if_eq (tgt := 64) X.1 X.2.1 dX12_part_57 (by decide) (fun c14 => ?_) (fun c14 => ?_)
              · exact B13_64 _ _ hS (lv_sub hl [1] rfl)
              · refine lv_iconst (v := 1) X.1 X.2.1 dX12_part_60 (by decide +kernel) ?_
                refine lv_goto (tgt := 65) X.1 X.2.1 dX12_part_61 (by decide) ?_
                exact B12_65 _ _ 1 hS (lv_sub hl [1] rfl) (iv_of (iv_c 1 (a := 1) (b := 1) (by decide +kernel)) (a' := 0) (b' := 1) (by decide +kernel))
    exact B3_18 _ H _ _ w2_0 lo2 (by omega) (by omega) hG hS (lv_sub hl [1, 0] rfl) hw2_0 (Nat.le_refl _)
  refine lv_if_eq (tgt := 13) X.1 X.2.1 dX12_part_1 (by decide) (fun c1 => ?_) (fun c1 => ?_)
  · refine lv_aload_n X.1 X.2.1 dX12_part_13 rfl (lv_at hl 0 rfl) ?_
    refine ca_X12_unit_4 X hK hG hC hS hb a0 h0 ⟨by omega, by omega, by omega, by omega, by omega⟩ wl_8_23 hl.1 (rest := []) rfl (Nat.le_of_ble_eq_true rfl) ⟨Nat.le_of_ble_eq_true rfl, Nat.le_of_ble_eq_true rfl⟩ ⟨Nat.le_of_ble_eq_true rfl, Nat.le_of_ble_eq_true rfl⟩ dX12_part_14 (fun f15 H locs hf15 hG hS => ?_)
    exact B2_17 H _ _ f15 lo (by omega) (by omega) hG hS (lv_sub hl [0] rfl) hf15
  · refine lv_aload_n X.1 X.2.1 dX12_part_4 rfl (lv_at hl 0 rfl) ?_
    refine lv_iconst (v := 1) X.1 X.2.1 dX12_part_5 (by decide +kernel) ?_
    refine lv_iload_n X.1 X.2.1 dX12_part_6 rfl (lv_at hl 2 rfl) ?_
    refine ca_X12_compares_4 X hK hG hC hS hb a0 h0 1 (iv_of (iv_c 1 (a := 1) (b := 1) (by decide +kernel)) (a' := 0) (b' := 1) (by decide +kernel)) x2 ⟨by omega, by omega, by omega, by omega, by omega⟩ wl_7_229 hl.1 (rest := []) rfl (Nat.le_of_ble_eq_true rfl) ⟨Nat.le_of_ble_eq_true rfl, Nat.le_of_ble_eq_true rfl⟩ ⟨Nat.le_of_ble_eq_true rfl, Nat.le_of_ble_eq_true rfl⟩ dX12_part_7 (fun f16 H locs hf16 hG hS => ?_)
    refine lv_goto (tgt := 17) X.1 X.2.1 dX12_part_10 (by decide) ?_
    exact B2_17 H _ _ f16 lo (by omega) (by omega) hG hS (lv_sub hl [0] rfl) hf16

theorem ca_X12_part_4  {b : Bool} {lo mr f : Int}  (X : CallFix p m c cc nL s args sg_tbl own) (hK : va_K D vwCl tys s) (hG : sgG (KR b 4 lo 241 mr f P) D vwCl (fun q : Nat => base ≤ q) tys ad ks H) (hC : sgC base s) (hS : va_S (fun q : Nat => base ≤ q) s.heap H locs) (hb : base ≤ s.heap.size) (a0 : Nat) (h0 : isK ad ks 12 a0) (x1 : Int32) (h1 : iv 0 1 x1) (x2 : Int32) (hlo : 0 ≤ lo ∧ lo ≤ 241 ∧ -1 ≤ f ∧ f ≤ 0 ∧ 0 ≤ mr) (hl : Cond.methodLink own index yX12_part ∈ sg_tbl) (hsize : ls.size = nL) (hst : st0 = [.int x1, .int x2].reverse ++ .ref a0 :: rest) (hW : (rest.map fun v => v.category).sum ≤ 8) (hR : 17 ≤ R.frames ∧ 391 ≤ R.locals) (hf : cells ≤ R.cells ∧ slots ≤ R.slots) (hdg : decode cc pc = .ok (.invokevirtual index, 3)) (kk : ∀ (r : Int32) (H1 : Heap) (locs1 : List Loc), (fun r : Int32 => iv 0 1 r) r → sgG (KR b 4 lo 241 mr f P) D vwCl (fun q : Nat => base ≤ q) tys ad ks H1 → va_S (fun q : Nat => base ≤ q) s.heap H1 locs1 → W p l e R s m args below meth c H1 locs1 cells slots Q (F0 m (pc + 3) ls (.int r :: rest))) : W p l e R s m args below meth c H locs cells slots Q (F0 m pc ls st0) :=
  sg_callVi X hK hG hC hS hb (m_X12_part_4 l a0 h0 x1 h1 x2 hlo) h0 (k := 12) (ci := 12) rfl (C := RX12) (T := TX12) (N := 53) rfl wl_7_228 wl_1_13 wl_7_227 wl_0_62 (n := 2) (by decide +kernel) rfl rfl rfl hl hsize hst hW hR hf hdg kk

set_option maxHeartbeats 8000000 in
set_option maxRecDepth 100000 in
theorem m_X12_condition_4 (l : Launch) {D : va_G} {base : Nat} {tys : List (ClassId × FieldType)} {ad ks : List Nat} {P : sgPm}{b : Bool} {lo mr f : Int}  (a0 : Nat) (h0 : isK ad ks 12 a0) (x1 : Int32) (h1 : iv 0 1 x1) (x2 : Int32) (hlo : 0 ≤ lo ∧ lo ≤ 241 ∧ -1 ≤ f ∧ f ≤ 0 ∧ 0 ≤ mr) : sgMi l (KR b 4 lo 241 mr f P) D vwCl base tys ad ks yX12_condition cX12_condition 5 (some .boolean) ({ frames := 17, cells := 0, slots := 0, locals := 391 }) [.ref a0, .int x1, .int x2] (fun r : Int32 => iv 0 1 r) := by
  refine sg_ofW (by decide +kernel) (Nat.le_of_ble_eq_true rfl) (fun p e s m below meth c X hr hlk hb hK hC hG ls hl => ?_)
  have hS : va_S (fun q : Nat => base ≤ q) s.heap s.heap [] := va_S.rf
  have hl : lv_has ls 5 [(0, .ref a0), (1, .int x1), (2, .int x2)] := hl
  refine lv_aload_n X.1 X.2.1 dX12_condition_0 rfl (lv_at hl 0 rfl) ?_
  refine lv_iload_n X.1 X.2.1 dX12_condition_1 rfl (lv_at hl 1 rfl) ?_
  refine lv_iload_n X.1 X.2.1 dX12_condition_2 rfl (lv_at hl 2 rfl) ?_
  refine ca_X12_part_4 X hK hG hC hS hb a0 h0 x1 h1 x2 ⟨by omega, by omega, by omega, by omega, by omega⟩ wl_7_225 hl.1 (rest := []) rfl (Nat.le_of_ble_eq_true rfl) ⟨Nat.le_of_ble_eq_true rfl, Nat.le_of_ble_eq_true rfl⟩ ⟨Nat.le_of_ble_eq_true rfl, Nat.le_of_ble_eq_true rfl⟩ dX12_condition_3 (fun f1 H locs hf1 hG hS => ?_)
  refine lv_istore_n (lv' := [(3, .int f1), (0, .ref a0), (1, .int x1), (2, .int x2)]) X.1 X.2.1 dX12_condition_6 rfl hl (by decide) rfl (fun ls hl => ?_)
  have B2_7 : ∀ (N : Nat) (H : Heap) (locs : List Loc) (ls : Array Slot) (z2_3 : Int32) (lo2 : Int), lo ≤ lo2 → lo2 ≤ 241 → sgG (KR b 4 lo2 241 mr f P) D vwCl (fun q : Nat => base ≤ q) tys ad ks H → va_S (fun q : Nat => base ≤ q) s.heap H locs → lv_has ls 5 [(0, .ref a0), (3, .int z2_3)] → iv 0 1 z2_3 → (242 - lo2).toNat ≤ N → W p l e (headSpec (Cond.code yX12_condition cX12_condition 5 (some .boolean) :: sg_tbl) ({ frames := 17, cells := 0, slots := 0, locals := 391 })).room s m #[.ref a0, .int x1, .int x2] below meth c H locs 0 0 (MQ below (va_Qi (fun r (_ : Unit) => (fun r : Int32 => iv 0 1 r) r) (fun _ => sgB (KR b 4 lo 241 mr f P) D vwCl base tys ad ks) (fun q : Nat => base ≤ q)) #[.ref a0, .int x1, .int x2] s 0 0 (fun q : Nat => base ≤ q)) (F0 m 7 ls []) := by
    intro N; induction N with
    | zero =>
      intro H locs ls z2_3 lo2 jl2 jm2 hG hS hl hz2_3 hN
      exact absurd hN (by have := jm2; omega)
    | succ N ih2 =>
      intro H locs ls z2_3 lo2 jl2 jm2 hG hS hl hz2_3 hN2
      refine lv_aload_n X.1 X.2.1 dX12_condition_7 rfl (lv_at hl 0 rfl) ?_
      refine gf_X12_11r X hK hG h0 wl_6_189 dX12_condition_8 (fun f3 hf3 kf3 => ?_)
      have ⟨laf3, uaf3⟩ : f ≤ f3.toInt ∧ f3.toInt ≤ 241 := hf3
      have hf3 : iv (-1) 241 f3 := ⟨by omega, by omega⟩
      refine lv_iconst (v := (-1)) X.1 X.2.1 dX12_condition_11 (by decide +kernel) ?_
      refine lv_icmp_ne (tgt := 60) X.1 X.2.1 dX12_condition_12 (by decide) (fun c4 => ?_) (fun c4 => ?_)
      · refine lv_iload_n X.1 X.2.1 dX12_condition_60 rfl (lv_at hl 1 rfl) ?_
        have hG := sgr_weak (d' := 4) (lo' := lo) (hi' := 241) (f' := f) hG (by omega) (by omega) (by omega) (by omega)
        exact sg_zret X hr (sg_zn hz2_3) hlk hb hK hC hG hS hz2_3 dX12_condition_61
      · refine lv_aload_n X.1 X.2.1 dX12_condition_15 rfl (lv_at hl 0 rfl) ?_
        refine ca_X12_look X hK hG hC hS hb a0 h0 ⟨by omega, by omega, by omega, by omega, by omega⟩ ⟨by omega, by omega, by omega⟩ wl_7_137 hl.1 (rest := []) rfl (Nat.le_of_ble_eq_true rfl) ⟨Nat.le_of_ble_eq_true rfl, Nat.le_of_ble_eq_true rfl⟩ ⟨Nat.le_of_ble_eq_true rfl, Nat.le_of_ble_eq_true rfl⟩ dX12_condition_16 (fun f5 tf5 H locs htf5 hf5 hWf5 hS => ?_)
        obtain ⟨hBf5, v6, kv6, hv6, lv6⟩ := hWf5
        have hG := hBf5.2.2.2
        rw [htf5] at hG kv6
        have ⟨lav6, uav6⟩ : lo2 ≤ v6.toInt ∧ v6.toInt ≤ 241 := hv6
        have hv6 : iv 0 241 v6 := ⟨by omega, by omega⟩
        refine lv_bipush (v := 124) X.1 X.2.1 dX12_condition_19 (by decide +kernel) ?_
        refine lv_icmp_ne (tgt := 60) X.1 X.2.1 dX12_condition_21 (by decide) (fun c7 => ?_) (fun c7 => ?_)
        · refine lv_iload_n X.1 X.2.1 dX12_condition_60 rfl (lv_at hl 1 rfl) ?_
          have hG := sgr_weak (d' := 4) (lo' := lo) (hi' := 241) (f' := f) hG (by omega) (by omega) (by omega) (by omega)
          exact sg_zret X hr (sg_zn hz2_3) hlk hb hK hC hG hS hz2_3 dX12_condition_61
        · refine lv_aload_n X.1 X.2.1 dX12_condition_24 rfl (lv_at hl 0 rfl) ?_
          refine lv_dup X.1 X.2.1 dX12_condition_25 rfl ?_
          refine gg_X12_10r X hK hG h0 wl_6_188 kv6 dX12_condition_26 ?_
          refine lv_iconst (v := 1) X.1 X.2.1 dX12_condition_29 (by decide +kernel) ?_
          refine lv_iadd X.1 X.2.1 dX12_condition_30 ?_
          refine lv_topi (fun f8 ef8 => ?_)
          have sf8 : f8.toInt = v6.toInt + 1 := sg_inc (k := 1) ef8 (sg_lk (iv_eqm (a' := 124) (b' := 124) c7 hf5 (iv_c 124 (a := 124) (b := 124) (by decide +kernel)) (by decide +kernel)) lv6 hv6) (by decide +kernel)
          have uf8 : f8.toInt ≤ 241 := Int.le_trans ((iv_add (a' := 1) (b' := 240) ef8 (sg_lk (iv_eqm (a' := 124) (b' := 124) c7 hf5 (iv_c 124 (a := 124) (b := 124) (by decide +kernel)) (by decide +kernel)) lv6 hv6) (iv_c 1 (a := 1) (b := 1) (by decide +kernel)) (by decide +kernel))).2 (by omega)
          refine pf_X12_10R (lo2 := f8.toInt) (hi2 := 241) X hK hG hS h0 wl_6_188 ⟨_, rfl, Int.le_refl _, uf8⟩ dX12_condition_31 (fun H locs hG hS => ?_)
          refine lv_aload_n X.1 X.2.1 dX12_condition_34 rfl (lv_at hl 0 rfl) ?_
          refine lv_iconst (v := 0) X.1 X.2.1 dX12_condition_35 (by decide +kernel) ?_
          refine lv_iconst (v := 0) X.1 X.2.1 dX12_condition_36 (by decide +kernel) ?_
          refine ca_X12_part_4 X hK hG hC hS hb a0 h0 0 (iv_of (iv_c 0 (a := 0) (b := 0) (by decide +kernel)) (a' := 0) (b' := 1) (by decide +kernel)) 0 ⟨by omega, by omega, by omega, by omega, by omega⟩ wl_7_225 hl.1 (rest := []) rfl (Nat.le_of_ble_eq_true rfl) ⟨Nat.le_of_ble_eq_true rfl, Nat.le_of_ble_eq_true rfl⟩ ⟨Nat.le_of_ble_eq_true rfl, Nat.le_of_ble_eq_true rfl⟩ dX12_condition_37 (fun f9 H locs hf9 hG hS => ?_)
          refine lv_istore (lv' := [(4, .int f9), (0, .ref a0), (3, .int z2_3)]) X.1 X.2.1 dX12_condition_40 hl (by decide) rfl (fun ls hl => ?_)
          refine lv_iload_n X.1 X.2.1 dX12_condition_42 rfl (lv_at hl 2 rfl) ?_
          have B11_56 : ∀ (locs : List Loc) (ls : Array Slot) (w11_0 : Int32), va_S (fun q : Nat => base ≤ q) s.heap H locs → lv_has ls 5 [(0, .ref a0)] → iv 0 1 w11_0 → W p l e (headSpec (Cond.code yX12_condition cX12_condition 5 (some .boolean) :: sg_tbl) ({ frames := 17, cells := 0, slots := 0, locals := 391 })).room s m #[.ref a0, .int x1, .int x2] below meth c H locs 0 0 (MQ below (va_Qi (fun r (_ : Unit) => (fun r : Int32 => iv 0 1 r) r) (fun _ => sgB (KR b 4 lo 241 mr f P) D vwCl base tys ad ks) (fun q : Nat => base ≤ q)) #[.ref a0, .int x1, .int x2] s 0 0 (fun q : Nat => base ≤ q)) (F0 m 56 ls [.int w11_0]) := by
            intro locs ls w11_0 hS hl hw11_0
            refine lv_istore_n (lv' := [(3, .int w11_0), (0, .ref a0)]) X.1 X.2.1 dX12_condition_56 rfl hl (by decide) rfl (fun ls hl => ?_)
            refine lv_goto (tgt := 7) X.1 X.2.1 dX12_condition_57 (by decide) ?_
            exact ih2 H _ _ w11_0 f8.toInt (by omega) (by omega) hG hS (lv_sub hl [1, 0] rfl) hw11_0 (by omega)
          have B12_51 : ∀ (locs : List Loc) (ls : Array Slot), va_S (fun q : Nat => base ≤ q) s.heap H locs → lv_has ls 5 [(0, .ref a0)] → W p l e (headSpec (Cond.code yX12_condition cX12_condition 5 (some .boolean) :: sg_tbl) ({ frames := 17, cells := 0, slots := 0, locals := 391 })).room s m #[.ref a0, .int x1, .int x2] below meth c H locs 0 0 (MQ below (va_Qi (fun r (_ : Unit) => (fun r : Int32 => iv 0 1 r) r) (fun _ => sgB (KR b 4 lo 241 mr f P) D vwCl base tys ad ks) (fun q : Nat => base ≤ q)) #[.ref a0, .int x1, .int x2] s 0 0 (fun q : Nat => base ≤ q)) (F0 m 51 ls []) := by
            intro locs ls hS hl
            refine lv_iconst (v := 1) X.1 X.2.1 dX12_condition_51 (by decide +kernel) ?_
            refine lv_goto (tgt := 56) X.1 X.2.1 dX12_condition_52 (by decide) ?_
            exact B11_56 _ _ 1 hS (lv_sub hl [0] rfl) (iv_of (iv_c 1 (a := 1) (b := 1) (by decide +kernel)) (a' := 0) (b' := 1) (by decide +kernel))
          refine lv_if_ne (tgt := 51) X.1 X.2.1 dX12_condition_43 (by decide) (fun c10 => ?_) (fun c10 => ?_)
          · exact B12_51 _ _ hS (lv_sub hl [1] rfl)
          · refine lv_iload X.1 X.2.1 dX12_condition_46 (lv_at hl 0 rfl) ?_
            refine lv_if_eq (tgt := 55) X.1 X.2.1 dX12_condition_48 (by decide) (fun c13 => ?_) (fun c13 => ?_)
            · refine lv_iconst (v := 0) X.1 X.2.1 dX12_condition_55 (by decide +kernel) ?_
              exact B11_56 _ _ 0 hS (lv_sub hl [1] rfl) (iv_of (iv_c 0 (a := 0) (b := 0) (by decide +kernel)) (a' := 0) (b' := 1) (by decide +kernel))
            · exact B12_51 _ _ hS (lv_sub hl [1] rfl)
  exact B2_7 _ H _ _ f1 lo (by omega) (by omega) hG hS (lv_sub hl [1, 0] rfl) hf1 (Nat.le_refl _)

theorem ca_X12_condition_4  {b : Bool} {lo mr f : Int}  (X : CallFix p m c cc nL s args sg_tbl own) (hK : va_K D vwCl tys s) (hG : sgG (KR b 4 lo 241 mr f P) D vwCl (fun q : Nat => base ≤ q) tys ad ks H) (hC : sgC base s) (hS : va_S (fun q : Nat => base ≤ q) s.heap H locs) (hb : base ≤ s.heap.size) (a0 : Nat) (h0 : isK ad ks 12 a0) (x1 : Int32) (h1 : iv 0 1 x1) (x2 : Int32) (hlo : 0 ≤ lo ∧ lo ≤ 241 ∧ -1 ≤ f ∧ f ≤ 0 ∧ 0 ≤ mr) (hl : Cond.methodLink own index yX12_condition ∈ sg_tbl) (hsize : ls.size = nL) (hst : st0 = [.int x1, .int x2].reverse ++ .ref a0 :: rest) (hW : (rest.map fun v => v.category).sum ≤ 8) (hR : 18 ≤ R.frames ∧ 415 ≤ R.locals) (hf : cells ≤ R.cells ∧ slots ≤ R.slots) (hdg : decode cc pc = .ok (.invokevirtual index, 3)) (kk : ∀ (r : Int32) (H1 : Heap) (locs1 : List Loc), (fun r : Int32 => iv 0 1 r) r → sgG (KR b 4 lo 241 mr f P) D vwCl (fun q : Nat => base ≤ q) tys ad ks H1 → va_S (fun q : Nat => base ≤ q) s.heap H1 locs1 → W p l e R s m args below meth c H1 locs1 cells slots Q (F0 m (pc + 3) ls (.int r :: rest))) : W p l e R s m args below meth c H locs cells slots Q (F0 m pc ls st0) :=
  sg_callVi X hK hG hC hS hb (m_X12_condition_4 l a0 h0 x1 h1 x2 hlo) h0 (k := 12) (ci := 12) rfl (C := RX12) (T := TX12) (N := 53) rfl wl_7_224 wl_1_13 wl_7_223 wl_0_61 (n := 2) (by decide +kernel) rfl rfl rfl hl hsize hst hW hR hf hdg kk

set_option maxHeartbeats 8000000 in
set_option maxRecDepth 100000 in
theorem m_X12_goesIn_3 (l : Launch) {D : va_G} {base : Nat} {tys : List (ClassId × FieldType)} {ad ks : List Nat} {P : sgPm}{b : Bool} {lo mr f : Int}  (a0 : Nat) (h0 : isK ad ks 12 a0) (hlo : 0 ≤ lo ∧ lo ≤ 241 ∧ -1 ≤ f ∧ f ≤ 0 ∧ 0 ≤ mr) : Met l yX12_goesIn (Cond.code yX12_goesIn cX12_goesIn 1 (some .boolean) :: sg_tbl) ({ frames := 1, cells := 0, slots := 0, locals := 20 }) (va_Pc [.ref a0] (sgB (KR b 3 lo 240 mr f P) D vwCl base tys ad ks)) (va_Qi (fun r (u : Int32) => u = r ∧ (fun r : Int32 => iv 0 1 r) r) (fun u t => (u = 0 ∧ sgB (KR b 3 lo 241 mr f P) D vwCl base tys ad ks t) ∨ (u = 1 ∧ sgB (KR b 4 lo 241 mr f P) D vwCl base tys ad ks t)) (fun q : Nat => base ≤ q)) 0 0 (fun q : Nat => base ≤ q) := by
  refine sg_ofW (by decide +kernel) (Nat.le_of_ble_eq_true rfl) (fun p e s m below meth c X hr hlk hb hK hC hG ls hl => ?_)
  have hS : va_S (fun q : Nat => base ≤ q) s.heap s.heap [] := va_S.rf
  have hl : lv_has ls 1 [(0, .ref a0)] := hl
  refine lv_aload_n X.1 X.2.1 dX12_goesIn_0 rfl (lv_at hl 0 rfl) ?_
  refine gf_X12_12r X hK hG h0 wl_6_190 dX12_goesIn_1 (fun f1 hf1 kf1 => ?_)
  refine lv_bipush (v := 6) X.1 X.2.1 dX12_goesIn_4 (by decide +kernel) ?_
  refine lv_icmp_ne (tgt := 14) X.1 X.2.1 dX12_goesIn_6 (by decide) (fun c2 => ?_) (fun c2 => ?_)
  · refine lv_aload_n X.1 X.2.1 dX12_goesIn_14 rfl (lv_at hl 0 rfl) ?_
    refine lv_dup X.1 X.2.1 dX12_goesIn_15 rfl ?_
    refine gg_X12_12r X hK hG h0 wl_6_190 kf1 dX12_goesIn_16 ?_
    refine lv_iconst (v := 1) X.1 X.2.1 dX12_goesIn_19 (by decide +kernel) ?_
    refine lv_iadd X.1 X.2.1 dX12_goesIn_20 ?_
    refine lv_topi (fun f3 ef3 => ?_)
    refine pf_X12_12R (d2 := 4) X hK hG hS h0 wl_6_190 ⟨_, rfl, (iv_add (a' := 4) (b' := 6) ef3 (iv_ne_hi (b' := 5) c2 hf1 (by decide +kernel)) (iv_c 1 (a := 1) (b := 1) (by decide +kernel)) (by decide +kernel))⟩ dX12_goesIn_21 (fun H locs hG hS => ?_)
    refine lv_aload_n X.1 X.2.1 dX12_goesIn_24 rfl (lv_at hl 0 rfl) ?_
    refine lv_dup X.1 X.2.1 dX12_goesIn_25 rfl ?_
    refine gf_X12_10r X hK hG h0 wl_6_188 dX12_goesIn_26 (fun f4 hf4 kf4 => ?_)
    have ⟨laf4, uaf4⟩ : lo ≤ f4.toInt ∧ f4.toInt ≤ 240 := hf4
    have hf4 : iv 0 240 f4 := ⟨by omega, by omega⟩
    refine lv_iconst (v := 1) X.1 X.2.1 dX12_goesIn_29 (by decide +kernel) ?_
    refine lv_iadd X.1 X.2.1 dX12_goesIn_30 ?_
    refine lv_topi (fun f5 ef5 => ?_)
    have sf5 : f5.toInt = f4.toInt + 1 := sg_inc (k := 1) ef5 hf4 (by decide +kernel)
    have uf5 : f5.toInt ≤ 241 := Int.le_trans ((iv_add (a' := 1) (b' := 241) ef5 hf4 (iv_c 1 (a := 1) (b := 1) (by decide +kernel)) (by decide +kernel))).2 (by omega)
    refine pf_X12_10R (lo2 := f5.toInt) (hi2 := 241) X hK hG hS h0 wl_6_188 ⟨_, rfl, Int.le_refl _, uf5⟩ dX12_goesIn_31 (fun H locs hG hS => ?_)
    refine lv_iconst (v := 1) X.1 X.2.1 dX12_goesIn_34 (by decide +kernel) ?_
    have hG := sgr_weak (d' := 4) (lo' := lo) (hi' := 241) (f' := f) hG (by omega) (by omega) (by omega) (by omega)
    exact sg_zret2 X hr (sg_zn (iv_of (iv_c 1 (a := 1) (b := 1) (by decide +kernel)) (a' := 0) (b' := 1) (by decide +kernel))) hlk hS (iv_of (iv_c 1 (a := 1) (b := 1) (by decide +kernel)) (a' := 0) (b' := 1) (by decide +kernel)) (fun t ht hW => (Or.inr ⟨rfl, sg_post hb hK hC hG hS ht hW⟩)) dX12_goesIn_35
  · refine lv_aload_n X.1 X.2.1 dX12_goesIn_9 rfl (lv_at hl 0 rfl) ?_
    have hG := sgr_weak (d' := 3) (lo' := lo) (hi' := 241) (f' := f) hG (by omega) (by omega) (by omega) (by omega)
    refine ca_X12_fails X hK hG hC hS hb a0 h0 ⟨by omega, by omega, by omega, by omega, by omega⟩ wl_7_141 hl.1 (rest := []) rfl (Nat.le_of_ble_eq_true rfl) ⟨Nat.le_of_ble_eq_true rfl, Nat.le_of_ble_eq_true rfl⟩ ⟨Nat.le_of_ble_eq_true rfl, Nat.le_of_ble_eq_true rfl⟩ dX12_goesIn_10 (fun f6 H locs hf6 hG hS => ?_)
    exact sg_zret2 X hr (sg_zn (iv_of hf6 (a' := 0) (b' := 1) (by decide +kernel))) hlk hS (iv_of hf6 (a' := 0) (b' := 1) (by decide +kernel)) (fun t ht hW => (Or.inl ⟨sg_is0 hf6, sg_post hb hK hC hG hS ht hW⟩)) dX12_goesIn_13

theorem ca_X12_goesIn_3  {b : Bool} {lo mr f : Int}  (X : CallFix p m c cc nL s args sg_tbl own) (hK : va_K D vwCl tys s) (hG : sgG (KR b 3 lo 240 mr f P) D vwCl (fun q : Nat => base ≤ q) tys ad ks H) (hC : sgC base s) (hS : va_S (fun q : Nat => base ≤ q) s.heap H locs) (hb : base ≤ s.heap.size) (a0 : Nat) (h0 : isK ad ks 12 a0) (hlo : 0 ≤ lo ∧ lo ≤ 241 ∧ -1 ≤ f ∧ f ≤ 0 ∧ 0 ≤ mr) (hl : Cond.methodLink own index yX12_goesIn ∈ sg_tbl) (hsize : ls.size = nL) (hst : st0 = [].reverse ++ .ref a0 :: rest) (hW : (rest.map fun v => v.category).sum ≤ 8) (hR : 2 ≤ R.frames ∧ 40 ≤ R.locals) (hf : cells ≤ R.cells ∧ slots ≤ R.slots) (hdg : decode cc pc = .ok (.invokevirtual index, 3)) (kk : ∀ (r : Int32) (t : State) (H1 : Heap) (locs1 : List Loc), t.heap = H1 → (fun r : Int32 => iv 0 1 r) r → ((r = 0 ∧ sgB (KR b 3 lo 241 mr f P) D vwCl base tys ad ks t) ∨ (r = 1 ∧ sgB (KR b 4 lo 241 mr f P) D vwCl base tys ad ks t)) → va_S (fun q : Nat => base ≤ q) s.heap H1 locs1 → W p l e R s m args below meth c H1 locs1 cells slots Q (F0 m (pc + 3) ls (.int r :: rest))) : W p l e R s m args below meth c H locs cells slots Q (F0 m pc ls st0) :=
  sg_callV2i X hK hG hC hS hb (m_X12_goesIn_3 l a0 h0 hlo) h0 (k := 12) (ci := 12) rfl (C := RX12) (T := TX12) (N := 53) rfl wl_8_8 wl_1_13 wl_8_7 wl_0_67 (n := 0) (by decide +kernel) rfl rfl rfl hl hsize hst hW hR hf hdg kk

set_option maxHeartbeats 8000000 in
set_option maxRecDepth 100000 in
theorem m_X12_atom_3 (l : Launch) {D : va_G} {base : Nat} {tys : List (ClassId × FieldType)} {ad ks : List Nat} {P : sgPm}{b : Bool} {lo mr f : Int}  (a0 : Nat) (h0 : isK ad ks 12 a0) (hlo : 0 ≤ lo ∧ lo ≤ 241 ∧ -1 ≤ f ∧ f ≤ 0 ∧ 0 ≤ mr) : sgMi l (KR b 3 lo 241 mr f P) D vwCl base tys ad ks yX12_atom cX12_atom 4 (some .int) ({ frames := 14, cells := 0, slots := 0, locals := 320 }) [.ref a0] (fun r : Int32 => True) := by
  refine sg_ofW (by decide +kernel) (Nat.le_of_ble_eq_true rfl) (fun p e s m below meth c X hr hlk hb hK hC hG ls hl => ?_)
  have hS : va_S (fun q : Nat => base ≤ q) s.heap s.heap [] := va_S.rf
  have hl : lv_has ls 4 [(0, .ref a0)] := hl
  refine lv_aload_n X.1 X.2.1 dX12_atom_0 rfl (lv_at hl 0 rfl) ?_
  refine ca_X12_look X hK hG hC hS hb a0 h0 ⟨by omega, by omega, by omega, by omega, by omega⟩ ⟨by omega, by omega, by omega⟩ wl_7_137 hl.1 (rest := []) rfl (Nat.le_of_ble_eq_true rfl) ⟨Nat.le_of_ble_eq_true rfl, Nat.le_of_ble_eq_true rfl⟩ ⟨Nat.le_of_ble_eq_true rfl, Nat.le_of_ble_eq_true rfl⟩ dX12_atom_1 (fun f1 tf1 H locs htf1 hf1 hWf1 hS => ?_)
  obtain ⟨hBf1, v2, kv2, hv2, lv2⟩ := hWf1
  have hG := hBf1.2.2.2
  rw [htf1] at hG kv2
  have ⟨lav2, uav2⟩ : lo ≤ v2.toInt ∧ v2.toInt ≤ 241 := hv2
  have hv2 : iv 0 241 v2 := ⟨by omega, by omega⟩
  refine lv_istore_n (lv' := [(1, .int f1), (0, .ref a0)]) X.1 X.2.1 dX12_atom_4 rfl hl (by decide) rfl (fun ls hl => ?_)
  obtain ⟨t3, vt3, pt3, rt3⟩ := hC.2.2.1
  refine va_ldcS X.1 X.2.1 X.2.2.2.1 rt3 dX12_atom_5 ?_
  refine lv_iload_n X.1 X.2.1 dX12_atom_7 rfl (lv_at hl 0 rfl) ?_
  refine ca_X12_isAmong_6 X hK (sgr_toKT hG (by omega) (by omega) (by omega)) hC (fun _ h => h) hS hb pt3 f1 (sg_htb (by decide +kernel)) wl_7_214 hl.1 (rest := []) rfl (Nat.le_of_ble_eq_true rfl) ⟨Nat.le_of_ble_eq_true rfl, Nat.le_of_ble_eq_true rfl⟩ ⟨Nat.le_of_ble_eq_true rfl, Nat.le_of_ble_eq_true rfl⟩ dX12_atom_8 (fun f4 locs hf4 hS => ?_)
  refine lv_if_eq (tgt := 31) X.1 X.2.1 dX12_atom_11 (by decide) (fun c5 => ?_) (fun c5 => ?_)
  · refine lv_iload_n X.1 X.2.1 dX12_atom_31 rfl (lv_at hl 0 rfl) ?_
    refine lv_bipush (v := 91) X.1 X.2.1 dX12_atom_32 (by decide +kernel) ?_
    refine lv_icmp_ne (tgt := 74) X.1 X.2.1 dX12_atom_34 (by decide) (fun c6 => ?_) (fun c6 => ?_)
    · refine lv_aload_n X.1 X.2.1 dX12_atom_74 rfl (lv_at hl 1 rfl) ?_
      refine ca_X12_isDigit X hK hG hC (fun _ h => h) hS hb a0 h0 ⟨by omega, by omega, by omega, by omega, by omega⟩ wl_7_187 hl.1 (rest := []) rfl (Nat.le_of_ble_eq_true rfl) ⟨Nat.le_of_ble_eq_true rfl, Nat.le_of_ble_eq_true rfl⟩ ⟨Nat.le_of_ble_eq_true rfl, Nat.le_of_ble_eq_true rfl⟩ dX12_atom_75 (fun f7 locs hf7 hS => ?_)
      have B9_86 : ∀ (H : Heap) (locs : List Loc) (ls : Array Slot) (lo9 : Int), lo ≤ lo9 → lo9 ≤ 241 → sgG (KR b 3 lo9 241 mr f P) D vwCl (fun q : Nat => base ≤ q) tys ad ks H → va_S (fun q : Nat => base ≤ q) s.heap H locs → lv_has ls 4 [(0, .ref a0)] → W p l e (headSpec (Cond.code yX12_atom cX12_atom 4 (some .int) :: sg_tbl) ({ frames := 14, cells := 0, slots := 0, locals := 320 })).room s m #[.ref a0] below meth c H locs 0 0 (MQ below (va_Qi (fun r (_ : Unit) => (fun r : Int32 => True) r) (fun _ => sgB (KR b 3 lo 241 mr f P) D vwCl base tys ad ks) (fun q : Nat => base ≤ q)) #[.ref a0] s 0 0 (fun q : Nat => base ≤ q)) (F0 m 86 ls []) := by
        intro H locs ls lo9 jl9 jm9 hG hS hl
        refine lv_iconst (v := 0) X.1 X.2.1 dX12_atom_86 (by decide +kernel) ?_
        refine lv_istore_n (lv' := [(2, .int 0), (0, .ref a0)]) X.1 X.2.1 dX12_atom_87 rfl hl (by decide) rfl (fun ls hl => ?_)
        refine lv_iconst (v := 0) X.1 X.2.1 dX12_atom_88 (by decide +kernel) ?_
        refine lv_istore_n (lv' := [(3, .int 0), (2, .int 0), (0, .ref a0)]) X.1 X.2.1 dX12_atom_89 rfl hl (by decide) rfl (fun ls hl => ?_)
        have B10_90 : ∀ (N : Nat) (H : Heap) (locs : List Loc) (ls : Array Slot) (z10_2 : Int32) (z10_3 : Int32) (lo10 : Int), lo9 ≤ lo10 → lo10 ≤ 241 → sgG (KR b 3 lo10 241 mr f P) D vwCl (fun q : Nat => base ≤ q) tys ad ks H → va_S (fun q : Nat => base ≤ q) s.heap H locs → lv_has ls 4 [(0, .ref a0), (2, .int z10_2), (3, .int z10_3)] → iv 0 4 z10_3 → (5 - z10_3.toInt).toNat ≤ N → W p l e (headSpec (Cond.code yX12_atom cX12_atom 4 (some .int) :: sg_tbl) ({ frames := 14, cells := 0, slots := 0, locals := 320 })).room s m #[.ref a0] below meth c H locs 0 0 (MQ below (va_Qi (fun r (_ : Unit) => (fun r : Int32 => True) r) (fun _ => sgB (KR b 3 lo 241 mr f P) D vwCl base tys ad ks) (fun q : Nat => base ≤ q)) #[.ref a0] s 0 0 (fun q : Nat => base ≤ q)) (F0 m 90 ls []) := by
          intro N; induction N with
          | zero =>
            intro H locs ls z10_2 z10_3 lo10 jl10 jm10 hG hS hl hz10_3 hN
            exact absurd hN (by have := iv_up hz10_3; omega)
          | succ N ih10 =>
            intro H locs ls z10_2 z10_3 lo10 jl10 jm10 hG hS hl hz10_3 hN10
            refine lv_aload_n X.1 X.2.1 dX12_atom_90 rfl (lv_at hl 0 rfl) ?_
            refine ca_X12_isDigit X hK hG hC (fun _ h => h) hS hb a0 h0 ⟨by omega, by omega, by omega, by omega, by omega⟩ wl_7_187 hl.1 (rest := []) rfl (Nat.le_of_ble_eq_true rfl) ⟨Nat.le_of_ble_eq_true rfl, Nat.le_of_ble_eq_true rfl⟩ ⟨Nat.le_of_ble_eq_true rfl, Nat.le_of_ble_eq_true rfl⟩ dX12_atom_91 (fun f11 locs hf11 hS => ?_)
            refine lv_if_eq (tgt := 156) X.1 X.2.1 dX12_atom_94 (by decide) (fun c12 => ?_) (fun c12 => ?_)
            · refine lv_iload_n X.1 X.2.1 dX12_atom_156 rfl (lv_at hl 1 rfl) ?_
              have hG := sgr_weak (d' := 3) (lo' := lo) (hi' := 241) (f' := f) hG (by omega) (by omega) (by omega) (by omega)
              exact sg_iret X hr hlk hb hK hC hG hS trivial dX12_atom_157
            · obtain ⟨v13, kv13, hv13⟩ := hf11.2 c12
              have ⟨lav13, uav13⟩ : lo10 ≤ v13.toInt ∧ v13.toInt ≤ 239 := hv13
              have hv13 : iv 0 239 v13 := ⟨by omega, uav13⟩
              refine lv_aload_n X.1 X.2.1 dX12_atom_97 rfl (lv_at hl 0 rfl) ?_
              refine gf_X12_11r X hK hG h0 wl_6_189 dX12_atom_98 (fun f14 hf14 kf14 => ?_)
              have ⟨laf14, uaf14⟩ : f ≤ f14.toInt ∧ f14.toInt ≤ 241 := hf14
              have hf14 : iv (-1) 241 f14 := ⟨by omega, by omega⟩
              refine lv_iconst (v := (-1)) X.1 X.2.1 dX12_atom_101 (by decide +kernel) ?_
              refine lv_icmp_ne (tgt := 156) X.1 X.2.1 dX12_atom_102 (by decide) (fun c15 => ?_) (fun c15 => ?_)
              · refine lv_iload_n X.1 X.2.1 dX12_atom_156 rfl (lv_at hl 1 rfl) ?_
                have hG := sgr_weak (d' := 3) (lo' := lo) (hi' := 241) (f' := f) hG (by omega) (by omega) (by omega) (by omega)
                exact sg_iret X hr hlk hb hK hC hG hS trivial dX12_atom_157
              · refine lv_iload_n X.1 X.2.1 dX12_atom_105 rfl (lv_at hl 2 rfl) ?_
                refine lv_iconst (v := 4) X.1 X.2.1 dX12_atom_106 (by decide +kernel) ?_
                refine lv_icmp_ne (tgt := 117) X.1 X.2.1 dX12_atom_107 (by decide) (fun c16 => ?_) (fun c16 => ?_)
                · refine lv_bipush (v := 10) X.1 X.2.1 dX12_atom_117 (by decide +kernel) ?_
                  refine lv_iload_n X.1 X.2.1 dX12_atom_119 rfl (lv_at hl 1 rfl) ?_
                  refine lv_imul X.1 X.2.1 dX12_atom_120 ?_
                  refine lv_topi (fun f17 ef17 => ?_)
                  refine lv_aload_n X.1 X.2.1 dX12_atom_121 rfl (lv_at hl 0 rfl) ?_
                  refine gf_X12_5r X hK hG h0 wl_6_183 dX12_atom_122 (fun q18 hq18 kq18 => ?_)
                  refine lv_aload_n X.1 X.2.1 dX12_atom_125 rfl (lv_at hl 0 rfl) ?_
                  refine gf_X12_8r X hK hG h0 wl_6_186 dX12_atom_126 (fun f19 hf19 kf19 => ?_)
                  refine lv_aload_n X.1 X.2.1 dX12_atom_129 rfl (lv_at hl 0 rfl) ?_
                  refine gg_X12_10r X hK hG h0 wl_6_188 kv13 dX12_atom_130 ?_
                  refine lv_iadd X.1 X.2.1 dX12_atom_133 ?_
                  refine lv_topi (fun f20 ef20 => ?_)
                  refine al_txt X hK hG hq18 hf19 hv13 ef20 dX12_atom_134 (fun f21 => ?_)
                  refine lv_iadd X.1 X.2.1 dX12_atom_135 ?_
                  refine lv_topi (fun f22 ef22 => ?_)
                  refine lv_bipush (v := 48) X.1 X.2.1 dX12_atom_136 (by decide +kernel) ?_
                  refine lv_isub X.1 X.2.1 dX12_atom_138 ?_
                  refine lv_topi (fun f23 ef23 => ?_)
                  refine lv_istore_n (lv' := [(2, .int f23), (0, .ref a0), (3, .int z10_3)]) X.1 X.2.1 dX12_atom_139 rfl hl (by decide) rfl (fun ls hl => ?_)
                  refine lv_aload_n X.1 X.2.1 dX12_atom_140 rfl (lv_at hl 1 rfl) ?_
                  refine lv_dup X.1 X.2.1 dX12_atom_141 rfl ?_
                  refine gg_X12_10r X hK hG h0 wl_6_188 kv13 dX12_atom_142 ?_
                  refine lv_iconst (v := 1) X.1 X.2.1 dX12_atom_145 (by decide +kernel) ?_
                  refine lv_iadd X.1 X.2.1 dX12_atom_146 ?_
                  refine lv_topi (fun f24 ef24 => ?_)
                  have sf24 : f24.toInt = v13.toInt + 1 := sg_inc (k := 1) ef24 hv13 (by decide +kernel)
                  have uf24 : f24.toInt ≤ 241 := Int.le_trans ((iv_add (a' := 1) (b' := 240) ef24 hv13 (iv_c 1 (a := 1) (b := 1) (by decide +kernel)) (by decide +kernel))).2 (by omega)
                  refine pf_X12_10R (lo2 := f24.toInt) (hi2 := 241) X hK hG hS h0 wl_6_188 ⟨_, rfl, Int.le_refl _, uf24⟩ dX12_atom_147 (fun H locs hG hS => ?_)
                  obtain ⟨y25, ey25⟩ : ∃ y : Int32, y = z10_3 + Int32.ofInt 1 := ⟨_, rfl⟩
                  refine lv_iinc (v := y25) (lv' := [(3, .int y25), (2, .int f23), (0, .ref a0)]) X.1 X.2.1 dX12_atom_150 hl (k := 2) rfl ey25.symm (by decide) rfl (fun ls hl => ?_)
                  refine lv_goto (tgt := 90) X.1 X.2.1 dX12_atom_153 (by decide) ?_
                  exact ih10 H _ _ f23 y25 f24.toInt (by omega) (by omega) hG hS (lv_sub hl [2, 1, 0] rfl) (iv_of (iv_add (a' := 1) (b' := 4) ey25 (iv_ne_hi (b' := 3) c16 hz10_3 (by decide +kernel)) (iv_c _ (a := 1) (b := 1) (by decide +kernel)) (by decide +kernel)) (a' := 0) (b' := 4) (by decide +kernel)) (iv_stepU ey25 (iv_ne_hi (b' := 3) c16 hz10_3 (by decide +kernel)) (by decide +kernel) hN10)
                · refine lv_aload_n X.1 X.2.1 dX12_atom_110 rfl (lv_at hl 0 rfl) ?_
                  refine ca_X12_fails X hK hG hC hS hb a0 h0 ⟨by omega, by omega, by omega, by omega, by omega⟩ wl_7_141 hl.1 (rest := []) rfl (Nat.le_of_ble_eq_true rfl) ⟨Nat.le_of_ble_eq_true rfl, Nat.le_of_ble_eq_true rfl⟩ ⟨Nat.le_of_ble_eq_true rfl, Nat.le_of_ble_eq_true rfl⟩ dX12_atom_111 (fun f26 H locs hf26 hG hS => ?_)
                  refine lv_pop X.1 X.2.1 dX12_atom_114 rfl ?_
                  refine lv_iconst (v := 0) X.1 X.2.1 dX12_atom_115 (by decide +kernel) ?_
                  have hG := sgr_weak (d' := 3) (lo' := lo) (hi' := 241) (f' := f) hG (by omega) (by omega) (by omega) (by omega)
                  exact sg_iret X hr hlk hb hK hC hG hS trivial dX12_atom_116
        exact B10_90 _ H _ _ 0 0 lo9 (by omega) (by omega) hG hS (lv_sub hl [2, 1, 0] rfl) (iv_of (iv_c 0 (a := 0) (b := 0) (by decide +kernel)) (a' := 0) (b' := 4) (by decide +kernel)) (Nat.le_refl _)
      refine lv_if_ne (tgt := 86) X.1 X.2.1 dX12_atom_78 (by decide) (fun c8 => ?_) (fun c8 => ?_)
      · obtain ⟨v27, kv27, hv27⟩ := hf7.2 c8
        have ⟨lav27, uav27⟩ : lo ≤ v27.toInt ∧ v27.toInt ≤ 239 := hv27
        have hv27 : iv 0 239 v27 := ⟨by omega, uav27⟩
        exact B9_86 H _ _ lo (by omega) (by omega) hG hS (lv_sub hl [1] rfl)
      · refine lv_aload_n X.1 X.2.1 dX12_atom_81 rfl (lv_at hl 1 rfl) ?_
        refine ca_X12_fails X hK hG hC hS hb a0 h0 ⟨by omega, by omega, by omega, by omega, by omega⟩ wl_7_141 hl.1 (rest := []) rfl (Nat.le_of_ble_eq_true rfl) ⟨Nat.le_of_ble_eq_true rfl, Nat.le_of_ble_eq_true rfl⟩ ⟨Nat.le_of_ble_eq_true rfl, Nat.le_of_ble_eq_true rfl⟩ dX12_atom_82 (fun f28 H locs hf28 hG hS => ?_)
        refine lv_pop X.1 X.2.1 dX12_atom_85 rfl ?_
        exact B9_86 H _ _ lo (by omega) (by omega) hG hS (lv_sub hl [1] rfl)
    · refine lv_aload_n X.1 X.2.1 dX12_atom_37 rfl (lv_at hl 1 rfl) ?_
      have uss29 : v2.toInt ≤ 240 := ((iv_of (sg_lk (iv_eqm (a' := 91) (b' := 91) c6 hf1 (iv_c 91 (a := 91) (b := 91) (by decide +kernel)) (by decide +kernel)) lv2 hv2) (a' := 0) (b' := 240) (by decide +kernel))).2
      have hG := sgr_str (lo' := v2.toInt) (hi' := 240) hG h0 kv2 ⟨Int.le_refl _, ((iv_of (sg_lk (iv_eqm (a' := 91) (b' := 91) c6 hf1 (iv_c 91 (a := 91) (b := 91) (by decide +kernel)) (by decide +kernel)) lv2 hv2) (a' := 0) (b' := 240) (by decide +kernel))).2⟩
      refine ca_X12_goesIn_3 X hK hG hC hS hb a0 h0 ⟨by omega, by omega, by omega, by omega, by omega⟩ wl_8_5 hl.1 (rest := []) rfl (Nat.le_of_ble_eq_true rfl) ⟨Nat.le_of_ble_eq_true rfl, Nat.le_of_ble_eq_true rfl⟩ ⟨Nat.le_of_ble_eq_true rfl, Nat.le_of_ble_eq_true rfl⟩ dX12_atom_38 (fun f30 tf30 H locs htf30 hf30 hWf30 hS => ?_)
      rcases hWf30 with ⟨rfl, hBf30⟩ | ⟨rfl, hBf30⟩
      · have hG := hBf30.2.2.2
        rw [htf30] at hG
        refine lv_if_ne (tgt := 46) X.1 X.2.1 dX12_atom_41 (by decide) (fun c31 => ?_) (fun c31 => ?_)
        · exact ((c31 (iv_one (iv_c 0 (a := 0) (b := 0) (by decide +kernel)) (iv_c 0 (a := 0) (b := 0) (by decide +kernel)) (by decide +kernel)))).elim
        · refine lv_iconst (v := 0) X.1 X.2.1 dX12_atom_44 (by decide +kernel) ?_
          have hG := sgr_weak (d' := 3) (lo' := lo) (hi' := 241) (f' := f) hG (by omega) (by omega) (by omega) (by omega)
          exact sg_iret X hr hlk hb hK hC hG hS trivial dX12_atom_45
      · have hG := hBf30.2.2.2
        rw [htf30] at hG
        refine lv_if_ne (tgt := 46) X.1 X.2.1 dX12_atom_41 (by decide) (fun c32 => ?_) (fun c32 => ?_)
        · refine lv_aload_n X.1 X.2.1 dX12_atom_46 rfl (lv_at hl 1 rfl) ?_
          refine ca_X12_sum_4 X hK hG hC hS hb a0 h0 ⟨by omega, by omega, by omega, by omega, by omega⟩ wl_7_233 hl.1 (rest := []) rfl (Nat.le_of_ble_eq_true rfl) ⟨Nat.le_of_ble_eq_true rfl, Nat.le_of_ble_eq_true rfl⟩ ⟨Nat.le_of_ble_eq_true rfl, Nat.le_of_ble_eq_true rfl⟩ dX12_atom_47 (fun f33 H locs hf33 hG hS => ?_)
          refine lv_istore_n (lv' := [(2, .int f33), (1, .int f1), (0, .ref a0)]) X.1 X.2.1 dX12_atom_50 rfl hl (by decide) rfl (fun ls hl => ?_)
          refine lv_aload_n X.1 X.2.1 dX12_atom_51 rfl (lv_at hl 2 rfl) ?_
          refine lv_bipush (v := 93) X.1 X.2.1 dX12_atom_52 (by decide +kernel) ?_
          refine ca_X12_takes X hK hG hC hS hb a0 h0 93 (iv_of (iv_c 93 (a := 93) (b := 93) (by decide +kernel)) (a' := 0) (b' := 127) (by decide +kernel)) ⟨by omega, by omega, by omega, by omega, by omega⟩ wl_7_217 hl.1 (rest := []) rfl (Nat.le_of_ble_eq_true rfl) ⟨Nat.le_of_ble_eq_true rfl, Nat.le_of_ble_eq_true rfl⟩ ⟨Nat.le_of_ble_eq_true rfl, Nat.le_of_ble_eq_true rfl⟩ dX12_atom_54 (fun f34 H locs hf34 hG hS => ?_)
          refine lv_if_ne (tgt := 62) X.1 X.2.1 dX12_atom_57 (by decide) (fun c35 => ?_) (fun c35 => ?_)
          · refine lv_aload_n X.1 X.2.1 dX12_atom_62 rfl (lv_at hl 2 rfl) ?_
            refine lv_dup X.1 X.2.1 dX12_atom_63 rfl ?_
            refine gf_X12_12r X hK hG h0 wl_6_190 dX12_atom_64 (fun f36 hf36 kf36 => ?_)
            refine lv_iconst (v := 1) X.1 X.2.1 dX12_atom_67 (by decide +kernel) ?_
            refine lv_isub X.1 X.2.1 dX12_atom_68 ?_
            refine lv_topi (fun f37 ef37 => ?_)
            refine pf_X12_12R (d2 := 3) X hK hG hS h0 wl_6_190 ⟨_, rfl, (iv_of (iv_sub (a' := 3) (b' := 5) ef37 hf36 (iv_c 1 (a := 1) (b := 1) (by decide +kernel)) (by decide +kernel)) (a' := 3) (b' := 6) (by decide +kernel))⟩ dX12_atom_69 (fun H locs hG hS => ?_)
            refine lv_iload_n X.1 X.2.1 dX12_atom_72 rfl (lv_at hl 0 rfl) ?_
            have hG := sgr_weak (d' := 3) (lo' := lo) (hi' := 241) (f' := f) hG (by omega) (by omega) (by omega) (by omega)
            exact sg_iret X hr hlk hb hK hC hG hS trivial dX12_atom_73
          · refine lv_iconst (v := 0) X.1 X.2.1 dX12_atom_60 (by decide +kernel) ?_
            have hG := sgr_weak (d' := 3) (lo' := lo) (hi' := 241) (f' := f) hG (by omega) (by omega) (by omega) (by omega)
            exact sg_iret X hr hlk hb hK hC hG hS trivial dX12_atom_61
        · exact ((iv_no (a := 1) (b := 0) (iv_eqm c32 (iv_c 1 (a := 1) (b := 1) (by decide +kernel)) (iv_c 0 (a := 0) (b := 0) (by decide +kernel)) (by decide +kernel)) (by decide +kernel))).elim
  · refine lv_aload_n X.1 X.2.1 dX12_atom_14 rfl (lv_at hl 1 rfl) ?_
    refine lv_dup X.1 X.2.1 dX12_atom_15 rfl ?_
    refine gg_X12_10r X hK hG h0 wl_6_188 kv2 dX12_atom_16 ?_
    refine lv_iconst (v := 1) X.1 X.2.1 dX12_atom_19 (by decide +kernel) ?_
    refine lv_iadd X.1 X.2.1 dX12_atom_20 ?_
    refine lv_topi (fun f38 ef38 => ?_)
    have sf38 : f38.toInt = v2.toInt + 1 := sg_inc (k := 1) ef38 (sg_lk (hf4.2 c5) lv2 hv2) (by decide +kernel)
    have uf38 : f38.toInt ≤ 241 := Int.le_trans ((iv_add (a' := 1) (b' := 240) ef38 (sg_lk (hf4.2 c5) lv2 hv2) (iv_c 1 (a := 1) (b := 1) (by decide +kernel)) (by decide +kernel))).2 (by omega)
    refine pf_X12_10R (lo2 := f38.toInt) (hi2 := 241) X hK hG hS h0 wl_6_188 ⟨_, rfl, Int.le_refl _, uf38⟩ dX12_atom_21 (fun H locs hG hS => ?_)
    refine lv_aload_n X.1 X.2.1 dX12_atom_24 rfl (lv_at hl 1 rfl) ?_
    refine gf_X12_4r X hK hG h0 wl_6_182 dX12_atom_25 (fun q39 hq39 kq39 => ?_)
    refine lv_iload_n X.1 X.2.1 dX12_atom_28 rfl (lv_at hl 0 rfl) ?_
    refine al_48r X hK hG hq39 (iv_vpin (hf4.2 c5) (by decide +kernel)) dX12_atom_29 (fun f40 hf40 => ?_)
    have hG := sgr_weak (d' := 3) (lo' := lo) (hi' := 241) (f' := f) hG (by omega) (by omega) (by omega) (by omega)
    exact sg_iret X hr hlk hb hK hC hG hS trivial dX12_atom_30

theorem ca_X12_atom_3  {b : Bool} {lo mr f : Int}  (X : CallFix p m c cc nL s args sg_tbl own) (hK : va_K D vwCl tys s) (hG : sgG (KR b 3 lo 241 mr f P) D vwCl (fun q : Nat => base ≤ q) tys ad ks H) (hC : sgC base s) (hS : va_S (fun q : Nat => base ≤ q) s.heap H locs) (hb : base ≤ s.heap.size) (a0 : Nat) (h0 : isK ad ks 12 a0) (hlo : 0 ≤ lo ∧ lo ≤ 241 ∧ -1 ≤ f ∧ f ≤ 0 ∧ 0 ≤ mr) (hl : Cond.methodLink own index yX12_atom ∈ sg_tbl) (hsize : ls.size = nL) (hst : st0 = [].reverse ++ .ref a0 :: rest) (hW : (rest.map fun v => v.category).sum ≤ 8) (hR : 15 ≤ R.frames ∧ 343 ≤ R.locals) (hf : cells ≤ R.cells ∧ slots ≤ R.slots) (hdg : decode cc pc = .ok (.invokevirtual index, 3)) (kk : ∀ (r : Int32) (H1 : Heap) (locs1 : List Loc), (fun r : Int32 => True) r → sgG (KR b 3 lo 241 mr f P) D vwCl (fun q : Nat => base ≤ q) tys ad ks H1 → va_S (fun q : Nat => base ≤ q) s.heap H1 locs1 → W p l e R s m args below meth c H1 locs1 cells slots Q (F0 m (pc + 3) ls (.int r :: rest))) : W p l e R s m args below meth c H locs cells slots Q (F0 m pc ls st0) :=
  sg_callVi X hK hG hC hS hb (m_X12_atom_3 l a0 h0 hlo) h0 (k := 12) (ci := 12) rfl (C := RX12) (T := TX12) (N := 53) rfl wl_8_4 wl_1_13 wl_8_3 wl_0_66 (n := 0) (by decide +kernel) rfl rfl rfl hl hsize hst hW hR hf hdg kk

set_option maxHeartbeats 8000000 in
set_option maxRecDepth 100000 in
theorem m_X12_term_3 (l : Launch) {D : va_G} {base : Nat} {tys : List (ClassId × FieldType)} {ad ks : List Nat} {P : sgPm}{b : Bool} {lo mr f : Int}  (a0 : Nat) (h0 : isK ad ks 12 a0) (hlo : 0 ≤ lo ∧ lo ≤ 241 ∧ -1 ≤ f ∧ f ≤ 0 ∧ 0 ≤ mr) : sgMi l (KR b 3 lo 241 mr f P) D vwCl base tys ad ks yX12_term cX12_term 5 (some .int) ({ frames := 15, cells := 0, slots := 0, locals := 343 }) [.ref a0] (fun r : Int32 => True) := by
  refine sg_ofW (by decide +kernel) (Nat.le_of_ble_eq_true rfl) (fun p e s m below meth c X hr hlk hb hK hC hG ls hl => ?_)
  have hS : va_S (fun q : Nat => base ≤ q) s.heap s.heap [] := va_S.rf
  have hl : lv_has ls 5 [(0, .ref a0)] := hl
  refine lv_aload_n X.1 X.2.1 dX12_term_0 rfl (lv_at hl 0 rfl) ?_
  refine ca_X12_atom_3 X hK hG hC hS hb a0 h0 ⟨by omega, by omega, by omega, by omega, by omega⟩ wl_8_1 hl.1 (rest := []) rfl (Nat.le_of_ble_eq_true rfl) ⟨Nat.le_of_ble_eq_true rfl, Nat.le_of_ble_eq_true rfl⟩ ⟨Nat.le_of_ble_eq_true rfl, Nat.le_of_ble_eq_true rfl⟩ dX12_term_1 (fun f1 H locs hf1 hG hS => ?_)
  refine lv_istore_n (lv' := [(1, .int f1), (0, .ref a0)]) X.1 X.2.1 dX12_term_4 rfl hl (by decide) rfl (fun ls hl => ?_)
  have B2_5 : ∀ (N : Nat) (H : Heap) (locs : List Loc) (ls : Array Slot) (z2_1 : Int32) (lo2 : Int), lo ≤ lo2 → lo2 ≤ 241 → sgG (KR b 3 lo2 241 mr f P) D vwCl (fun q : Nat => base ≤ q) tys ad ks H → va_S (fun q : Nat => base ≤ q) s.heap H locs → lv_has ls 5 [(0, .ref a0), (1, .int z2_1)] → (242 - lo2).toNat ≤ N → W p l e (headSpec (Cond.code yX12_term cX12_term 5 (some .int) :: sg_tbl) ({ frames := 15, cells := 0, slots := 0, locals := 343 })).room s m #[.ref a0] below meth c H locs 0 0 (MQ below (va_Qi (fun r (_ : Unit) => (fun r : Int32 => True) r) (fun _ => sgB (KR b 3 lo 241 mr f P) D vwCl base tys ad ks) (fun q : Nat => base ≤ q)) #[.ref a0] s 0 0 (fun q : Nat => base ≤ q)) (F0 m 5 ls []) := by
    intro N; induction N with
    | zero =>
      intro H locs ls z2_1 lo2 jl2 jm2 hG hS hl hN
      exact absurd hN (by have := jm2; omega)
    | succ N ih2 =>
      intro H locs ls z2_1 lo2 jl2 jm2 hG hS hl hN2
      refine lv_aload_n X.1 X.2.1 dX12_term_5 rfl (lv_at hl 0 rfl) ?_
      refine gf_X12_11r X hK hG h0 wl_6_189 dX12_term_6 (fun f3 hf3 kf3 => ?_)
      have ⟨laf3, uaf3⟩ : f ≤ f3.toInt ∧ f3.toInt ≤ 241 := hf3
      have hf3 : iv (-1) 241 f3 := ⟨by omega, by omega⟩
      refine lv_iconst (v := (-1)) X.1 X.2.1 dX12_term_9 (by decide +kernel) ?_
      refine lv_icmp_ne (tgt := 94) X.1 X.2.1 dX12_term_10 (by decide) (fun c4 => ?_) (fun c4 => ?_)
      · refine lv_iload_n X.1 X.2.1 dX12_term_94 rfl (lv_at hl 1 rfl) ?_
        have hG := sgr_weak (d' := 3) (lo' := lo) (hi' := 241) (f' := f) hG (by omega) (by omega) (by omega) (by omega)
        exact sg_iret X hr hlk hb hK hC hG hS trivial dX12_term_95
      · refine lv_aload_n X.1 X.2.1 dX12_term_13 rfl (lv_at hl 0 rfl) ?_
        refine ca_X12_look X hK hG hC hS hb a0 h0 ⟨by omega, by omega, by omega, by omega, by omega⟩ ⟨by omega, by omega, by omega⟩ wl_7_137 hl.1 (rest := []) rfl (Nat.le_of_ble_eq_true rfl) ⟨Nat.le_of_ble_eq_true rfl, Nat.le_of_ble_eq_true rfl⟩ ⟨Nat.le_of_ble_eq_true rfl, Nat.le_of_ble_eq_true rfl⟩ dX12_term_14 (fun f5 tf5 H locs htf5 hf5 hWf5 hS => ?_)
        obtain ⟨hBf5, v6, kv6, hv6, lv6⟩ := hWf5
        have hG := hBf5.2.2.2
        rw [htf5] at hG kv6
        have ⟨lav6, uav6⟩ : lo2 ≤ v6.toInt ∧ v6.toInt ≤ 241 := hv6
        have hv6 : iv 0 241 v6 := ⟨by omega, by omega⟩
        refine lv_bipush (v := 42) X.1 X.2.1 dX12_term_17 (by decide +kernel) ?_
        have B8_31 : ∀ (H : Heap) (locs : List Loc) (ls : Array Slot) (lo8 : Int), lo2 ≤ lo8 → lo8 ≤ 240 → sgG (KR b 3 lo8 240 mr f P) D vwCl (fun q : Nat => base ≤ q) tys ad ks H → va_S (fun q : Nat => base ≤ q) s.heap H locs → lv_has ls 5 [(0, .ref a0), (1, .int z2_1)] → W p l e (headSpec (Cond.code yX12_term cX12_term 5 (some .int) :: sg_tbl) ({ frames := 15, cells := 0, slots := 0, locals := 343 })).room s m #[.ref a0] below meth c H locs 0 0 (MQ below (va_Qi (fun r (_ : Unit) => (fun r : Int32 => True) r) (fun _ => sgB (KR b 3 lo 241 mr f P) D vwCl base tys ad ks) (fun q : Nat => base ≤ q)) #[.ref a0] s 0 0 (fun q : Nat => base ≤ q)) (F0 m 31 ls []) := by
          intro H locs ls lo8 jl8 jm8 hG hS hl
          refine lv_aload_n X.1 X.2.1 dX12_term_31 rfl (lv_at hl 0 rfl) ?_
          refine ca_X12_look X hK hG hC hS hb a0 h0 ⟨by omega, by omega, by omega, by omega, by omega⟩ ⟨by omega, by omega, by omega⟩ wl_7_137 hl.1 (rest := []) rfl (Nat.le_of_ble_eq_true rfl) ⟨Nat.le_of_ble_eq_true rfl, Nat.le_of_ble_eq_true rfl⟩ ⟨Nat.le_of_ble_eq_true rfl, Nat.le_of_ble_eq_true rfl⟩ dX12_term_32 (fun f9 tf9 H locs htf9 hf9 hWf9 hS => ?_)
          obtain ⟨hBf9, v10, kv10, hv10, lv10⟩ := hWf9
          have hG := hBf9.2.2.2
          rw [htf9] at hG kv10
          have ⟨lav10, uav10⟩ : lo8 ≤ v10.toInt ∧ v10.toInt ≤ 240 := hv10
          have hv10 : iv 0 240 v10 := ⟨by omega, by omega⟩
          refine lv_bipush (v := 42) X.1 X.2.1 dX12_term_35 (by decide +kernel) ?_
          have B12_45 : ∀ (locs : List Loc) (ls : Array Slot) (w12_0 : Int32), va_S (fun q : Nat => base ≤ q) s.heap H locs → lv_has ls 5 [(0, .ref a0), (1, .int z2_1)] → iv 0 1 w12_0 → W p l e (headSpec (Cond.code yX12_term cX12_term 5 (some .int) :: sg_tbl) ({ frames := 15, cells := 0, slots := 0, locals := 343 })).room s m #[.ref a0] below meth c H locs 0 0 (MQ below (va_Qi (fun r (_ : Unit) => (fun r : Int32 => True) r) (fun _ => sgB (KR b 3 lo 241 mr f P) D vwCl base tys ad ks) (fun q : Nat => base ≤ q)) #[.ref a0] s 0 0 (fun q : Nat => base ≤ q)) (F0 m 45 ls [.int w12_0]) := by
            intro locs ls w12_0 hS hl hw12_0
            refine lv_istore_n (lv' := [(2, .int w12_0), (0, .ref a0), (1, .int z2_1)]) X.1 X.2.1 dX12_term_45 rfl hl (by decide) rfl (fun ls hl => ?_)
            refine lv_aload_n X.1 X.2.1 dX12_term_46 rfl (lv_at hl 1 rfl) ?_
            refine lv_dup X.1 X.2.1 dX12_term_47 rfl ?_
            refine gg_X12_10r X hK hG h0 wl_6_188 kv10 dX12_term_48 ?_
            refine lv_iconst (v := 1) X.1 X.2.1 dX12_term_51 (by decide +kernel) ?_
            refine lv_iadd X.1 X.2.1 dX12_term_52 ?_
            refine lv_topi (fun f13 ef13 => ?_)
            have sf13 : f13.toInt = v10.toInt + 1 := sg_inc (k := 1) ef13 hv10 (by decide +kernel)
            have uf13 : f13.toInt ≤ 241 := Int.le_trans ((iv_add (a' := 1) (b' := 241) ef13 hv10 (iv_c 1 (a := 1) (b := 1) (by decide +kernel)) (by decide +kernel))).2 (by omega)
            refine pf_X12_10R (lo2 := f13.toInt) (hi2 := 241) X hK hG hS h0 wl_6_188 ⟨_, rfl, Int.le_refl _, uf13⟩ dX12_term_53 (fun H locs hG hS => ?_)
            refine lv_aload_n X.1 X.2.1 dX12_term_56 rfl (lv_at hl 1 rfl) ?_
            refine ca_X12_atom_3 X hK hG hC hS hb a0 h0 ⟨by omega, by omega, by omega, by omega, by omega⟩ wl_8_1 hl.1 (rest := []) rfl (Nat.le_of_ble_eq_true rfl) ⟨Nat.le_of_ble_eq_true rfl, Nat.le_of_ble_eq_true rfl⟩ ⟨Nat.le_of_ble_eq_true rfl, Nat.le_of_ble_eq_true rfl⟩ dX12_term_57 (fun f14 H locs hf14 hG hS => ?_)
            obtain ⟨g15, eg15⟩ : ∃ y : Int64, y = (f14 : Int32).toInt64 := ⟨_, rfl⟩
            refine lv_i2l (v := g15) X.1 X.2.1 dX12_term_60 eg15.symm ?_
            refine lv_lstore_n (lv' := [(3, .long g15), (2, .int w12_0), (0, .ref a0), (1, .int z2_1)]) X.1 X.2.1 dX12_term_61 rfl hl (by decide) rfl (fun ls hl => ?_)
            refine lv_iload_n X.1 X.2.1 dX12_term_62 rfl (lv_at hl 1 rfl) ?_
            have B17_87 : ∀ (locs : List Loc) (ls : Array Slot) (w17_0 : Int64), va_S (fun q : Nat => base ≤ q) s.heap H locs → lv_has ls 5 [(0, .ref a0)] → W p l e (headSpec (Cond.code yX12_term cX12_term 5 (some .int) :: sg_tbl) ({ frames := 15, cells := 0, slots := 0, locals := 343 })).room s m #[.ref a0] below meth c H locs 0 0 (MQ below (va_Qi (fun r (_ : Unit) => (fun r : Int32 => True) r) (fun _ => sgB (KR b 3 lo 241 mr f P) D vwCl base tys ad ks) (fun q : Nat => base ≤ q)) #[.ref a0] s 0 0 (fun q : Nat => base ≤ q)) (F0 m 87 ls [.long w17_0]) := by
              intro locs ls w17_0 hS hl
              refine ca_X12_within X hK (sgr_toKT hG (by omega) (by omega) (by omega)) hC (fun _ h => h) hS hb w17_0 wl_8_9 hl.1 (rest := []) rfl (Nat.le_of_ble_eq_true rfl) ⟨Nat.le_of_ble_eq_true rfl, Nat.le_of_ble_eq_true rfl⟩ ⟨Nat.le_of_ble_eq_true rfl, Nat.le_of_ble_eq_true rfl⟩ dX12_term_87 (fun f18 locs hf18 hS => ?_)
              refine lv_istore_n (lv' := [(1, .int f18), (0, .ref a0)]) X.1 X.2.1 dX12_term_90 rfl hl (by decide) rfl (fun ls hl => ?_)
              refine lv_goto (tgt := 5) X.1 X.2.1 dX12_term_91 (by decide) ?_
              exact ih2 H _ _ f18 f13.toInt (by omega) (by omega) hG hS (lv_sub hl [1, 0] rfl) (by omega)
            refine lv_if_eq (tgt := 73) X.1 X.2.1 dX12_term_63 (by decide) (fun c16 => ?_) (fun c16 => ?_)
            · refine lv_lload_n X.1 X.2.1 dX12_term_73 rfl (lv_at hl 0 rfl) ?_
              refine lv_lconst (v := 0) X.1 X.2.1 dX12_term_74 (by decide +kernel) ?_
              refine W.lcmp X.1 X.2.1 dX12_term_75 ?_
              refine lv_topi (fun f19 ef19 => ?_)
              refine lv_if_ne (tgt := 83) X.1 X.2.1 dX12_term_76 (by decide) (fun c20 => ?_) (fun c20 => ?_)
              · refine lv_iload_n X.1 X.2.1 dX12_term_83 rfl (lv_at hl 3 rfl) ?_
                obtain ⟨g21, eg21⟩ : ∃ y : Int64, y = (z2_1 : Int32).toInt64 := ⟨_, rfl⟩
                refine lv_i2l (v := g21) X.1 X.2.1 dX12_term_84 eg21.symm ?_
                refine lv_lload_n X.1 X.2.1 dX12_term_85 rfl (lv_at hl 0 rfl) ?_
                refine lv_ldiv X.1 X.2.1 dX12_term_86 (sg_lcmp0 ef19 c20) ?_
                refine lv_topl (fun g22 eg22 => ?_)
                exact B17_87 _ _ g22 hS (lv_sub hl [2] rfl)
              · refine lv_lconst (v := 0) X.1 X.2.1 dX12_term_79 (by decide +kernel) ?_
                refine lv_goto (tgt := 87) X.1 X.2.1 dX12_term_80 (by decide) ?_
                exact B17_87 _ _ 0 hS (lv_sub hl [2] rfl)
            · refine lv_iload_n X.1 X.2.1 dX12_term_66 rfl (lv_at hl 3 rfl) ?_
              obtain ⟨g23, eg23⟩ : ∃ y : Int64, y = (z2_1 : Int32).toInt64 := ⟨_, rfl⟩
              refine lv_i2l (v := g23) X.1 X.2.1 dX12_term_67 eg23.symm ?_
              refine lv_lload_n X.1 X.2.1 dX12_term_68 rfl (lv_at hl 0 rfl) ?_
              refine lv_lmul X.1 X.2.1 dX12_term_69 ?_
              refine lv_topl (fun g24 eg24 => ?_)
              refine lv_goto (tgt := 87) X.1 X.2.1 dX12_term_70 (by decide) ?_
              exact B17_87 _ _ g24 hS (lv_sub hl [2] rfl)
          refine lv_icmp_ne (tgt := 44) X.1 X.2.1 dX12_term_37 (by decide) (fun c11 => ?_) (fun c11 => ?_)
          · refine lv_iconst (v := 0) X.1 X.2.1 dX12_term_44 (by decide +kernel) ?_
            exact B12_45 _ _ 0 hS (lv_sub hl [0, 1] rfl) (iv_of (iv_c 0 (a := 0) (b := 0) (by decide +kernel)) (a' := 0) (b' := 1) (by decide +kernel))
          · refine lv_iconst (v := 1) X.1 X.2.1 dX12_term_40 (by decide +kernel) ?_
            refine lv_goto (tgt := 45) X.1 X.2.1 dX12_term_41 (by decide) ?_
            exact B12_45 _ _ 1 hS (lv_sub hl [0, 1] rfl) (iv_of (iv_c 1 (a := 1) (b := 1) (by decide +kernel)) (a' := 0) (b' := 1) (by decide +kernel))
        refine lv_icmp_eq (tgt := 31) X.1 X.2.1 dX12_term_19 (by decide) (fun c7 => ?_) (fun c7 => ?_)
        · have uss25 : v6.toInt ≤ 240 := ((iv_of (sg_lk (iv_eqm (a' := 42) (b' := 42) c7 hf5 (iv_c 42 (a := 42) (b := 42) (by decide +kernel)) (by decide +kernel)) lv6 hv6) (a' := 0) (b' := 240) (by decide +kernel))).2
          have hG := sgr_str (lo' := v6.toInt) (hi' := 240) hG h0 kv6 ⟨Int.le_refl _, ((iv_of (sg_lk (iv_eqm (a' := 42) (b' := 42) c7 hf5 (iv_c 42 (a := 42) (b := 42) (by decide +kernel)) (by decide +kernel)) lv6 hv6) (a' := 0) (b' := 240) (by decide +kernel))).2⟩
          exact B8_31 H _ _ v6.toInt (by omega) (by omega) hG hS (lv_sub hl [0, 1] rfl)
        · refine lv_aload_n X.1 X.2.1 dX12_term_22 rfl (lv_at hl 0 rfl) ?_
          refine ca_X12_look X hK hG hC hS hb a0 h0 ⟨by omega, by omega, by omega, by omega, by omega⟩ ⟨by omega, by omega, by omega⟩ wl_7_137 hl.1 (rest := []) rfl (Nat.le_of_ble_eq_true rfl) ⟨Nat.le_of_ble_eq_true rfl, Nat.le_of_ble_eq_true rfl⟩ ⟨Nat.le_of_ble_eq_true rfl, Nat.le_of_ble_eq_true rfl⟩ dX12_term_23 (fun f26 tf26 H locs htf26 hf26 hWf26 hS => ?_)
          obtain ⟨hBf26, v27, kv27, hv27, lv27⟩ := hWf26
          have hG := hBf26.2.2.2
          rw [htf26] at hG kv27
          have ⟨lav27, uav27⟩ : lo2 ≤ v27.toInt ∧ v27.toInt ≤ 241 := hv27
          have hv27 : iv 0 241 v27 := ⟨by omega, by omega⟩
          refine lv_bipush (v := 47) X.1 X.2.1 dX12_term_26 (by decide +kernel) ?_
          refine lv_icmp_ne (tgt := 94) X.1 X.2.1 dX12_term_28 (by decide) (fun c28 => ?_) (fun c28 => ?_)
          · refine lv_iload_n X.1 X.2.1 dX12_term_94 rfl (lv_at hl 1 rfl) ?_
            have hG := sgr_weak (d' := 3) (lo' := lo) (hi' := 241) (f' := f) hG (by omega) (by omega) (by omega) (by omega)
            exact sg_iret X hr hlk hb hK hC hG hS trivial dX12_term_95
          · have uss29 : v27.toInt ≤ 240 := ((iv_of (sg_lk (iv_eqm (a' := 47) (b' := 47) c28 hf26 (iv_c 47 (a := 47) (b := 47) (by decide +kernel)) (by decide +kernel)) lv27 hv27) (a' := 0) (b' := 240) (by decide +kernel))).2
            have hG := sgr_str (lo' := v27.toInt) (hi' := 240) hG h0 kv27 ⟨Int.le_refl _, ((iv_of (sg_lk (iv_eqm (a' := 47) (b' := 47) c28 hf26 (iv_c 47 (a := 47) (b := 47) (by decide +kernel)) (by decide +kernel)) lv27 hv27) (a' := 0) (b' := 240) (by decide +kernel))).2⟩
            exact B8_31 H _ _ v27.toInt (by omega) (by omega) hG hS (lv_sub hl [0, 1] rfl)
  exact B2_5 _ H _ _ f1 lo (by omega) (by omega) hG hS (lv_sub hl [1, 0] rfl) (Nat.le_refl _)

theorem ca_X12_term_3  {b : Bool} {lo mr f : Int}  (X : CallFix p m c cc nL s args sg_tbl own) (hK : va_K D vwCl tys s) (hG : sgG (KR b 3 lo 241 mr f P) D vwCl (fun q : Nat => base ≤ q) tys ad ks H) (hC : sgC base s) (hS : va_S (fun q : Nat => base ≤ q) s.heap H locs) (hb : base ≤ s.heap.size) (a0 : Nat) (h0 : isK ad ks 12 a0) (hlo : 0 ≤ lo ∧ lo ≤ 241 ∧ -1 ≤ f ∧ f ≤ 0 ∧ 0 ≤ mr) (hl : Cond.methodLink own index yX12_term ∈ sg_tbl) (hsize : ls.size = nL) (hst : st0 = [].reverse ++ .ref a0 :: rest) (hW : (rest.map fun v => v.category).sum ≤ 8) (hR : 16 ≤ R.frames ∧ 367 ≤ R.locals) (hf : cells ≤ R.cells ∧ slots ≤ R.slots) (hdg : decode cc pc = .ok (.invokevirtual index, 3)) (kk : ∀ (r : Int32) (H1 : Heap) (locs1 : List Loc), (fun r : Int32 => True) r → sgG (KR b 3 lo 241 mr f P) D vwCl (fun q : Nat => base ≤ q) tys ad ks H1 → va_S (fun q : Nat => base ≤ q) s.heap H1 locs1 → W p l e R s m args below meth c H1 locs1 cells slots Q (F0 m (pc + 3) ls (.int r :: rest))) : W p l e R s m args below meth c H locs cells slots Q (F0 m pc ls st0) :=
  sg_callVi X hK hG hC hS hb (m_X12_term_3 l a0 h0 hlo) h0 (k := 12) (ci := 12) rfl (C := RX12) (T := TX12) (N := 53) rfl wl_8_0 wl_1_13 wl_7_239 wl_0_65 (n := 0) (by decide +kernel) rfl rfl rfl hl hsize hst hW hR hf hdg kk

set_option maxHeartbeats 8000000 in
set_option maxRecDepth 100000 in
theorem m_X12_sum_3 (l : Launch) {D : va_G} {base : Nat} {tys : List (ClassId × FieldType)} {ad ks : List Nat} {P : sgPm}{b : Bool} {lo mr f : Int}  (a0 : Nat) (h0 : isK ad ks 12 a0) (hlo : 0 ≤ lo ∧ lo ≤ 241 ∧ -1 ≤ f ∧ f ≤ 0 ∧ 0 ≤ mr) : sgMi l (KR b 3 lo 241 mr f P) D vwCl base tys ad ks yX12_sum cX12_sum 5 (some .int) ({ frames := 16, cells := 0, slots := 0, locals := 367 }) [.ref a0] (fun r : Int32 => True) := by
  refine sg_ofW (by decide +kernel) (Nat.le_of_ble_eq_true rfl) (fun p e s m below meth c X hr hlk hb hK hC hG ls hl => ?_)
  have hS : va_S (fun q : Nat => base ≤ q) s.heap s.heap [] := va_S.rf
  have hl : lv_has ls 5 [(0, .ref a0)] := hl
  refine lv_aload_n X.1 X.2.1 dX12_sum_0 rfl (lv_at hl 0 rfl) ?_
  refine ca_X12_term_3 X hK hG hC hS hb a0 h0 ⟨by omega, by omega, by omega, by omega, by omega⟩ wl_7_237 hl.1 (rest := []) rfl (Nat.le_of_ble_eq_true rfl) ⟨Nat.le_of_ble_eq_true rfl, Nat.le_of_ble_eq_true rfl⟩ ⟨Nat.le_of_ble_eq_true rfl, Nat.le_of_ble_eq_true rfl⟩ dX12_sum_1 (fun f1 H locs hf1 hG hS => ?_)
  refine lv_istore_n (lv' := [(1, .int f1), (0, .ref a0)]) X.1 X.2.1 dX12_sum_4 rfl hl (by decide) rfl (fun ls hl => ?_)
  have B2_5 : ∀ (N : Nat) (H : Heap) (locs : List Loc) (ls : Array Slot) (z2_1 : Int32) (lo2 : Int), lo ≤ lo2 → lo2 ≤ 241 → sgG (KR b 3 lo2 241 mr f P) D vwCl (fun q : Nat => base ≤ q) tys ad ks H → va_S (fun q : Nat => base ≤ q) s.heap H locs → lv_has ls 5 [(0, .ref a0), (1, .int z2_1)] → (242 - lo2).toNat ≤ N → W p l e (headSpec (Cond.code yX12_sum cX12_sum 5 (some .int) :: sg_tbl) ({ frames := 16, cells := 0, slots := 0, locals := 367 })).room s m #[.ref a0] below meth c H locs 0 0 (MQ below (va_Qi (fun r (_ : Unit) => (fun r : Int32 => True) r) (fun _ => sgB (KR b 3 lo 241 mr f P) D vwCl base tys ad ks) (fun q : Nat => base ≤ q)) #[.ref a0] s 0 0 (fun q : Nat => base ≤ q)) (F0 m 5 ls []) := by
    intro N; induction N with
    | zero =>
      intro H locs ls z2_1 lo2 jl2 jm2 hG hS hl hN
      exact absurd hN (by have := jm2; omega)
    | succ N ih2 =>
      intro H locs ls z2_1 lo2 jl2 jm2 hG hS hl hN2
      refine lv_aload_n X.1 X.2.1 dX12_sum_5 rfl (lv_at hl 0 rfl) ?_
      refine gf_X12_11r X hK hG h0 wl_6_189 dX12_sum_6 (fun f3 hf3 kf3 => ?_)
      have ⟨laf3, uaf3⟩ : f ≤ f3.toInt ∧ f3.toInt ≤ 241 := hf3
      have hf3 : iv (-1) 241 f3 := ⟨by omega, by omega⟩
      refine lv_iconst (v := (-1)) X.1 X.2.1 dX12_sum_9 (by decide +kernel) ?_
      refine lv_icmp_ne (tgt := 84) X.1 X.2.1 dX12_sum_10 (by decide) (fun c4 => ?_) (fun c4 => ?_)
      · refine lv_iload_n X.1 X.2.1 dX12_sum_84 rfl (lv_at hl 1 rfl) ?_
        have hG := sgr_weak (d' := 3) (lo' := lo) (hi' := 241) (f' := f) hG (by omega) (by omega) (by omega) (by omega)
        exact sg_iret X hr hlk hb hK hC hG hS trivial dX12_sum_85
      · refine lv_aload_n X.1 X.2.1 dX12_sum_13 rfl (lv_at hl 0 rfl) ?_
        refine ca_X12_look X hK hG hC hS hb a0 h0 ⟨by omega, by omega, by omega, by omega, by omega⟩ ⟨by omega, by omega, by omega⟩ wl_7_137 hl.1 (rest := []) rfl (Nat.le_of_ble_eq_true rfl) ⟨Nat.le_of_ble_eq_true rfl, Nat.le_of_ble_eq_true rfl⟩ ⟨Nat.le_of_ble_eq_true rfl, Nat.le_of_ble_eq_true rfl⟩ dX12_sum_14 (fun f5 tf5 H locs htf5 hf5 hWf5 hS => ?_)
        obtain ⟨hBf5, v6, kv6, hv6, lv6⟩ := hWf5
        have hG := hBf5.2.2.2
        rw [htf5] at hG kv6
        have ⟨lav6, uav6⟩ : lo2 ≤ v6.toInt ∧ v6.toInt ≤ 241 := hv6
        have hv6 : iv 0 241 v6 := ⟨by omega, by omega⟩
        refine lv_bipush (v := 43) X.1 X.2.1 dX12_sum_17 (by decide +kernel) ?_
        have B8_31 : ∀ (H : Heap) (locs : List Loc) (ls : Array Slot) (lo8 : Int), lo2 ≤ lo8 → lo8 ≤ 240 → sgG (KR b 3 lo8 240 mr f P) D vwCl (fun q : Nat => base ≤ q) tys ad ks H → va_S (fun q : Nat => base ≤ q) s.heap H locs → lv_has ls 5 [(0, .ref a0), (1, .int z2_1)] → W p l e (headSpec (Cond.code yX12_sum cX12_sum 5 (some .int) :: sg_tbl) ({ frames := 16, cells := 0, slots := 0, locals := 367 })).room s m #[.ref a0] below meth c H locs 0 0 (MQ below (va_Qi (fun r (_ : Unit) => (fun r : Int32 => True) r) (fun _ => sgB (KR b 3 lo 241 mr f P) D vwCl base tys ad ks) (fun q : Nat => base ≤ q)) #[.ref a0] s 0 0 (fun q : Nat => base ≤ q)) (F0 m 31 ls []) := by
          intro H locs ls lo8 jl8 jm8 hG hS hl
          refine lv_aload_n X.1 X.2.1 dX12_sum_31 rfl (lv_at hl 0 rfl) ?_
          refine ca_X12_look X hK hG hC hS hb a0 h0 ⟨by omega, by omega, by omega, by omega, by omega⟩ ⟨by omega, by omega, by omega⟩ wl_7_137 hl.1 (rest := []) rfl (Nat.le_of_ble_eq_true rfl) ⟨Nat.le_of_ble_eq_true rfl, Nat.le_of_ble_eq_true rfl⟩ ⟨Nat.le_of_ble_eq_true rfl, Nat.le_of_ble_eq_true rfl⟩ dX12_sum_32 (fun f9 tf9 H locs htf9 hf9 hWf9 hS => ?_)
          obtain ⟨hBf9, v10, kv10, hv10, lv10⟩ := hWf9
          have hG := hBf9.2.2.2
          rw [htf9] at hG kv10
          have ⟨lav10, uav10⟩ : lo8 ≤ v10.toInt ∧ v10.toInt ≤ 240 := hv10
          have hv10 : iv 0 240 v10 := ⟨by omega, by omega⟩
          refine lv_bipush (v := 43) X.1 X.2.1 dX12_sum_35 (by decide +kernel) ?_
          have B12_45 : ∀ (locs : List Loc) (ls : Array Slot) (w12_0 : Int32), va_S (fun q : Nat => base ≤ q) s.heap H locs → lv_has ls 5 [(0, .ref a0), (1, .int z2_1)] → iv 0 1 w12_0 → W p l e (headSpec (Cond.code yX12_sum cX12_sum 5 (some .int) :: sg_tbl) ({ frames := 16, cells := 0, slots := 0, locals := 367 })).room s m #[.ref a0] below meth c H locs 0 0 (MQ below (va_Qi (fun r (_ : Unit) => (fun r : Int32 => True) r) (fun _ => sgB (KR b 3 lo 241 mr f P) D vwCl base tys ad ks) (fun q : Nat => base ≤ q)) #[.ref a0] s 0 0 (fun q : Nat => base ≤ q)) (F0 m 45 ls [.int w12_0]) := by
            intro locs ls w12_0 hS hl hw12_0
            refine lv_istore_n (lv' := [(2, .int w12_0), (0, .ref a0), (1, .int z2_1)]) X.1 X.2.1 dX12_sum_45 rfl hl (by decide) rfl (fun ls hl => ?_)
            refine lv_aload_n X.1 X.2.1 dX12_sum_46 rfl (lv_at hl 1 rfl) ?_
            refine lv_dup X.1 X.2.1 dX12_sum_47 rfl ?_
            refine gg_X12_10r X hK hG h0 wl_6_188 kv10 dX12_sum_48 ?_
            refine lv_iconst (v := 1) X.1 X.2.1 dX12_sum_51 (by decide +kernel) ?_
            refine lv_iadd X.1 X.2.1 dX12_sum_52 ?_
            refine lv_topi (fun f13 ef13 => ?_)
            have sf13 : f13.toInt = v10.toInt + 1 := sg_inc (k := 1) ef13 hv10 (by decide +kernel)
            have uf13 : f13.toInt ≤ 241 := Int.le_trans ((iv_add (a' := 1) (b' := 241) ef13 hv10 (iv_c 1 (a := 1) (b := 1) (by decide +kernel)) (by decide +kernel))).2 (by omega)
            refine pf_X12_10R (lo2 := f13.toInt) (hi2 := 241) X hK hG hS h0 wl_6_188 ⟨_, rfl, Int.le_refl _, uf13⟩ dX12_sum_53 (fun H locs hG hS => ?_)
            refine lv_aload_n X.1 X.2.1 dX12_sum_56 rfl (lv_at hl 1 rfl) ?_
            refine ca_X12_term_3 X hK hG hC hS hb a0 h0 ⟨by omega, by omega, by omega, by omega, by omega⟩ wl_7_237 hl.1 (rest := []) rfl (Nat.le_of_ble_eq_true rfl) ⟨Nat.le_of_ble_eq_true rfl, Nat.le_of_ble_eq_true rfl⟩ ⟨Nat.le_of_ble_eq_true rfl, Nat.le_of_ble_eq_true rfl⟩ dX12_sum_57 (fun f14 H locs hf14 hG hS => ?_)
            obtain ⟨g15, eg15⟩ : ∃ y : Int64, y = (f14 : Int32).toInt64 := ⟨_, rfl⟩
            refine lv_i2l (v := g15) X.1 X.2.1 dX12_sum_60 eg15.symm ?_
            refine lv_lstore_n (lv' := [(3, .long g15), (2, .int w12_0), (0, .ref a0), (1, .int z2_1)]) X.1 X.2.1 dX12_sum_61 rfl hl (by decide) rfl (fun ls hl => ?_)
            refine lv_iload_n X.1 X.2.1 dX12_sum_62 rfl (lv_at hl 1 rfl) ?_
            have B17_77 : ∀ (locs : List Loc) (ls : Array Slot) (w17_0 : Int64), va_S (fun q : Nat => base ≤ q) s.heap H locs → lv_has ls 5 [(0, .ref a0)] → W p l e (headSpec (Cond.code yX12_sum cX12_sum 5 (some .int) :: sg_tbl) ({ frames := 16, cells := 0, slots := 0, locals := 367 })).room s m #[.ref a0] below meth c H locs 0 0 (MQ below (va_Qi (fun r (_ : Unit) => (fun r : Int32 => True) r) (fun _ => sgB (KR b 3 lo 241 mr f P) D vwCl base tys ad ks) (fun q : Nat => base ≤ q)) #[.ref a0] s 0 0 (fun q : Nat => base ≤ q)) (F0 m 77 ls [.long w17_0]) := by
              intro locs ls w17_0 hS hl
              refine ca_X12_within X hK (sgr_toKT hG (by omega) (by omega) (by omega)) hC (fun _ h => h) hS hb w17_0 wl_8_9 hl.1 (rest := []) rfl (Nat.le_of_ble_eq_true rfl) ⟨Nat.le_of_ble_eq_true rfl, Nat.le_of_ble_eq_true rfl⟩ ⟨Nat.le_of_ble_eq_true rfl, Nat.le_of_ble_eq_true rfl⟩ dX12_sum_77 (fun f18 locs hf18 hS => ?_)
              refine lv_istore_n (lv' := [(1, .int f18), (0, .ref a0)]) X.1 X.2.1 dX12_sum_80 rfl hl (by decide) rfl (fun ls hl => ?_)
              refine lv_goto (tgt := 5) X.1 X.2.1 dX12_sum_81 (by decide) ?_
              exact ih2 H _ _ f18 f13.toInt (by omega) (by omega) hG hS (lv_sub hl [1, 0] rfl) (by omega)
            refine lv_if_eq (tgt := 73) X.1 X.2.1 dX12_sum_63 (by decide) (fun c16 => ?_) (fun c16 => ?_)
            · refine lv_iload_n X.1 X.2.1 dX12_sum_73 rfl (lv_at hl 3 rfl) ?_
              obtain ⟨g19, eg19⟩ : ∃ y : Int64, y = (z2_1 : Int32).toInt64 := ⟨_, rfl⟩
              refine lv_i2l (v := g19) X.1 X.2.1 dX12_sum_74 eg19.symm ?_
              refine lv_lload_n X.1 X.2.1 dX12_sum_75 rfl (lv_at hl 0 rfl) ?_
              refine lv_lsub X.1 X.2.1 dX12_sum_76 ?_
              refine lv_topl (fun g20 eg20 => ?_)
              exact B17_77 _ _ g20 hS (lv_sub hl [2] rfl)
            · refine lv_iload_n X.1 X.2.1 dX12_sum_66 rfl (lv_at hl 3 rfl) ?_
              obtain ⟨g21, eg21⟩ : ∃ y : Int64, y = (z2_1 : Int32).toInt64 := ⟨_, rfl⟩
              refine lv_i2l (v := g21) X.1 X.2.1 dX12_sum_67 eg21.symm ?_
              refine lv_lload_n X.1 X.2.1 dX12_sum_68 rfl (lv_at hl 0 rfl) ?_
              refine lv_ladd X.1 X.2.1 dX12_sum_69 ?_
              refine lv_topl (fun g22 eg22 => ?_)
              refine lv_goto (tgt := 77) X.1 X.2.1 dX12_sum_70 (by decide) ?_
              exact B17_77 _ _ g22 hS (lv_sub hl [2] rfl)
          refine lv_icmp_ne (tgt := 44) X.1 X.2.1 dX12_sum_37 (by decide) (fun c11 => ?_) (fun c11 => ?_)
          · refine lv_iconst (v := 0) X.1 X.2.1 dX12_sum_44 (by decide +kernel) ?_
            exact B12_45 _ _ 0 hS (lv_sub hl [0, 1] rfl) (iv_of (iv_c 0 (a := 0) (b := 0) (by decide +kernel)) (a' := 0) (b' := 1) (by decide +kernel))
          · refine lv_iconst (v := 1) X.1 X.2.1 dX12_sum_40 (by decide +kernel) ?_
            refine lv_goto (tgt := 45) X.1 X.2.1 dX12_sum_41 (by decide) ?_
            exact B12_45 _ _ 1 hS (lv_sub hl [0, 1] rfl) (iv_of (iv_c 1 (a := 1) (b := 1) (by decide +kernel)) (a' := 0) (b' := 1) (by decide +kernel))
        refine lv_icmp_eq (tgt := 31) X.1 X.2.1 dX12_sum_19 (by decide) (fun c7 => ?_) (fun c7 => ?_)
        · have uss23 : v6.toInt ≤ 240 := ((iv_of (sg_lk (iv_eqm (a' := 43) (b' := 43) c7 hf5 (iv_c 43 (a := 43) (b := 43) (by decide +kernel)) (by decide +kernel)) lv6 hv6) (a' := 0) (b' := 240) (by decide +kernel))).2
          have hG := sgr_str (lo' := v6.toInt) (hi' := 240) hG h0 kv6 ⟨Int.le_refl _, ((iv_of (sg_lk (iv_eqm (a' := 43) (b' := 43) c7 hf5 (iv_c 43 (a := 43) (b := 43) (by decide +kernel)) (by decide +kernel)) lv6 hv6) (a' := 0) (b' := 240) (by decide +kernel))).2⟩
          exact B8_31 H _ _ v6.toInt (by omega) (by omega) hG hS (lv_sub hl [0, 1] rfl)
        · refine lv_aload_n X.1 X.2.1 dX12_sum_22 rfl (lv_at hl 0 rfl) ?_
          refine ca_X12_look X hK hG hC hS hb a0 h0 ⟨by omega, by omega, by omega, by omega, by omega⟩ ⟨by omega, by omega, by omega⟩ wl_7_137 hl.1 (rest := []) rfl (Nat.le_of_ble_eq_true rfl) ⟨Nat.le_of_ble_eq_true rfl, Nat.le_of_ble_eq_true rfl⟩ ⟨Nat.le_of_ble_eq_true rfl, Nat.le_of_ble_eq_true rfl⟩ dX12_sum_23 (fun f24 tf24 H locs htf24 hf24 hWf24 hS => ?_)
          obtain ⟨hBf24, v25, kv25, hv25, lv25⟩ := hWf24
          have hG := hBf24.2.2.2
          rw [htf24] at hG kv25
          have ⟨lav25, uav25⟩ : lo2 ≤ v25.toInt ∧ v25.toInt ≤ 241 := hv25
          have hv25 : iv 0 241 v25 := ⟨by omega, by omega⟩
          refine lv_bipush (v := 45) X.1 X.2.1 dX12_sum_26 (by decide +kernel) ?_
          refine lv_icmp_ne (tgt := 84) X.1 X.2.1 dX12_sum_28 (by decide) (fun c26 => ?_) (fun c26 => ?_)
          · refine lv_iload_n X.1 X.2.1 dX12_sum_84 rfl (lv_at hl 1 rfl) ?_
            have hG := sgr_weak (d' := 3) (lo' := lo) (hi' := 241) (f' := f) hG (by omega) (by omega) (by omega) (by omega)
            exact sg_iret X hr hlk hb hK hC hG hS trivial dX12_sum_85
          · have uss27 : v25.toInt ≤ 240 := ((iv_of (sg_lk (iv_eqm (a' := 45) (b' := 45) c26 hf24 (iv_c 45 (a := 45) (b := 45) (by decide +kernel)) (by decide +kernel)) lv25 hv25) (a' := 0) (b' := 240) (by decide +kernel))).2
            have hG := sgr_str (lo' := v25.toInt) (hi' := 240) hG h0 kv25 ⟨Int.le_refl _, ((iv_of (sg_lk (iv_eqm (a' := 45) (b' := 45) c26 hf24 (iv_c 45 (a := 45) (b := 45) (by decide +kernel)) (by decide +kernel)) lv25 hv25) (a' := 0) (b' := 240) (by decide +kernel))).2⟩
            exact B8_31 H _ _ v25.toInt (by omega) (by omega) hG hS (lv_sub hl [0, 1] rfl)
  exact B2_5 _ H _ _ f1 lo (by omega) (by omega) hG hS (lv_sub hl [1, 0] rfl) (Nat.le_refl _)

theorem ca_X12_sum_3  {b : Bool} {lo mr f : Int}  (X : CallFix p m c cc nL s args sg_tbl own) (hK : va_K D vwCl tys s) (hG : sgG (KR b 3 lo 241 mr f P) D vwCl (fun q : Nat => base ≤ q) tys ad ks H) (hC : sgC base s) (hS : va_S (fun q : Nat => base ≤ q) s.heap H locs) (hb : base ≤ s.heap.size) (a0 : Nat) (h0 : isK ad ks 12 a0) (hlo : 0 ≤ lo ∧ lo ≤ 241 ∧ -1 ≤ f ∧ f ≤ 0 ∧ 0 ≤ mr) (hl : Cond.methodLink own index yX12_sum ∈ sg_tbl) (hsize : ls.size = nL) (hst : st0 = [].reverse ++ .ref a0 :: rest) (hW : (rest.map fun v => v.category).sum ≤ 8) (hR : 17 ≤ R.frames ∧ 391 ≤ R.locals) (hf : cells ≤ R.cells ∧ slots ≤ R.slots) (hdg : decode cc pc = .ok (.invokevirtual index, 3)) (kk : ∀ (r : Int32) (H1 : Heap) (locs1 : List Loc), (fun r : Int32 => True) r → sgG (KR b 3 lo 241 mr f P) D vwCl (fun q : Nat => base ≤ q) tys ad ks H1 → va_S (fun q : Nat => base ≤ q) s.heap H1 locs1 → W p l e R s m args below meth c H1 locs1 cells slots Q (F0 m (pc + 3) ls (.int r :: rest))) : W p l e R s m args below meth c H locs cells slots Q (F0 m pc ls st0) :=
  sg_callVi X hK hG hC hS hb (m_X12_sum_3 l a0 h0 hlo) h0 (k := 12) (ci := 12) rfl (C := RX12) (T := TX12) (N := 53) rfl wl_7_236 wl_1_13 wl_7_235 wl_0_64 (n := 0) (by decide +kernel) rfl rfl rfl hl hsize hst hW hR hf hdg kk

set_option maxHeartbeats 8000000 in
set_option maxRecDepth 100000 in
theorem m_X12_compares_3 (l : Launch) {D : va_G} {base : Nat} {tys : List (ClassId × FieldType)} {ad ks : List Nat} {P : sgPm}{b : Bool} {lo mr f : Int}  (a0 : Nat) (h0 : isK ad ks 12 a0) (x1 : Int32) (h1 : iv 0 1 x1) (x2 : Int32) (hlo : 0 ≤ lo ∧ lo ≤ 241 ∧ -1 ≤ f ∧ f ≤ 0 ∧ 0 ≤ mr) : sgMi l (KR b 3 lo 241 mr f P) D vwCl base tys ad ks yX12_compares cX12_compares 6 (some .boolean) ({ frames := 17, cells := 0, slots := 0, locals := 391 }) [.ref a0, .int x1, .int x2] (fun r : Int32 => iv 0 1 r) := by
  refine sg_ofW (by decide +kernel) (Nat.le_of_ble_eq_true rfl) (fun p e s m below meth c X hr hlk hb hK hC hG ls hl => ?_)
  have hS : va_S (fun q : Nat => base ≤ q) s.heap s.heap [] := va_S.rf
  have hl : lv_has ls 6 [(0, .ref a0), (1, .int x1), (2, .int x2)] := hl
  refine lv_iload_n X.1 X.2.1 dX12_compares_0 rfl (lv_at hl 1 rfl) ?_
  have B2_12 : ∀ (H : Heap) (locs : List Loc) (ls : Array Slot) (w2_0 : Int32) (lo2 : Int), lo ≤ lo2 → lo2 ≤ 241 → sgG (KR b 3 lo2 241 mr f P) D vwCl (fun q : Nat => base ≤ q) tys ad ks H → va_S (fun q : Nat => base ≤ q) s.heap H locs → lv_has ls 6 [(0, .ref a0)] → W p l e (headSpec (Cond.code yX12_compares cX12_compares 6 (some .boolean) :: sg_tbl) ({ frames := 17, cells := 0, slots := 0, locals := 391 })).room s m #[.ref a0, .int x1, .int x2] below meth c H locs 0 0 (MQ below (va_Qi (fun r (_ : Unit) => (fun r : Int32 => iv 0 1 r) r) (fun _ => sgB (KR b 3 lo 241 mr f P) D vwCl base tys ad ks) (fun q : Nat => base ≤ q)) #[.ref a0, .int x1, .int x2] s 0 0 (fun q : Nat => base ≤ q)) (F0 m 12 ls [.int w2_0]) := by
    intro H locs ls w2_0 lo2 jl2 jm2 hG hS hl
    refine lv_istore_n (lv' := [(3, .int w2_0), (0, .ref a0)]) X.1 X.2.1 dX12_compares_12 rfl hl (by decide) rfl (fun ls hl => ?_)
    refine lv_aload_n X.1 X.2.1 dX12_compares_13 rfl (lv_at hl 1 rfl) ?_
    refine gf_X12_11r X hK hG h0 wl_6_189 dX12_compares_14 (fun f3 hf3 kf3 => ?_)
    have ⟨laf3, uaf3⟩ : f ≤ f3.toInt ∧ f3.toInt ≤ 241 := hf3
    have hf3 : iv (-1) 241 f3 := ⟨by omega, by omega⟩
    refine lv_iconst (v := (-1)) X.1 X.2.1 dX12_compares_17 (by decide +kernel) ?_
    refine lv_icmp_eq (tgt := 23) X.1 X.2.1 dX12_compares_18 (by decide) (fun c4 => ?_) (fun c4 => ?_)
    · refine lv_aload_n X.1 X.2.1 dX12_compares_23 rfl (lv_at hl 1 rfl) ?_
      refine ca_X12_look X hK hG hC hS hb a0 h0 ⟨by omega, by omega, by omega, by omega, by omega⟩ ⟨by omega, by omega, by omega⟩ wl_7_137 hl.1 (rest := []) rfl (Nat.le_of_ble_eq_true rfl) ⟨Nat.le_of_ble_eq_true rfl, Nat.le_of_ble_eq_true rfl⟩ ⟨Nat.le_of_ble_eq_true rfl, Nat.le_of_ble_eq_true rfl⟩ dX12_compares_24 (fun f5 tf5 H locs htf5 hf5 hWf5 hS => ?_)
      obtain ⟨hBf5, v6, kv6, hv6, lv6⟩ := hWf5
      have hG := hBf5.2.2.2
      rw [htf5] at hG kv6
      have ⟨lav6, uav6⟩ : lo2 ≤ v6.toInt ∧ v6.toInt ≤ 241 := hv6
      have hv6 : iv 0 241 v6 := ⟨by omega, by omega⟩
      refine lv_istore (lv' := [(4, .int f5), (3, .int w2_0), (0, .ref a0)]) X.1 X.2.1 dX12_compares_27 hl (by decide) rfl (fun ls hl => ?_)
      refine lv_iload X.1 X.2.1 dX12_compares_29 (lv_at hl 0 rfl) ?_
      refine ca_X12_isSign X hK (sgr_toKT hG (by omega) (by omega) (by omega)) hC (fun _ h => h) hS hb f5 wl_8_20 hl.1 (rest := []) rfl (Nat.le_of_ble_eq_true rfl) ⟨Nat.le_of_ble_eq_true rfl, Nat.le_of_ble_eq_true rfl⟩ ⟨Nat.le_of_ble_eq_true rfl, Nat.le_of_ble_eq_true rfl⟩ dX12_compares_31 (fun f7 locs hf7 hS => ?_)
      refine lv_if_ne (tgt := 42) X.1 X.2.1 dX12_compares_34 (by decide) (fun c8 => ?_) (fun c8 => ?_)
      · refine lv_aload_n X.1 X.2.1 dX12_compares_42 rfl (lv_at hl 2 rfl) ?_
        refine lv_dup X.1 X.2.1 dX12_compares_43 rfl ?_
        refine gg_X12_10r X hK hG h0 wl_6_188 kv6 dX12_compares_44 ?_
        refine lv_iconst (v := 1) X.1 X.2.1 dX12_compares_47 (by decide +kernel) ?_
        refine lv_iadd X.1 X.2.1 dX12_compares_48 ?_
        refine lv_topi (fun f9 ef9 => ?_)
        have sf9 : f9.toInt = v6.toInt + 1 := sg_inc (k := 1) ef9 (sg_lk (hf7.2 c8) lv6 hv6) (by decide +kernel)
        have uf9 : f9.toInt ≤ 241 := Int.le_trans ((iv_add (a' := 1) (b' := 240) ef9 (sg_lk (hf7.2 c8) lv6 hv6) (iv_c 1 (a := 1) (b := 1) (by decide +kernel)) (by decide +kernel))).2 (by omega)
        refine pf_X12_10R (lo2 := f9.toInt) (hi2 := 241) X hK hG hS h0 wl_6_188 ⟨_, rfl, Int.le_refl _, uf9⟩ dX12_compares_49 (fun H locs hG hS => ?_)
        refine lv_aload_n X.1 X.2.1 dX12_compares_52 rfl (lv_at hl 2 rfl) ?_
        refine ca_X12_sum_3 X hK hG hC hS hb a0 h0 ⟨by omega, by omega, by omega, by omega, by omega⟩ wl_7_233 hl.1 (rest := []) rfl (Nat.le_of_ble_eq_true rfl) ⟨Nat.le_of_ble_eq_true rfl, Nat.le_of_ble_eq_true rfl⟩ ⟨Nat.le_of_ble_eq_true rfl, Nat.le_of_ble_eq_true rfl⟩ dX12_compares_53 (fun f10 H locs hf10 hG hS => ?_)
        refine lv_istore (lv' := [(5, .int f10), (4, .int f5), (3, .int w2_0), (0, .ref a0)]) X.1 X.2.1 dX12_compares_56 hl (by decide) rfl (fun ls hl => ?_)
        refine lv_iload X.1 X.2.1 dX12_compares_58 (lv_at hl 1 rfl) ?_
        refine lv_bipush (v := 61) X.1 X.2.1 dX12_compares_60 (by decide +kernel) ?_
        refine lv_icmp_ne (tgt := 79) X.1 X.2.1 dX12_compares_62 (by decide) (fun c11 => ?_) (fun c11 => ?_)
        · refine lv_iload X.1 X.2.1 dX12_compares_79 (lv_at hl 1 rfl) ?_
          refine lv_bipush (v := 60) X.1 X.2.1 dX12_compares_81 (by decide +kernel) ?_
          refine lv_icmp_ne (tgt := 100) X.1 X.2.1 dX12_compares_83 (by decide) (fun c12 => ?_) (fun c12 => ?_)
          · refine lv_iload_n X.1 X.2.1 dX12_compares_100 rfl (lv_at hl 2 rfl) ?_
            refine lv_iload X.1 X.2.1 dX12_compares_101 (lv_at hl 0 rfl) ?_
            refine lv_icmp_le (tgt := 110) X.1 X.2.1 dX12_compares_103 (by decide) (fun c13 => ?_) (fun c13 => ?_)
            · refine lv_iconst (v := 0) X.1 X.2.1 dX12_compares_110 (by decide +kernel) ?_
              have hG := sgr_weak (d' := 3) (lo' := lo) (hi' := 241) (f' := f) hG (by omega) (by omega) (by omega) (by omega)
              exact sg_zret X hr (sg_zn (iv_of (iv_c 0 (a := 0) (b := 0) (by decide +kernel)) (a' := 0) (b' := 1) (by decide +kernel))) hlk hb hK hC hG hS (iv_of (iv_c 0 (a := 0) (b := 0) (by decide +kernel)) (a' := 0) (b' := 1) (by decide +kernel)) dX12_compares_111
            · refine lv_iconst (v := 1) X.1 X.2.1 dX12_compares_106 (by decide +kernel) ?_
              refine lv_goto (tgt := 111) X.1 X.2.1 dX12_compares_107 (by decide) ?_
              have hG := sgr_weak (d' := 3) (lo' := lo) (hi' := 241) (f' := f) hG (by omega) (by omega) (by omega) (by omega)
              exact sg_zret X hr (sg_zn (iv_of (iv_c 1 (a := 1) (b := 1) (by decide +kernel)) (a' := 0) (b' := 1) (by decide +kernel))) hlk hb hK hC hG hS (iv_of (iv_c 1 (a := 1) (b := 1) (by decide +kernel)) (a' := 0) (b' := 1) (by decide +kernel)) dX12_compares_111
          · refine lv_iload_n X.1 X.2.1 dX12_compares_86 rfl (lv_at hl 2 rfl) ?_
            refine lv_iload X.1 X.2.1 dX12_compares_87 (lv_at hl 0 rfl) ?_
            refine lv_icmp_ge (tgt := 96) X.1 X.2.1 dX12_compares_89 (by decide) (fun c14 => ?_) (fun c14 => ?_)
            · refine lv_iconst (v := 0) X.1 X.2.1 dX12_compares_96 (by decide +kernel) ?_
              refine lv_goto (tgt := 111) X.1 X.2.1 dX12_compares_97 (by decide) ?_
              have hG := sgr_weak (d' := 3) (lo' := lo) (hi' := 241) (f' := f) hG (by omega) (by omega) (by omega) (by omega)
              exact sg_zret X hr (sg_zn (iv_of (iv_c 0 (a := 0) (b := 0) (by decide +kernel)) (a' := 0) (b' := 1) (by decide +kernel))) hlk hb hK hC hG hS (iv_of (iv_c 0 (a := 0) (b := 0) (by decide +kernel)) (a' := 0) (b' := 1) (by decide +kernel)) dX12_compares_111
            · refine lv_iconst (v := 1) X.1 X.2.1 dX12_compares_92 (by decide +kernel) ?_
              refine lv_goto (tgt := 111) X.1 X.2.1 dX12_compares_93 (by decide) ?_
              have hG := sgr_weak (d' := 3) (lo' := lo) (hi' := 241) (f' := f) hG (by omega) (by omega) (by omega) (by omega)
              exact sg_zret X hr (sg_zn (iv_of (iv_c 1 (a := 1) (b := 1) (by decide +kernel)) (a' := 0) (b' := 1) (by decide +kernel))) hlk hb hK hC hG hS (iv_of (iv_c 1 (a := 1) (b := 1) (by decide +kernel)) (a' := 0) (b' := 1) (by decide +kernel)) dX12_compares_111
        · refine lv_iload_n X.1 X.2.1 dX12_compares_65 rfl (lv_at hl 2 rfl) ?_
          refine lv_iload X.1 X.2.1 dX12_compares_66 (lv_at hl 0 rfl) ?_
          refine lv_icmp_ne (tgt := 75) X.1 X.2.1 dX12_compares_68 (by decide) (fun c15 => ?_) (fun c15 => ?_)
          · refine lv_iconst (v := 0) X.1 X.2.1 dX12_compares_75 (by decide +kernel) ?_
            refine lv_goto (tgt := 111) X.1 X.2.1 dX12_compares_76 (by decide) ?_
            have hG := sgr_weak (d' := 3) (lo' := lo) (hi' := 241) (f' := f) hG (by omega) (by omega) (by omega) (by omega)
            exact sg_zret X hr (sg_zn (iv_of (iv_c 0 (a := 0) (b := 0) (by decide +kernel)) (a' := 0) (b' := 1) (by decide +kernel))) hlk hb hK hC hG hS (iv_of (iv_c 0 (a := 0) (b := 0) (by decide +kernel)) (a' := 0) (b' := 1) (by decide +kernel)) dX12_compares_111
          · refine lv_iconst (v := 1) X.1 X.2.1 dX12_compares_71 (by decide +kernel) ?_
            refine lv_goto (tgt := 111) X.1 X.2.1 dX12_compares_72 (by decide) ?_
            have hG := sgr_weak (d' := 3) (lo' := lo) (hi' := 241) (f' := f) hG (by omega) (by omega) (by omega) (by omega)
            exact sg_zret X hr (sg_zn (iv_of (iv_c 1 (a := 1) (b := 1) (by decide +kernel)) (a' := 0) (b' := 1) (by decide +kernel))) hlk hb hK hC hG hS (iv_of (iv_c 1 (a := 1) (b := 1) (by decide +kernel)) (a' := 0) (b' := 1) (by decide +kernel)) dX12_compares_111
      · refine lv_aload_n X.1 X.2.1 dX12_compares_37 rfl (lv_at hl 2 rfl) ?_
        refine ca_X12_fails X hK hG hC hS hb a0 h0 ⟨by omega, by omega, by omega, by omega, by omega⟩ wl_7_141 hl.1 (rest := []) rfl (Nat.le_of_ble_eq_true rfl) ⟨Nat.le_of_ble_eq_true rfl, Nat.le_of_ble_eq_true rfl⟩ ⟨Nat.le_of_ble_eq_true rfl, Nat.le_of_ble_eq_true rfl⟩ dX12_compares_38 (fun f16 H locs hf16 hG hS => ?_)
        have hG := sgr_weak (d' := 3) (lo' := lo) (hi' := 241) (f' := f) hG (by omega) (by omega) (by omega) (by omega)
        exact sg_zret X hr (sg_zn (iv_of hf16 (a' := 0) (b' := 1) (by decide +kernel))) hlk hb hK hC hG hS (iv_of hf16 (a' := 0) (b' := 1) (by decide +kernel)) dX12_compares_41
    · refine lv_iconst (v := 0) X.1 X.2.1 dX12_compares_21 (by decide +kernel) ?_
      have hG := sgr_weak (d' := 3) (lo' := lo) (hi' := 241) (f' := f) hG (by omega) (by omega) (by omega) (by omega)
      exact sg_zret X hr (sg_zn (iv_of (iv_c 0 (a := 0) (b := 0) (by decide +kernel)) (a' := 0) (b' := 1) (by decide +kernel))) hlk hb hK hC hG hS (iv_of (iv_c 0 (a := 0) (b := 0) (by decide +kernel)) (a' := 0) (b' := 1) (by decide +kernel)) dX12_compares_22
  refine lv_if_eq (tgt := 8) X.1 X.2.1 dX12_compares_1 (by decide) (fun c1 => ?_) (fun c1 => ?_)
  · refine lv_aload_n X.1 X.2.1 dX12_compares_8 rfl (lv_at hl 0 rfl) ?_
    refine ca_X12_sum_3 X hK hG hC hS hb a0 h0 ⟨by omega, by omega, by omega, by omega, by omega⟩ wl_7_233 hl.1 (rest := []) rfl (Nat.le_of_ble_eq_true rfl) ⟨Nat.le_of_ble_eq_true rfl, Nat.le_of_ble_eq_true rfl⟩ ⟨Nat.le_of_ble_eq_true rfl, Nat.le_of_ble_eq_true rfl⟩ dX12_compares_9 (fun f17 H locs hf17 hG hS => ?_)
    exact B2_12 H _ _ f17 lo (by omega) (by omega) hG hS (lv_sub hl [0] rfl)
  · refine lv_iload_n X.1 X.2.1 dX12_compares_4 rfl (lv_at hl 2 rfl) ?_
    refine lv_goto (tgt := 12) X.1 X.2.1 dX12_compares_5 (by decide) ?_
    exact B2_12 s.heap _ _ x2 lo (by omega) (by omega) hG hS (lv_sub hl [0] rfl)

theorem ca_X12_compares_3  {b : Bool} {lo mr f : Int}  (X : CallFix p m c cc nL s args sg_tbl own) (hK : va_K D vwCl tys s) (hG : sgG (KR b 3 lo 241 mr f P) D vwCl (fun q : Nat => base ≤ q) tys ad ks H) (hC : sgC base s) (hS : va_S (fun q : Nat => base ≤ q) s.heap H locs) (hb : base ≤ s.heap.size) (a0 : Nat) (h0 : isK ad ks 12 a0) (x1 : Int32) (h1 : iv 0 1 x1) (x2 : Int32) (hlo : 0 ≤ lo ∧ lo ≤ 241 ∧ -1 ≤ f ∧ f ≤ 0 ∧ 0 ≤ mr) (hl : Cond.methodLink own index yX12_compares ∈ sg_tbl) (hsize : ls.size = nL) (hst : st0 = [.int x1, .int x2].reverse ++ .ref a0 :: rest) (hW : (rest.map fun v => v.category).sum ≤ 8) (hR : 18 ≤ R.frames ∧ 416 ≤ R.locals) (hf : cells ≤ R.cells ∧ slots ≤ R.slots) (hdg : decode cc pc = .ok (.invokevirtual index, 3)) (kk : ∀ (r : Int32) (H1 : Heap) (locs1 : List Loc), (fun r : Int32 => iv 0 1 r) r → sgG (KR b 3 lo 241 mr f P) D vwCl (fun q : Nat => base ≤ q) tys ad ks H1 → va_S (fun q : Nat => base ≤ q) s.heap H1 locs1 → W p l e R s m args below meth c H1 locs1 cells slots Q (F0 m (pc + 3) ls (.int r :: rest))) : W p l e R s m args below meth c H locs cells slots Q (F0 m pc ls st0) :=
  sg_callVi X hK hG hC hS hb (m_X12_compares_3 l a0 h0 x1 h1 x2 hlo) h0 (k := 12) (ci := 12) rfl (C := RX12) (T := TX12) (N := 53) rfl wl_7_232 wl_1_13 wl_7_231 wl_0_63 (n := 2) (by decide +kernel) rfl rfl rfl hl hsize hst hW hR hf hdg kk

set_option maxHeartbeats 8000000 in
set_option maxRecDepth 100000 in
theorem m_X12_unit_3 (l : Launch) {D : va_G} {base : Nat} {tys : List (ClassId × FieldType)} {ad ks : List Nat} {P : sgPm}{b : Bool} {lo mr f : Int}  (a0 : Nat) (h0 : isK ad ks 12 a0) (hlo : 0 ≤ lo ∧ lo ≤ 241 ∧ -1 ≤ f ∧ f ≤ 0 ∧ 0 ≤ mr) : sgMi l (KR b 3 lo 241 mr f P) D vwCl base tys ad ks yX12_unit cX12_unit 3 (some .boolean) ({ frames := 18, cells := 0, slots := 0, locals := 416 }) [.ref a0] (fun r : Int32 => iv 0 1 r) := by
  refine sg_ofW (by decide +kernel) (Nat.le_of_ble_eq_true rfl) (fun p e s m below meth c X hr hlk hb hK hC hG ls hl => ?_)
  have hS : va_S (fun q : Nat => base ≤ q) s.heap s.heap [] := va_S.rf
  have hl : lv_has ls 3 [(0, .ref a0)] := hl
  refine lv_aload_n X.1 X.2.1 dX12_unit_0 rfl (lv_at hl 0 rfl) ?_
  refine ca_X12_look X hK hG hC hS hb a0 h0 ⟨by omega, by omega, by omega, by omega, by omega⟩ ⟨by omega, by omega, by omega⟩ wl_7_137 hl.1 (rest := []) rfl (Nat.le_of_ble_eq_true rfl) ⟨Nat.le_of_ble_eq_true rfl, Nat.le_of_ble_eq_true rfl⟩ ⟨Nat.le_of_ble_eq_true rfl, Nat.le_of_ble_eq_true rfl⟩ dX12_unit_1 (fun f1 tf1 H locs htf1 hf1 hWf1 hS => ?_)
  obtain ⟨hBf1, v2, kv2, hv2, lv2⟩ := hWf1
  have hG := hBf1.2.2.2
  rw [htf1] at hG kv2
  have ⟨lav2, uav2⟩ : lo ≤ v2.toInt ∧ v2.toInt ≤ 241 := hv2
  have hv2 : iv 0 241 v2 := ⟨by omega, by omega⟩
  refine lv_istore_n (lv' := [(1, .int f1), (0, .ref a0)]) X.1 X.2.1 dX12_unit_4 rfl hl (by decide) rfl (fun ls hl => ?_)
  refine lv_iload_n X.1 X.2.1 dX12_unit_5 rfl (lv_at hl 0 rfl) ?_
  refine lv_bipush (v := 33) X.1 X.2.1 dX12_unit_6 (by decide +kernel) ?_
  refine lv_icmp_ne (tgt := 45) X.1 X.2.1 dX12_unit_8 (by decide) (fun c3 => ?_) (fun c3 => ?_)
  · refine lv_iload_n X.1 X.2.1 dX12_unit_45 rfl (lv_at hl 0 rfl) ?_
    refine lv_bipush (v := 40) X.1 X.2.1 dX12_unit_46 (by decide +kernel) ?_
    refine lv_icmp_ne (tgt := 90) X.1 X.2.1 dX12_unit_48 (by decide) (fun c4 => ?_) (fun c4 => ?_)
    · refine lv_aload_n X.1 X.2.1 dX12_unit_90 rfl (lv_at hl 1 rfl) ?_
      refine lv_iconst (v := 0) X.1 X.2.1 dX12_unit_91 (by decide +kernel) ?_
      refine lv_iconst (v := 0) X.1 X.2.1 dX12_unit_92 (by decide +kernel) ?_
      refine ca_X12_compares_3 X hK hG hC hS hb a0 h0 0 (iv_of (iv_c 0 (a := 0) (b := 0) (by decide +kernel)) (a' := 0) (b' := 1) (by decide +kernel)) 0 ⟨by omega, by omega, by omega, by omega, by omega⟩ wl_7_229 hl.1 (rest := []) rfl (Nat.le_of_ble_eq_true rfl) ⟨Nat.le_of_ble_eq_true rfl, Nat.le_of_ble_eq_true rfl⟩ ⟨Nat.le_of_ble_eq_true rfl, Nat.le_of_ble_eq_true rfl⟩ dX12_unit_93 (fun f5 H locs hf5 hG hS => ?_)
      exact sg_zret X hr (sg_zn hf5) hlk hb hK hC hG hS hf5 dX12_unit_96
    · refine lv_aload_n X.1 X.2.1 dX12_unit_51 rfl (lv_at hl 1 rfl) ?_
      have uss6 : v2.toInt ≤ 240 := ((iv_of (sg_lk (iv_eqm (a' := 40) (b' := 40) c4 hf1 (iv_c 40 (a := 40) (b := 40) (by decide +kernel)) (by decide +kernel)) lv2 hv2) (a' := 0) (b' := 240) (by decide +kernel))).2
      have hG := sgr_str (lo' := v2.toInt) (hi' := 240) hG h0 kv2 ⟨Int.le_refl _, ((iv_of (sg_lk (iv_eqm (a' := 40) (b' := 40) c4 hf1 (iv_c 40 (a := 40) (b := 40) (by decide +kernel)) (by decide +kernel)) lv2 hv2) (a' := 0) (b' := 240) (by decide +kernel))).2⟩
      refine ca_X12_goesIn_3 X hK hG hC hS hb a0 h0 ⟨by omega, by omega, by omega, by omega, by omega⟩ wl_8_5 hl.1 (rest := []) rfl (Nat.le_of_ble_eq_true rfl) ⟨Nat.le_of_ble_eq_true rfl, Nat.le_of_ble_eq_true rfl⟩ ⟨Nat.le_of_ble_eq_true rfl, Nat.le_of_ble_eq_true rfl⟩ dX12_unit_52 (fun f7 tf7 H locs htf7 hf7 hWf7 hS => ?_)
      rcases hWf7 with ⟨rfl, hBf7⟩ | ⟨rfl, hBf7⟩
      · have hG := hBf7.2.2.2
        rw [htf7] at hG
        refine lv_if_ne (tgt := 60) X.1 X.2.1 dX12_unit_55 (by decide) (fun c8 => ?_) (fun c8 => ?_)
        · exact ((c8 (iv_one (iv_c 0 (a := 0) (b := 0) (by decide +kernel)) (iv_c 0 (a := 0) (b := 0) (by decide +kernel)) (by decide +kernel)))).elim
        · refine lv_iconst (v := 0) X.1 X.2.1 dX12_unit_58 (by decide +kernel) ?_
          have hG := sgr_weak (d' := 3) (lo' := lo) (hi' := 241) (f' := f) hG (by omega) (by omega) (by omega) (by omega)
          exact sg_zret X hr (sg_zn (iv_of (iv_c 0 (a := 0) (b := 0) (by decide +kernel)) (a' := 0) (b' := 1) (by decide +kernel))) hlk hb hK hC hG hS (iv_of (iv_c 0 (a := 0) (b := 0) (by decide +kernel)) (a' := 0) (b' := 1) (by decide +kernel)) dX12_unit_59
      · have hG := hBf7.2.2.2
        rw [htf7] at hG
        refine lv_if_ne (tgt := 60) X.1 X.2.1 dX12_unit_55 (by decide) (fun c9 => ?_) (fun c9 => ?_)
        · refine lv_aload_n X.1 X.2.1 dX12_unit_60 rfl (lv_at hl 1 rfl) ?_
          refine lv_iconst (v := 0) X.1 X.2.1 dX12_unit_61 (by decide +kernel) ?_
          refine lv_iconst (v := 0) X.1 X.2.1 dX12_unit_62 (by decide +kernel) ?_
          refine ca_X12_condition_4 X hK hG hC hS hb a0 h0 0 (iv_of (iv_c 0 (a := 0) (b := 0) (by decide +kernel)) (a' := 0) (b' := 1) (by decide +kernel)) 0 ⟨by omega, by omega, by omega, by omega, by omega⟩ wl_7_221 hl.1 (rest := []) rfl (Nat.le_of_ble_eq_true rfl) ⟨Nat.le_of_ble_eq_true rfl, Nat.le_of_ble_eq_true rfl⟩ ⟨Nat.le_of_ble_eq_true rfl, Nat.le_of_ble_eq_true rfl⟩ dX12_unit_63 (fun f10 H locs hf10 hG hS => ?_)
          refine lv_istore_n (lv' := [(2, .int f10), (1, .int f1), (0, .ref a0)]) X.1 X.2.1 dX12_unit_66 rfl hl (by decide) rfl (fun ls hl => ?_)
          refine lv_aload_n X.1 X.2.1 dX12_unit_67 rfl (lv_at hl 2 rfl) ?_
          refine lv_bipush (v := 41) X.1 X.2.1 dX12_unit_68 (by decide +kernel) ?_
          refine ca_X12_takes X hK hG hC hS hb a0 h0 41 (iv_of (iv_c 41 (a := 41) (b := 41) (by decide +kernel)) (a' := 0) (b' := 127) (by decide +kernel)) ⟨by omega, by omega, by omega, by omega, by omega⟩ wl_7_217 hl.1 (rest := []) rfl (Nat.le_of_ble_eq_true rfl) ⟨Nat.le_of_ble_eq_true rfl, Nat.le_of_ble_eq_true rfl⟩ ⟨Nat.le_of_ble_eq_true rfl, Nat.le_of_ble_eq_true rfl⟩ dX12_unit_70 (fun f11 H locs hf11 hG hS => ?_)
          refine lv_if_ne (tgt := 78) X.1 X.2.1 dX12_unit_73 (by decide) (fun c12 => ?_) (fun c12 => ?_)
          · refine lv_aload_n X.1 X.2.1 dX12_unit_78 rfl (lv_at hl 2 rfl) ?_
            refine lv_dup X.1 X.2.1 dX12_unit_79 rfl ?_
            refine gf_X12_12r X hK hG h0 wl_6_190 dX12_unit_80 (fun f13 hf13 kf13 => ?_)
            refine lv_iconst (v := 1) X.1 X.2.1 dX12_unit_83 (by decide +kernel) ?_
            refine lv_isub X.1 X.2.1 dX12_unit_84 ?_
            refine lv_topi (fun f14 ef14 => ?_)
            refine pf_X12_12R (d2 := 3) X hK hG hS h0 wl_6_190 ⟨_, rfl, (iv_of (iv_sub (a' := 3) (b' := 5) ef14 hf13 (iv_c 1 (a := 1) (b := 1) (by decide +kernel)) (by decide +kernel)) (a' := 3) (b' := 6) (by decide +kernel))⟩ dX12_unit_85 (fun H locs hG hS => ?_)
            refine lv_iload_n X.1 X.2.1 dX12_unit_88 rfl (lv_at hl 0 rfl) ?_
            have hG := sgr_weak (d' := 3) (lo' := lo) (hi' := 241) (f' := f) hG (by omega) (by omega) (by omega) (by omega)
            exact sg_zret X hr (sg_zn hf10) hlk hb hK hC hG hS hf10 dX12_unit_89
          · refine lv_iconst (v := 0) X.1 X.2.1 dX12_unit_76 (by decide +kernel) ?_
            have hG := sgr_weak (d' := 3) (lo' := lo) (hi' := 241) (f' := f) hG (by omega) (by omega) (by omega) (by omega)
            exact sg_zret X hr (sg_zn (iv_of (iv_c 0 (a := 0) (b := 0) (by decide +kernel)) (a' := 0) (b' := 1) (by decide +kernel))) hlk hb hK hC hG hS (iv_of (iv_c 0 (a := 0) (b := 0) (by decide +kernel)) (a' := 0) (b' := 1) (by decide +kernel)) dX12_unit_77
        · exact ((iv_no (a := 1) (b := 0) (iv_eqm c9 (iv_c 1 (a := 1) (b := 1) (by decide +kernel)) (iv_c 0 (a := 0) (b := 0) (by decide +kernel)) (by decide +kernel)) (by decide +kernel))).elim
  · refine lv_aload_n X.1 X.2.1 dX12_unit_11 rfl (lv_at hl 1 rfl) ?_
    have uss15 : v2.toInt ≤ 240 := ((iv_of (sg_lk (iv_eqm (a' := 33) (b' := 33) c3 hf1 (iv_c 33 (a := 33) (b := 33) (by decide +kernel)) (by decide +kernel)) lv2 hv2) (a' := 0) (b' := 240) (by decide +kernel))).2
    have hG := sgr_str (lo' := v2.toInt) (hi' := 240) hG h0 kv2 ⟨Int.le_refl _, ((iv_of (sg_lk (iv_eqm (a' := 33) (b' := 33) c3 hf1 (iv_c 33 (a := 33) (b := 33) (by decide +kernel)) (by decide +kernel)) lv2 hv2) (a' := 0) (b' := 240) (by decide +kernel))).2⟩
    refine ca_X12_goesIn_3 X hK hG hC hS hb a0 h0 ⟨by omega, by omega, by omega, by omega, by omega⟩ wl_8_5 hl.1 (rest := []) rfl (Nat.le_of_ble_eq_true rfl) ⟨Nat.le_of_ble_eq_true rfl, Nat.le_of_ble_eq_true rfl⟩ ⟨Nat.le_of_ble_eq_true rfl, Nat.le_of_ble_eq_true rfl⟩ dX12_unit_12 (fun f16 tf16 H locs htf16 hf16 hWf16 hS => ?_)
    rcases hWf16 with ⟨rfl, hBf16⟩ | ⟨rfl, hBf16⟩
    · have hG := hBf16.2.2.2
      rw [htf16] at hG
      refine lv_if_ne (tgt := 20) X.1 X.2.1 dX12_unit_15 (by decide) (fun c17 => ?_) (fun c17 => ?_)
      · exact ((c17 (iv_one (iv_c 0 (a := 0) (b := 0) (by decide +kernel)) (iv_c 0 (a := 0) (b := 0) (by decide +kernel)) (by decide +kernel)))).elim
      · refine lv_iconst (v := 0) X.1 X.2.1 dX12_unit_18 (by decide +kernel) ?_
        have hG := sgr_weak (d' := 3) (lo' := lo) (hi' := 241) (f' := f) hG (by omega) (by omega) (by omega) (by omega)
        exact sg_zret X hr (sg_zn (iv_of (iv_c 0 (a := 0) (b := 0) (by decide +kernel)) (a' := 0) (b' := 1) (by decide +kernel))) hlk hb hK hC hG hS (iv_of (iv_c 0 (a := 0) (b := 0) (by decide +kernel)) (a' := 0) (b' := 1) (by decide +kernel)) dX12_unit_19
    · have hG := hBf16.2.2.2
      rw [htf16] at hG
      refine lv_if_ne (tgt := 20) X.1 X.2.1 dX12_unit_15 (by decide) (fun c18 => ?_) (fun c18 => ?_)
      · refine lv_aload_n X.1 X.2.1 dX12_unit_20 rfl (lv_at hl 1 rfl) ?_
        refine ca_X12_unit_4 X hK hG hC hS hb a0 h0 ⟨by omega, by omega, by omega, by omega, by omega⟩ wl_8_23 hl.1 (rest := []) rfl (Nat.le_of_ble_eq_true rfl) ⟨Nat.le_of_ble_eq_true rfl, Nat.le_of_ble_eq_true rfl⟩ ⟨Nat.le_of_ble_eq_true rfl, Nat.le_of_ble_eq_true rfl⟩ dX12_unit_21 (fun f19 H locs hf19 hG hS => ?_)
        refine lv_istore_n (lv' := [(2, .int f19), (1, .int f1), (0, .ref a0)]) X.1 X.2.1 dX12_unit_24 rfl hl (by decide) rfl (fun ls hl => ?_)
        refine lv_aload_n X.1 X.2.1 dX12_unit_25 rfl (lv_at hl 2 rfl) ?_
        refine lv_dup X.1 X.2.1 dX12_unit_26 rfl ?_
        refine gf_X12_12r X hK hG h0 wl_6_190 dX12_unit_27 (fun f20 hf20 kf20 => ?_)
        refine lv_iconst (v := 1) X.1 X.2.1 dX12_unit_30 (by decide +kernel) ?_
        refine lv_isub X.1 X.2.1 dX12_unit_31 ?_
        refine lv_topi (fun f21 ef21 => ?_)
        refine pf_X12_12R (d2 := 3) X hK hG hS h0 wl_6_190 ⟨_, rfl, (iv_of (iv_sub (a' := 3) (b' := 5) ef21 hf20 (iv_c 1 (a := 1) (b := 1) (by decide +kernel)) (by decide +kernel)) (a' := 3) (b' := 6) (by decide +kernel))⟩ dX12_unit_32 (fun H locs hG hS => ?_)
        refine lv_iload_n X.1 X.2.1 dX12_unit_35 rfl (lv_at hl 0 rfl) ?_
        refine lv_if_ne (tgt := 43) X.1 X.2.1 dX12_unit_36 (by decide) (fun c22 => ?_) (fun c22 => ?_)
        · refine lv_iconst (v := 0) X.1 X.2.1 dX12_unit_43 (by decide +kernel) ?_
          have hG := sgr_weak (d' := 3) (lo' := lo) (hi' := 241) (f' := f) hG (by omega) (by omega) (by omega) (by omega)
          exact sg_zret X hr (sg_zn (iv_of (iv_c 0 (a := 0) (b := 0) (by decide +kernel)) (a' := 0) (b' := 1) (by decide +kernel))) hlk hb hK hC hG hS (iv_of (iv_c 0 (a := 0) (b := 0) (by decide +kernel)) (a' := 0) (b' := 1) (by decide +kernel)) dX12_unit_44
        · refine lv_iconst (v := 1) X.1 X.2.1 dX12_unit_39 (by decide +kernel) ?_
          refine lv_goto (tgt := 44) X.1 X.2.1 dX12_unit_40 (by decide) ?_
          have hG := sgr_weak (d' := 3) (lo' := lo) (hi' := 241) (f' := f) hG (by omega) (by omega) (by omega) (by omega)
          exact sg_zret X hr (sg_zn (iv_of (iv_c 1 (a := 1) (b := 1) (by decide +kernel)) (a' := 0) (b' := 1) (by decide +kernel))) hlk hb hK hC hG hS (iv_of (iv_c 1 (a := 1) (b := 1) (by decide +kernel)) (a' := 0) (b' := 1) (by decide +kernel)) dX12_unit_44
      · exact ((iv_no (a := 1) (b := 0) (iv_eqm c18 (iv_c 1 (a := 1) (b := 1) (by decide +kernel)) (iv_c 0 (a := 0) (b := 0) (by decide +kernel)) (by decide +kernel)) (by decide +kernel))).elim

theorem ca_X12_unit_3  {b : Bool} {lo mr f : Int}  (X : CallFix p m c cc nL s args sg_tbl own) (hK : va_K D vwCl tys s) (hG : sgG (KR b 3 lo 241 mr f P) D vwCl (fun q : Nat => base ≤ q) tys ad ks H) (hC : sgC base s) (hS : va_S (fun q : Nat => base ≤ q) s.heap H locs) (hb : base ≤ s.heap.size) (a0 : Nat) (h0 : isK ad ks 12 a0) (hlo : 0 ≤ lo ∧ lo ≤ 241 ∧ -1 ≤ f ∧ f ≤ 0 ∧ 0 ≤ mr) (hl : Cond.methodLink own index yX12_unit ∈ sg_tbl) (hsize : ls.size = nL) (hst : st0 = [].reverse ++ .ref a0 :: rest) (hW : (rest.map fun v => v.category).sum ≤ 8) (hR : 19 ≤ R.frames ∧ 438 ≤ R.locals) (hf : cells ≤ R.cells ∧ slots ≤ R.slots) (hdg : decode cc pc = .ok (.invokevirtual index, 3)) (kk : ∀ (r : Int32) (H1 : Heap) (locs1 : List Loc), (fun r : Int32 => iv 0 1 r) r → sgG (KR b 3 lo 241 mr f P) D vwCl (fun q : Nat => base ≤ q) tys ad ks H1 → va_S (fun q : Nat => base ≤ q) s.heap H1 locs1 → W p l e R s m args below meth c H1 locs1 cells slots Q (F0 m (pc + 3) ls (.int r :: rest))) : W p l e R s m args below meth c H locs cells slots Q (F0 m pc ls st0) :=
  sg_callVi X hK hG hC hS hb (m_X12_unit_3 l a0 h0 hlo) h0 (k := 12) (ci := 12) rfl (C := RX12) (T := TX12) (N := 53) rfl wl_8_26 wl_1_13 wl_8_25 wl_0_68 (n := 0) (by decide +kernel) rfl rfl rfl hl hsize hst hW hR hf hdg kk
end
