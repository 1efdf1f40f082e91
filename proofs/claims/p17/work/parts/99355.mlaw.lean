
section
variable {p : Program} {l : Launch} {e : Env} {R : Room} {s : State} {m : MethodId} {args : Array Value} {below : List Frame} {meth : Method} {c : Code} {H : Heap} {locs : List Loc} {cells slots : Nat} {Q : State → Prop} {cc : ByteArray} {nL pc : Nat} {ls : Array Slot} {rest : List Value} {own : String} {D : va_G} {A : Nat → Prop} {tys : List (ClassId × FieldType)} {ad ks : List Nat} {P : sgPm} {H0 : Heap} {index : Nat} {base : Nat} {st0 : List Value} {a : Nat}

set_option maxHeartbeats 8000000 in
set_option maxRecDepth 100000 in
theorem m_X12_goesIn_e1 (l : Launch) {D : va_G} {base : Nat} {tys : List (ClassId × FieldType)} {ad ks : List Nat} {P : sgPm}{a : Int} {z : sgZt}  (a0 : Nat) (h0 : isK ad ks 12 a0) (hl0 : 0 ≤ sgL2 P ∧ sgL2 P ≤ 240) (hsv : 0 ≤ a ∧ a < sgL2 P) : Met l yX12_goesIn (Cond.code yX12_goesIn cX12_goesIn 1 (some .boolean) :: sg_tbl) ({ frames := 0, cells := 0, slots := 0, locals := 0 }) (va_Pc [.ref a0] (sgB (KE a a (-1) (-1) 1 1 z P) D vwCl base tys ad ks)) (va_Qi (fun r (u : Int32) => u = r ∧ (fun r : Int32 => iv 1 1 r) r) (fun u t => sgB (KE (a + 1) (a + 1) (-1) (-1) 2 2 z P) D vwCl base tys ad ks t) (fun q : Nat => base ≤ q)) 0 0 (fun q : Nat => base ≤ q) := by
  refine sg_ofW (by decide +kernel) (Nat.le_of_ble_eq_true rfl) (fun p e s m below meth c X hr hlk hb hK hC hG ls hl => ?_)
  have hS : va_S (fun q : Nat => base ≤ q) s.heap s.heap [] := va_S.rf
  have hl : lv_has ls 1 [(0, .ref a0)] := hl
  refine lv_aload_n X.1 X.2.1 dX12_goesIn_0 rfl (lv_at hl 0 rfl) ?_
  refine gf_X12_12e X hK hG h0 wl_6_190 dX12_goesIn_1 (fun f1 hf1 => ?_)
  refine lv_bipush (v := 6) X.1 X.2.1 dX12_goesIn_4 (by decide +kernel) ?_
  refine lv_icmp_ne (tgt := 14) X.1 X.2.1 dX12_goesIn_6 (by decide) (fun c2 => ?_) (fun c2 => ?_)
  · refine lv_aload_n X.1 X.2.1 dX12_goesIn_14 rfl (lv_at hl 0 rfl) ?_
    refine lv_dup X.1 X.2.1 dX12_goesIn_15 rfl ?_
    refine gf_X12_12e X hK hG h0 wl_6_190 dX12_goesIn_16 (fun f3 hf3 => ?_)
    refine lv_iconst (v := 1) X.1 X.2.1 dX12_goesIn_19 (by decide +kernel) ?_
    refine lv_iadd X.1 X.2.1 dX12_goesIn_20 ?_
    refine lv_topi (fun f4 ef4 => ?_)
    refine pf_X12_12E (b1 := 2) (b2 := 2) X hK hG hS h0 wl_6_190 (iv_add (a' := 2) (b' := 2) ef4 hf3 (iv_c 1 (a := 1) (b := 1) (by decide +kernel)) (by decide +kernel)) dX12_goesIn_21 (fun H locs hG hS => ?_)
    refine lv_aload_n X.1 X.2.1 dX12_goesIn_24 rfl (lv_at hl 0 rfl) ?_
    refine lv_dup X.1 X.2.1 dX12_goesIn_25 rfl ?_
    refine gf_X12_10e X hK hG h0 wl_6_188 dX12_goesIn_26 (fun f5 hf5 => ?_)
    have xf5 : f5.toInt = a := vq_iv hf5
    have yf5 : iv 0 240 f5 := vq_240 hl0 (And.intro hsv.1 (Int.le_of_lt hsv.2)) xf5
    refine lv_iconst (v := 1) X.1 X.2.1 dX12_goesIn_29 (by decide +kernel) ?_
    refine lv_iadd X.1 X.2.1 dX12_goesIn_30 ?_
    refine lv_topi (fun f6 ef6 => ?_)
    have xf6 : f6.toInt = (a + 1) := sg_exadd ef6 yf5 (iv_c 1 (a := 1) (b := 1) (by decide +kernel)) (by decide +kernel) xf5 (by decide +kernel)
    refine pf_X12_10E (b1 := (a + 1)) (b2 := (a + 1)) X hK hG hS h0 wl_6_188 (vq_of (lo := (a + 1)) (hi := (a + 1)) xf6 ⟨Int.le_refl _, Int.le_refl _⟩) dX12_goesIn_31 (fun H locs hG hS => ?_)
    have b7 := vq_bd1 (And.intro hsv.1 (Int.le_of_lt hsv.2)) hsv.2
    have pb7 : a + 1 ≤ (a + 1) := vq_pg (vq_pg0 a) (m := 1) (Int.le_refl _) (by decide)
    refine lv_iconst (v := 1) X.1 X.2.1 dX12_goesIn_34 (by decide +kernel) ?_
    exact sg_zret2 X hr (sg_zn (iv_of (iv_c 1 (a := 1) (b := 1) (by decide +kernel)) (a' := 0) (b' := 1) (by decide +kernel))) hlk hS (iv_c 1 (a := 1) (b := 1) (by decide +kernel)) (fun t ht hW => sg_post hb hK hC hG hS ht hW) dX12_goesIn_35
  · exact ((iv_no (a := 6) (b := 1) (iv_eqm c2 hf1 (iv_c 6 (a := 6) (b := 6) (by decide +kernel)) (by decide +kernel)) (by decide +kernel))).elim

theorem ca_X12_goesIn_e1  {a : Int} {z : sgZt}  (X : CallFix p m c cc nL s args sg_tbl own) (hK : va_K D vwCl tys s) (hG : sgG (KE a a (-1) (-1) 1 1 z P) D vwCl (fun q : Nat => base ≤ q) tys ad ks H) (hC : sgC base s) (hS : va_S (fun q : Nat => base ≤ q) s.heap H locs) (hb : base ≤ s.heap.size) (a0 : Nat) (h0 : isK ad ks 12 a0) (hl0 : 0 ≤ sgL2 P ∧ sgL2 P ≤ 240) (hsv : 0 ≤ a ∧ a < sgL2 P) (hl : Cond.methodLink own index yX12_goesIn ∈ sg_tbl) (hsize : ls.size = nL) (hst : st0 = [].reverse ++ .ref a0 :: rest) (hW : (rest.map fun v => v.category).sum ≤ 8) (hR : 1 ≤ R.frames ∧ 20 ≤ R.locals) (hf : cells ≤ R.cells ∧ slots ≤ R.slots) (hdg : decode cc pc = .ok (.invokevirtual index, 3)) (kk : ∀ (r : Int32) (t : State) (H1 : Heap) (locs1 : List Loc), t.heap = H1 → (fun r : Int32 => iv 1 1 r) r → (sgB (KE (a + 1) (a + 1) (-1) (-1) 2 2 z P) D vwCl base tys ad ks t) → va_S (fun q : Nat => base ≤ q) s.heap H1 locs1 → W p l e R s m args below meth c H1 locs1 cells slots Q (F0 m (pc + 3) ls (.int r :: rest))) : W p l e R s m args below meth c H locs cells slots Q (F0 m pc ls st0) :=
  sg_callV2i X hK hG hC hS hb (m_X12_goesIn_e1 l a0 h0 hl0 hsv) h0 (k := 12) (ci := 12) rfl (C := RX12) (T := TX12) (N := 53) rfl wl_8_8 wl_1_13 wl_8_7 wl_0_67 (n := 0) (by decide +kernel) rfl rfl rfl hl hsize hst hW hR hf hdg kk

set_option maxHeartbeats 8000000 in
set_option maxRecDepth 100000 in
theorem m_X12_atom_e1 (l : Launch) {D : va_G} {base : Nat} {tys : List (ClassId × FieldType)} {ad ks : List Nat} {P : sgPm}{a : Int} {z : sgZt}  (a0 : Nat) (h0 : isK ad ks 12 a0) (hl0 : 0 ≤ sgL2 P ∧ sgL2 P ≤ 240) (hav : 0 ≤ a ∧ a ≤ sgL2 P) (hby : sgBy2 P) : Met l yX12_atom (Cond.code yX12_atom cX12_atom 4 (some .int) :: sg_tbl) ({ frames := 20, cells := 0, slots := 0, locals := 462 }) (va_Pc [.ref a0] (sgB (KE a a (-1) (-1) 1 1 z P) D vwCl base tys ad ks)) (va_Qi (fun r (u : Int32) => u = r ∧ (fun r : Int32 => True) r) (fun u t => (∃ a1 : Int, vAt (sgU2 P) (sgL2 P) 5 (vX (sgU2 P) (sgL2 P) a) = (true, vX (sgU2 P) (sgL2 P) a1) ∧ a + 1 ≤ a1 ∧ a1 ≤ sgL2 P ∧ sgB (KE a1 a1 (-1) (-1) 1 1 z P) D vwCl base tys ad ks t) ∨ (∃ w : Int, vAt (sgU2 P) (sgL2 P) 5 (vX (sgU2 P) (sgL2 P) a) = (false, w) ∧ 0 ≤ w ∧ w ≤ 240 ∧ sgB (KE 0 241 w w 1 6 z P) D vwCl base tys ad ks t)) (fun q : Nat => base ≤ q)) 0 0 (fun q : Nat => base ≤ q) := by
  refine sg_ofW (by decide +kernel) (Nat.le_of_ble_eq_true rfl) (fun p e s m below meth c X hr hlk hb hK hC hG ls hl => ?_)
  have hS : va_S (fun q : Nat => base ≤ q) s.heap s.heap [] := va_S.rf
  have hl : lv_has ls 4 [(0, .ref a0)] := hl
  refine lv_aload_n X.1 X.2.1 dX12_atom_0 rfl (lv_at hl 0 rfl) ?_
  refine ca_X12_look_e X hK hG hC hS hb a0 h0 hl0 hav hby wl_7_137 hl.1 (rest := []) rfl (Nat.le_of_ble_eq_true rfl) ⟨Nat.le_of_ble_eq_true rfl, Nat.le_of_ble_eq_true rfl⟩ ⟨Nat.le_of_ble_eq_true rfl, Nat.le_of_ble_eq_true rfl⟩ dX12_atom_1 (fun f1 tf1 H locs htf1 hf1 hWf1 hS => ?_)
  have hBf1 := hWf1.2
  have xf1 := hWf1.1
  have hG := hBf1.2.2.2
  rw [htf1] at hG
  have b2 := vq_bdL (b := sgU2 P) hav
  have eb2 : a ≤ vX (sgU2 P) (sgL2 P) a := (vX_ge (sgU2 P) (sgL2 P) a).1
  have pb2 : a + 0 ≤ vX (sgU2 P) (sgL2 P) a := Int.le_trans (vq_pg0 a) (vX_ge (sgU2 P) (sgL2 P) a).1
  have yf1 : iv (-1) 255 f1 := vq_lk xf1 (vC_by2 hby _)
  refine lv_istore_n (lv' := [(1, .int f1), (0, .ref a0)]) X.1 X.2.1 dX12_atom_4 rfl hl (by decide) rfl (fun ls hl => ?_)
  obtain ⟨t3, vt3, pt3, rt3⟩ := hC.2.2.1
  refine va_ldcS X.1 X.2.1 X.2.2.2.1 rt3 dX12_atom_5 ?_
  refine lv_iload_n X.1 X.2.1 dX12_atom_7 rfl (lv_at hl 0 rfl) ?_
  refine ca_X12_isAmong_e6 X hK (ke_toKT hG (by decide) (by decide) (by decide) (by decide)) hC (fun _ h => h) hS hb pt3 f1 (sg_htb (by decide +kernel)) wl_7_214 hl.1 (rest := []) rfl (Nat.le_of_ble_eq_true rfl) ⟨Nat.le_of_ble_eq_true rfl, Nat.le_of_ble_eq_true rfl⟩ ⟨Nat.le_of_ble_eq_true rfl, Nat.le_of_ble_eq_true rfl⟩ dX12_atom_8 (fun f4 locs hf4 hS => ?_)
  refine lv_if_eq (tgt := 31) X.1 X.2.1 dX12_atom_11 (by decide) (fun c5 => ?_) (fun c5 => ?_)
  · have j6 := vq_says0 hf4 c5
    have k7 : vLet (vC (sgU2 P) (sgL2 P) (vX (sgU2 P) (sgL2 P) a)) < (0 : Int) := (vLet_E (vC (sgU2 P) (sgL2 P) (vX (sgU2 P) (sgL2 P) a))) ▸ (by have z := j6; rw [xf1] at z; exact z)
    refine lv_iload_n X.1 X.2.1 dX12_atom_31 rfl (lv_at hl 0 rfl) ?_
    refine lv_bipush (v := 91) X.1 X.2.1 dX12_atom_32 (by decide +kernel) ?_
    refine lv_icmp_ne (tgt := 74) X.1 X.2.1 dX12_atom_34 (by decide) (fun c11 => ?_) (fun c11 => ?_)
    · have i12 : (vE (vC (sgU2 P) (sgL2 P) (vX (sgU2 P) (sgL2 P) a)) = (91 : Int)) = False := vq_ne c11 xf1 (by decide +kernel)
      have mi12 : (vC (sgU2 P) (sgL2 P) (vX (sgU2 P) (sgL2 P) a) = (91 : Int)) = False := vE_ne i12 (by decide)
      refine lv_aload_n X.1 X.2.1 dX12_atom_74 rfl (lv_at hl 1 rfl) ?_
      refine ca_X12_isDigit_e X hK hG hC (fun _ h => h) hS hb a0 h0 hl0 b2 hby wl_7_187 hl.1 (rest := []) rfl (Nat.le_of_ble_eq_true rfl) ⟨Nat.le_of_ble_eq_true rfl, Nat.le_of_ble_eq_true rfl⟩ ⟨Nat.le_of_ble_eq_true rfl, Nat.le_of_ble_eq_true rfl⟩ dX12_atom_75 (fun f14 locs hf14 hS => ?_)
      refine lv_if_ne (tgt := 86) X.1 X.2.1 dX12_atom_78 (by decide) (fun c15 => ?_) (fun c15 => ?_)
      · have j16 := vq_says1 hf14 c15
        have k17 : ¬ vC (sgU2 P) (sgL2 P) (vX (sgU2 P) (sgL2 P) a) < (48 : Int) := j16.1
        have k18 : ¬ (57 : Int) < vC (sgU2 P) (sgL2 P) (vX (sgU2 P) (sgL2 P) a) := j16.2
        refine lv_iconst (v := 0) X.1 X.2.1 dX12_atom_86 (by decide +kernel) ?_
        refine lv_istore_n (lv' := [(2, .int 0), (1, .int f1), (0, .ref a0)]) X.1 X.2.1 dX12_atom_87 rfl hl (by decide) rfl (fun ls hl => ?_)
        refine lv_iconst (v := 0) X.1 X.2.1 dX12_atom_88 (by decide +kernel) ?_
        refine lv_istore_n (lv' := [(3, .int 0), (2, .int 0), (1, .int f1), (0, .ref a0)]) X.1 X.2.1 dX12_atom_89 rfl hl (by decide) rfl (fun ls hl => ?_)
        refine lv_aload_n X.1 X.2.1 dX12_atom_90 rfl (lv_at hl 3 rfl) ?_
        refine ca_X12_isDigit_e X hK hG hC (fun _ h => h) hS hb a0 h0 hl0 b2 hby wl_7_187 hl.1 (rest := []) rfl (Nat.le_of_ble_eq_true rfl) ⟨Nat.le_of_ble_eq_true rfl, Nat.le_of_ble_eq_true rfl⟩ ⟨Nat.le_of_ble_eq_true rfl, Nat.le_of_ble_eq_true rfl⟩ dX12_atom_91 (fun f21 locs hf21 hS => ?_)
        refine lv_if_eq (tgt := 156) X.1 X.2.1 dX12_atom_94 (by decide) (fun c22 => ?_) (fun c22 => ?_)
        · have j23 := vq_says0 hf21 c22
          have k24 : vC (sgU2 P) (sgL2 P) (vX (sgU2 P) (sgL2 P) a) < (48 : Int) ∨ (57 : Int) < vC (sgU2 P) (sgL2 P) (vX (sgU2 P) (sgL2 P) a) := j23
          exact absurd k24 (vq_nd ⟨k17, k18⟩)
        · have j25 := vq_says1 hf21 c22
          have k26 : ¬ vC (sgU2 P) (sgL2 P) (vX (sgU2 P) (sgL2 P) a) < (48 : Int) := j25.1
          have k27 : ¬ (57 : Int) < vC (sgU2 P) (sgL2 P) (vX (sgU2 P) (sgL2 P) a) := j25.2
          refine lv_aload_n X.1 X.2.1 dX12_atom_97 rfl (lv_at hl 3 rfl) ?_
          refine gf_X12_11e X hK hG h0 wl_6_189 dX12_atom_98 (fun f28 hf28 => ?_)
          refine lv_iconst (v := (-1)) X.1 X.2.1 dX12_atom_101 (by decide +kernel) ?_
          refine lv_icmp_ne (tgt := 156) X.1 X.2.1 dX12_atom_102 (by decide) (fun c29 => ?_) (fun c29 => ?_)
          · have i30 : (((-1) : Int) = ((-1) : Int)) = False := vq_ne c29 (vq_iv hf28) (by decide +kernel)
            exact ((c29 (iv_one hf28 (iv_c (-1) (a := (-1)) (b := (-1)) (by decide +kernel)) (by decide +kernel)))).elim
          · have i31 : ((-1) : Int) = ((-1) : Int) := vq_eq c29 (vq_iv hf28) (by decide +kernel)
            refine lv_iload_n X.1 X.2.1 dX12_atom_105 rfl (lv_at hl 0 rfl) ?_
            refine lv_iconst (v := 4) X.1 X.2.1 dX12_atom_106 (by decide +kernel) ?_
            refine lv_icmp_ne (tgt := 117) X.1 X.2.1 dX12_atom_107 (by decide) (fun c32 => ?_) (fun c32 => ?_)
            · refine lv_bipush (v := 10) X.1 X.2.1 dX12_atom_117 (by decide +kernel) ?_
              refine lv_iload_n X.1 X.2.1 dX12_atom_119 rfl (lv_at hl 1 rfl) ?_
              refine lv_imul X.1 X.2.1 dX12_atom_120 ?_
              refine lv_topi (fun f33 ef33 => ?_)
              have xf33 : f33.toInt = (10 * 0) := sg_exmul ef33 (iv_c 10 (a := 10) (b := 10) (by decide +kernel)) (iv_c 0 (a := 0) (b := 0) (by decide +kernel)) (by decide +kernel) (by decide +kernel) (by decide +kernel)
              refine lv_aload_n X.1 X.2.1 dX12_atom_121 rfl (lv_at hl 3 rfl) ?_
              refine gf_X12_5e X hK hG h0 wl_6_183 dX12_atom_122 (fun q34 hq34 => ?_)
              refine lv_aload_n X.1 X.2.1 dX12_atom_125 rfl (lv_at hl 3 rfl) ?_
              refine gf_X12_8e X hK hG h0 wl_6_186 dX12_atom_126 (fun f35 hf35 => ?_)
              have xf35 : f35.toInt = 0 := vq_iv hf35
              refine lv_aload_n X.1 X.2.1 dX12_atom_129 rfl (lv_at hl 3 rfl) ?_
              refine gf_X12_10e X hK hG h0 wl_6_188 dX12_atom_130 (fun f36 hf36 => ?_)
              have xf36 : f36.toInt = (vX (sgU2 P) (sgL2 P) a) := vq_iv hf36
              have yf36 : iv 0 240 f36 := vq_240 hl0 b2 xf36
              refine lv_iadd X.1 X.2.1 dX12_atom_133 ?_
              refine lv_topi (fun f37 ef37 => ?_)
              have xf37 : f37.toInt = (vX (sgU2 P) (sgL2 P) a) := (sg_exadd ef37 hf35 yf36 (by decide +kernel) xf35 xf36).trans (Int.zero_add _)
              have l38 := (vC_lt (b := sgU2 P) (n := sgL2 P) (a := (vX (sgU2 P) (sgL2 P) a)) (vq_dn k26)).2
              have z39 : iv 0 239 f37 := vq_239 hl0 b2 l38 xf37
              refine al_45e X hK hG hq34 (iv_vpin z39 (by decide +kernel)) dX12_atom_134 (fun f40 hf40 => ?_)
              have of40 := hf40
              have hf40 : iv (-2147483648) 2147483647 f40 := iv_top f40
              have xf40 : f40.toInt = vS (vC (sgU2 P) (sgL2 P) (vX (sgU2 P) (sgL2 P) a)) := vq_tp2 of40 xf37 (b2).1 l38 hby
              refine lv_iadd X.1 X.2.1 dX12_atom_135 ?_
              refine lv_topi (fun f41 ef41 => ?_)
              have xf41 : f41.toInt = ((10 * 0) + vS (vC (sgU2 P) (sgL2 P) (vX (sgU2 P) (sgL2 P) a))) := sg_exadd ef41 (iv_mul (a' := 0) (b' := 0) ef33 (iv_c 10 (a := 10) (b := 10) (by decide +kernel)) (iv_c 0 (a := 0) (b := 0) (by decide +kernel)) (by decide +kernel)) (iv_top f40) (by decide +kernel) xf33 xf40
              refine lv_bipush (v := 48) X.1 X.2.1 dX12_atom_136 (by decide +kernel) ?_
              refine lv_isub X.1 X.2.1 dX12_atom_138 ?_
              refine lv_topi (fun f42 ef42 => ?_)
              refine lv_istore_n (lv' := [(2, .int f42), (3, .int 0), (1, .int f1), (0, .ref a0)]) X.1 X.2.1 dX12_atom_139 rfl hl (by decide) rfl (fun ls hl => ?_)
              refine lv_aload_n X.1 X.2.1 dX12_atom_140 rfl (lv_at hl 3 rfl) ?_
              refine lv_dup X.1 X.2.1 dX12_atom_141 rfl ?_
              refine gf_X12_10e X hK hG h0 wl_6_188 dX12_atom_142 (fun f43 hf43 => ?_)
              have xf43 : f43.toInt = (vX (sgU2 P) (sgL2 P) a) := vq_iv hf43
              have yf43 : iv 0 240 f43 := vq_240 hl0 b2 xf43
              refine lv_iconst (v := 1) X.1 X.2.1 dX12_atom_145 (by decide +kernel) ?_
              refine lv_iadd X.1 X.2.1 dX12_atom_146 ?_
              refine lv_topi (fun f44 ef44 => ?_)
              have xf44 : f44.toInt = ((vX (sgU2 P) (sgL2 P) a) + 1) := sg_exadd ef44 yf43 (iv_c 1 (a := 1) (b := 1) (by decide +kernel)) (by decide +kernel) xf43 (by decide +kernel)
              refine pf_X12_10E (b1 := ((vX (sgU2 P) (sgL2 P) a) + 1)) (b2 := ((vX (sgU2 P) (sgL2 P) a) + 1)) X hK hG hS h0 wl_6_188 (vq_of (lo := ((vX (sgU2 P) (sgL2 P) a) + 1)) (hi := ((vX (sgU2 P) (sgL2 P) a) + 1)) xf44 ⟨Int.le_refl _, Int.le_refl _⟩) dX12_atom_147 (fun H locs hG hS => ?_)
              have b45 := vq_bd1 b2 l38
              have pb45 : a + 1 ≤ ((vX (sgU2 P) (sgL2 P) a) + 1) := vq_pg pb2 (m := 1) (Int.le_refl _) (by decide)
              obtain ⟨y46, ey46⟩ : ∃ y : Int32, y = 0 + Int32.ofInt 1 := ⟨_, rfl⟩
              have xy46 : y46.toInt = (0 + 1) := sg_exadd ey46 (iv_c 0 (a := 0) (b := 0) (by decide +kernel)) (iv_c _ (a := 1) (b := 1) (by decide +kernel)) (by decide +kernel) (by decide +kernel) (by decide +kernel)
              refine lv_iinc (v := y46) (lv' := [(3, .int y46), (2, .int f42), (1, .int f1), (0, .ref a0)]) X.1 X.2.1 dX12_atom_150 hl (k := 1) rfl ey46.symm (by decide) rfl (fun ls hl => ?_)
              refine lv_goto (tgt := 90) X.1 X.2.1 dX12_atom_153 (by decide) ?_
              refine lv_aload_n X.1 X.2.1 dX12_atom_90 rfl (lv_at hl 3 rfl) ?_
              refine ca_X12_isDigit_e X hK hG hC (fun _ h => h) hS hb a0 h0 hl0 b45 hby wl_7_187 hl.1 (rest := []) rfl (Nat.le_of_ble_eq_true rfl) ⟨Nat.le_of_ble_eq_true rfl, Nat.le_of_ble_eq_true rfl⟩ ⟨Nat.le_of_ble_eq_true rfl, Nat.le_of_ble_eq_true rfl⟩ dX12_atom_91 (fun f47 locs hf47 hS => ?_)
              refine lv_if_eq (tgt := 156) X.1 X.2.1 dX12_atom_94 (by decide) (fun c48 => ?_) (fun c48 => ?_)
              · have j49 := vq_says0 hf47 c48
                have k50 : vC (sgU2 P) (sgL2 P) ((vX (sgU2 P) (sgL2 P) a) + 1) < (48 : Int) ∨ (57 : Int) < vC (sgU2 P) (sgL2 P) ((vX (sgU2 P) (sgL2 P) a) + 1) := j49
                refine lv_iload_n X.1 X.2.1 dX12_atom_156 rfl (lv_at hl 1 rfl) ?_
                have hnv := (vq_vs (And.intro (Int.le_refl 0) (Int.le_refl 0)) k26 k27 (m2 := 9) (by decide))
                have hnd : vNd (sgU2 P) (sgL2 P) 0 9999 4 false 0 (vX (sgU2 P) (sgL2 P) a) = _ := (vNd_more (Int.not_lt.mp k26) (Int.not_lt.mp k27)).trans ((vNd_ok (k := 3) k50 hnv.1 (Int.le_trans hnv.2 (by decide : (9 : Int) ≤ 9999))))
                have spr : vAt (sgU2 P) (sgL2 P) 5 (vX (sgU2 P) (sgL2 P) a) = (true, vX (sgU2 P) (sgL2 P) ((vX (sgU2 P) (sgL2 P) a) + 1)) := by simp only [vAt_5, vAtom, vNu, hnd, mi12, k7, cond_true, cond_false, vB_t, vB_f, if_true, if_false, eq_self, not_true_eq_false, not_false_eq_true, Int.reduceEq, Int.reduceLT, or_false, false_or, or_true, true_or]
                exact sg_iret2 X hr hlk hS trivial (fun t ht hW => (Or.inl ⟨_, spr, vq_pgw pb45 (by decide), (b45).2, sg_post hb hK hC hG hS ht hW⟩)) dX12_atom_157
              · have j51 := vq_says1 hf47 c48
                have k52 : ¬ vC (sgU2 P) (sgL2 P) ((vX (sgU2 P) (sgL2 P) a) + 1) < (48 : Int) := j51.1
                have k53 : ¬ (57 : Int) < vC (sgU2 P) (sgL2 P) ((vX (sgU2 P) (sgL2 P) a) + 1) := j51.2
                refine lv_aload_n X.1 X.2.1 dX12_atom_97 rfl (lv_at hl 3 rfl) ?_
                refine gf_X12_11e X hK hG h0 wl_6_189 dX12_atom_98 (fun f54 hf54 => ?_)
                refine lv_iconst (v := (-1)) X.1 X.2.1 dX12_atom_101 (by decide +kernel) ?_
                refine lv_icmp_ne (tgt := 156) X.1 X.2.1 dX12_atom_102 (by decide) (fun c55 => ?_) (fun c55 => ?_)
                · have i56 : (((-1) : Int) = ((-1) : Int)) = False := vq_ne c55 (vq_iv hf54) (by decide +kernel)
                  exact ((c55 (iv_one hf54 (iv_c (-1) (a := (-1)) (b := (-1)) (by decide +kernel)) (by decide +kernel)))).elim
                · have i57 : ((-1) : Int) = ((-1) : Int) := vq_eq c55 (vq_iv hf54) (by decide +kernel)
                  refine lv_iload_n X.1 X.2.1 dX12_atom_105 rfl (lv_at hl 0 rfl) ?_
                  refine lv_iconst (v := 4) X.1 X.2.1 dX12_atom_106 (by decide +kernel) ?_
                  refine lv_icmp_ne (tgt := 117) X.1 X.2.1 dX12_atom_107 (by decide) (fun c58 => ?_) (fun c58 => ?_)
                  · have i59 : (((0 + 1) : Int) = (4 : Int)) = False := vq_ne c58 xy46 (by decide +kernel)
                    refine lv_bipush (v := 10) X.1 X.2.1 dX12_atom_117 (by decide +kernel) ?_
                    refine lv_iload_n X.1 X.2.1 dX12_atom_119 rfl (lv_at hl 1 rfl) ?_
                    refine lv_imul X.1 X.2.1 dX12_atom_120 ?_
                    refine lv_topi (fun f61 ef61 => ?_)
                    refine lv_aload_n X.1 X.2.1 dX12_atom_121 rfl (lv_at hl 3 rfl) ?_
                    refine gf_X12_5e X hK hG h0 wl_6_183 dX12_atom_122 (fun q62 hq62 => ?_)
                    refine lv_aload_n X.1 X.2.1 dX12_atom_125 rfl (lv_at hl 3 rfl) ?_
                    refine gf_X12_8e X hK hG h0 wl_6_186 dX12_atom_126 (fun f63 hf63 => ?_)
                    have xf63 : f63.toInt = 0 := vq_iv hf63
                    refine lv_aload_n X.1 X.2.1 dX12_atom_129 rfl (lv_at hl 3 rfl) ?_
                    refine gf_X12_10e X hK hG h0 wl_6_188 dX12_atom_130 (fun f64 hf64 => ?_)
                    have xf64 : f64.toInt = ((vX (sgU2 P) (sgL2 P) a) + 1) := vq_iv hf64
                    have yf64 : iv 0 240 f64 := vq_240 hl0 b45 xf64
                    refine lv_iadd X.1 X.2.1 dX12_atom_133 ?_
                    refine lv_topi (fun f65 ef65 => ?_)
                    have xf65 : f65.toInt = ((vX (sgU2 P) (sgL2 P) a) + 1) := (sg_exadd ef65 hf63 yf64 (by decide +kernel) xf63 xf64).trans (Int.zero_add _)
                    have l66 := (vC_lt (b := sgU2 P) (n := sgL2 P) (a := ((vX (sgU2 P) (sgL2 P) a) + 1)) (vq_dn k52)).2
                    have z67 : iv 0 239 f65 := vq_239 hl0 b45 l66 xf65
                    refine al_45e X hK hG hq62 (iv_vpin z67 (by decide +kernel)) dX12_atom_134 (fun f68 hf68 => ?_)
                    have of68 := hf68
                    have hf68 : iv (-2147483648) 2147483647 f68 := iv_top f68
                    have xf68 : f68.toInt = vS (vC (sgU2 P) (sgL2 P) ((vX (sgU2 P) (sgL2 P) a) + 1)) := vq_tp2 of68 xf65 (b45).1 l66 hby
                    refine lv_iadd X.1 X.2.1 dX12_atom_135 ?_
                    refine lv_topi (fun f69 ef69 => ?_)
                    refine lv_bipush (v := 48) X.1 X.2.1 dX12_atom_136 (by decide +kernel) ?_
                    refine lv_isub X.1 X.2.1 dX12_atom_138 ?_
                    refine lv_topi (fun f70 ef70 => ?_)
                    refine lv_istore_n (lv' := [(2, .int f70), (3, .int y46), (1, .int f1), (0, .ref a0)]) X.1 X.2.1 dX12_atom_139 rfl hl (by decide) rfl (fun ls hl => ?_)
                    refine lv_aload_n X.1 X.2.1 dX12_atom_140 rfl (lv_at hl 3 rfl) ?_
                    refine lv_dup X.1 X.2.1 dX12_atom_141 rfl ?_
                    refine gf_X12_10e X hK hG h0 wl_6_188 dX12_atom_142 (fun f71 hf71 => ?_)
                    have xf71 : f71.toInt = ((vX (sgU2 P) (sgL2 P) a) + 1) := vq_iv hf71
                    have yf71 : iv 0 240 f71 := vq_240 hl0 b45 xf71
                    refine lv_iconst (v := 1) X.1 X.2.1 dX12_atom_145 (by decide +kernel) ?_
                    refine lv_iadd X.1 X.2.1 dX12_atom_146 ?_
                    refine lv_topi (fun f72 ef72 => ?_)
                    have xf72 : f72.toInt = (((vX (sgU2 P) (sgL2 P) a) + 1) + 1) := sg_exadd ef72 yf71 (iv_c 1 (a := 1) (b := 1) (by decide +kernel)) (by decide +kernel) xf71 (by decide +kernel)
                    refine pf_X12_10E (b1 := (((vX (sgU2 P) (sgL2 P) a) + 1) + 1)) (b2 := (((vX (sgU2 P) (sgL2 P) a) + 1) + 1)) X hK hG hS h0 wl_6_188 (vq_of (lo := (((vX (sgU2 P) (sgL2 P) a) + 1) + 1)) (hi := (((vX (sgU2 P) (sgL2 P) a) + 1) + 1)) xf72 ⟨Int.le_refl _, Int.le_refl _⟩) dX12_atom_147 (fun H locs hG hS => ?_)
                    have b73 := vq_bd1 b45 l66
                    have pb73 : a + 2 ≤ (((vX (sgU2 P) (sgL2 P) a) + 1) + 1) := vq_pg pb45 (m := 1) (Int.le_refl _) (by decide)
                    obtain ⟨y74, ey74⟩ : ∃ y : Int32, y = y46 + Int32.ofInt 1 := ⟨_, rfl⟩
                    have xy74 : y74.toInt = ((0 + 1) + 1) := sg_exadd ey74 (iv_add (a' := 1) (b' := 1) ey46 (iv_c 0 (a := 0) (b := 0) (by decide +kernel)) (iv_c _ (a := 1) (b := 1) (by decide +kernel)) (by decide +kernel)) (iv_c _ (a := 1) (b := 1) (by decide +kernel)) (by decide +kernel) xy46 (by decide +kernel)
                    refine lv_iinc (v := y74) (lv' := [(3, .int y74), (2, .int f70), (1, .int f1), (0, .ref a0)]) X.1 X.2.1 dX12_atom_150 hl (k := 1) rfl ey74.symm (by decide) rfl (fun ls hl => ?_)
                    refine lv_goto (tgt := 90) X.1 X.2.1 dX12_atom_153 (by decide) ?_
                    refine lv_aload_n X.1 X.2.1 dX12_atom_90 rfl (lv_at hl 3 rfl) ?_
                    refine ca_X12_isDigit_e X hK hG hC (fun _ h => h) hS hb a0 h0 hl0 b73 hby wl_7_187 hl.1 (rest := []) rfl (Nat.le_of_ble_eq_true rfl) ⟨Nat.le_of_ble_eq_true rfl, Nat.le_of_ble_eq_true rfl⟩ ⟨Nat.le_of_ble_eq_true rfl, Nat.le_of_ble_eq_true rfl⟩ dX12_atom_91 (fun f75 locs hf75 hS => ?_)
                    refine lv_if_eq (tgt := 156) X.1 X.2.1 dX12_atom_94 (by decide) (fun c76 => ?_) (fun c76 => ?_)
                    · have j77 := vq_says0 hf75 c76
                      have k78 : vC (sgU2 P) (sgL2 P) (((vX (sgU2 P) (sgL2 P) a) + 1) + 1) < (48 : Int) ∨ (57 : Int) < vC (sgU2 P) (sgL2 P) (((vX (sgU2 P) (sgL2 P) a) + 1) + 1) := j77
                      refine lv_iload_n X.1 X.2.1 dX12_atom_156 rfl (lv_at hl 1 rfl) ?_
                      have hnv := (vq_vs (vq_vs (And.intro (Int.le_refl 0) (Int.le_refl 0)) k26 k27 (m2 := 9) (by decide)) k52 k53 (m2 := 99) (by decide))
                      have hnd : vNd (sgU2 P) (sgL2 P) 0 9999 4 false 0 (vX (sgU2 P) (sgL2 P) a) = _ := (vNd_more (Int.not_lt.mp k26) (Int.not_lt.mp k27)).trans ((vNd_more (Int.not_lt.mp k52) (Int.not_lt.mp k53)).trans ((vNd_ok (k := 2) k78 hnv.1 (Int.le_trans hnv.2 (by decide : (99 : Int) ≤ 9999)))))
                      have spr : vAt (sgU2 P) (sgL2 P) 5 (vX (sgU2 P) (sgL2 P) a) = (true, vX (sgU2 P) (sgL2 P) (((vX (sgU2 P) (sgL2 P) a) + 1) + 1)) := by simp only [vAt_5, vAtom, vNu, hnd, mi12, k7, cond_true, cond_false, vB_t, vB_f, if_true, if_false, eq_self, not_true_eq_false, not_false_eq_true, Int.reduceEq, Int.reduceLT, or_false, false_or, or_true, true_or]
                      exact sg_iret2 X hr hlk hS trivial (fun t ht hW => (Or.inl ⟨_, spr, vq_pgw pb73 (by decide), (b73).2, sg_post hb hK hC hG hS ht hW⟩)) dX12_atom_157
                    · have j79 := vq_says1 hf75 c76
                      have k80 : ¬ vC (sgU2 P) (sgL2 P) (((vX (sgU2 P) (sgL2 P) a) + 1) + 1) < (48 : Int) := j79.1
                      have k81 : ¬ (57 : Int) < vC (sgU2 P) (sgL2 P) (((vX (sgU2 P) (sgL2 P) a) + 1) + 1) := j79.2
                      refine lv_aload_n X.1 X.2.1 dX12_atom_97 rfl (lv_at hl 3 rfl) ?_
                      refine gf_X12_11e X hK hG h0 wl_6_189 dX12_atom_98 (fun f82 hf82 => ?_)
                      refine lv_iconst (v := (-1)) X.1 X.2.1 dX12_atom_101 (by decide +kernel) ?_
                      refine lv_icmp_ne (tgt := 156) X.1 X.2.1 dX12_atom_102 (by decide) (fun c83 => ?_) (fun c83 => ?_)
                      · have i84 : (((-1) : Int) = ((-1) : Int)) = False := vq_ne c83 (vq_iv hf82) (by decide +kernel)
                        exact ((c83 (iv_one hf82 (iv_c (-1) (a := (-1)) (b := (-1)) (by decide +kernel)) (by decide +kernel)))).elim
                      · have i85 : ((-1) : Int) = ((-1) : Int) := vq_eq c83 (vq_iv hf82) (by decide +kernel)
                        refine lv_iload_n X.1 X.2.1 dX12_atom_105 rfl (lv_at hl 0 rfl) ?_
                        refine lv_iconst (v := 4) X.1 X.2.1 dX12_atom_106 (by decide +kernel) ?_
                        refine lv_icmp_ne (tgt := 117) X.1 X.2.1 dX12_atom_107 (by decide) (fun c86 => ?_) (fun c86 => ?_)
                        · have i87 : ((((0 + 1) + 1) : Int) = (4 : Int)) = False := vq_ne c86 xy74 (by decide +kernel)
                          refine lv_bipush (v := 10) X.1 X.2.1 dX12_atom_117 (by decide +kernel) ?_
                          refine lv_iload_n X.1 X.2.1 dX12_atom_119 rfl (lv_at hl 1 rfl) ?_
                          refine lv_imul X.1 X.2.1 dX12_atom_120 ?_
                          refine lv_topi (fun f89 ef89 => ?_)
                          refine lv_aload_n X.1 X.2.1 dX12_atom_121 rfl (lv_at hl 3 rfl) ?_
                          refine gf_X12_5e X hK hG h0 wl_6_183 dX12_atom_122 (fun q90 hq90 => ?_)
                          refine lv_aload_n X.1 X.2.1 dX12_atom_125 rfl (lv_at hl 3 rfl) ?_
                          refine gf_X12_8e X hK hG h0 wl_6_186 dX12_atom_126 (fun f91 hf91 => ?_)
                          have xf91 : f91.toInt = 0 := vq_iv hf91
                          refine lv_aload_n X.1 X.2.1 dX12_atom_129 rfl (lv_at hl 3 rfl) ?_
                          refine gf_X12_10e X hK hG h0 wl_6_188 dX12_atom_130 (fun f92 hf92 => ?_)
                          have xf92 : f92.toInt = (((vX (sgU2 P) (sgL2 P) a) + 1) + 1) := vq_iv hf92
                          have yf92 : iv 0 240 f92 := vq_240 hl0 b73 xf92
                          refine lv_iadd X.1 X.2.1 dX12_atom_133 ?_
                          refine lv_topi (fun f93 ef93 => ?_)
                          have xf93 : f93.toInt = (((vX (sgU2 P) (sgL2 P) a) + 1) + 1) := (sg_exadd ef93 hf91 yf92 (by decide +kernel) xf91 xf92).trans (Int.zero_add _)
                          have l94 := (vC_lt (b := sgU2 P) (n := sgL2 P) (a := (((vX (sgU2 P) (sgL2 P) a) + 1) + 1)) (vq_dn k80)).2
                          have z95 : iv 0 239 f93 := vq_239 hl0 b73 l94 xf93
                          refine al_45e X hK hG hq90 (iv_vpin z95 (by decide +kernel)) dX12_atom_134 (fun f96 hf96 => ?_)
                          have of96 := hf96
                          have hf96 : iv (-2147483648) 2147483647 f96 := iv_top f96
                          have xf96 : f96.toInt = vS (vC (sgU2 P) (sgL2 P) (((vX (sgU2 P) (sgL2 P) a) + 1) + 1)) := vq_tp2 of96 xf93 (b73).1 l94 hby
                          refine lv_iadd X.1 X.2.1 dX12_atom_135 ?_
                          refine lv_topi (fun f97 ef97 => ?_)
                          refine lv_bipush (v := 48) X.1 X.2.1 dX12_atom_136 (by decide +kernel) ?_
                          refine lv_isub X.1 X.2.1 dX12_atom_138 ?_
                          refine lv_topi (fun f98 ef98 => ?_)
                          refine lv_istore_n (lv' := [(2, .int f98), (3, .int y74), (1, .int f1), (0, .ref a0)]) X.1 X.2.1 dX12_atom_139 rfl hl (by decide) rfl (fun ls hl => ?_)
                          refine lv_aload_n X.1 X.2.1 dX12_atom_140 rfl (lv_at hl 3 rfl) ?_
                          refine lv_dup X.1 X.2.1 dX12_atom_141 rfl ?_
                          refine gf_X12_10e X hK hG h0 wl_6_188 dX12_atom_142 (fun f99 hf99 => ?_)
                          have xf99 : f99.toInt = (((vX (sgU2 P) (sgL2 P) a) + 1) + 1) := vq_iv hf99
                          have yf99 : iv 0 240 f99 := vq_240 hl0 b73 xf99
                          refine lv_iconst (v := 1) X.1 X.2.1 dX12_atom_145 (by decide +kernel) ?_
                          refine lv_iadd X.1 X.2.1 dX12_atom_146 ?_
                          refine lv_topi (fun f100 ef100 => ?_)
                          have xf100 : f100.toInt = ((((vX (sgU2 P) (sgL2 P) a) + 1) + 1) + 1) := sg_exadd ef100 yf99 (iv_c 1 (a := 1) (b := 1) (by decide +kernel)) (by decide +kernel) xf99 (by decide +kernel)
                          refine pf_X12_10E (b1 := ((((vX (sgU2 P) (sgL2 P) a) + 1) + 1) + 1)) (b2 := ((((vX (sgU2 P) (sgL2 P) a) + 1) + 1) + 1)) X hK hG hS h0 wl_6_188 (vq_of (lo := ((((vX (sgU2 P) (sgL2 P) a) + 1) + 1) + 1)) (hi := ((((vX (sgU2 P) (sgL2 P) a) + 1) + 1) + 1)) xf100 ⟨Int.le_refl _, Int.le_refl _⟩) dX12_atom_147 (fun H locs hG hS => ?_)
                          have b101 := vq_bd1 b73 l94
                          have pb101 : a + 3 ≤ ((((vX (sgU2 P) (sgL2 P) a) + 1) + 1) + 1) := vq_pg pb73 (m := 1) (Int.le_refl _) (by decide)
                          obtain ⟨y102, ey102⟩ : ∃ y : Int32, y = y74 + Int32.ofInt 1 := ⟨_, rfl⟩
                          have xy102 : y102.toInt = (((0 + 1) + 1) + 1) := sg_exadd ey102 (iv_add (a' := 2) (b' := 2) ey74 (iv_add (a' := 1) (b' := 1) ey46 (iv_c 0 (a := 0) (b := 0) (by decide +kernel)) (iv_c _ (a := 1) (b := 1) (by decide +kernel)) (by decide +kernel)) (iv_c _ (a := 1) (b := 1) (by decide +kernel)) (by decide +kernel)) (iv_c _ (a := 1) (b := 1) (by decide +kernel)) (by decide +kernel) xy74 (by decide +kernel)
                          refine lv_iinc (v := y102) (lv' := [(3, .int y102), (2, .int f98), (1, .int f1), (0, .ref a0)]) X.1 X.2.1 dX12_atom_150 hl (k := 1) rfl ey102.symm (by decide) rfl (fun ls hl => ?_)
                          refine lv_goto (tgt := 90) X.1 X.2.1 dX12_atom_153 (by decide) ?_
                          refine lv_aload_n X.1 X.2.1 dX12_atom_90 rfl (lv_at hl 3 rfl) ?_
                          refine ca_X12_isDigit_e X hK hG hC (fun _ h => h) hS hb a0 h0 hl0 b101 hby wl_7_187 hl.1 (rest := []) rfl (Nat.le_of_ble_eq_true rfl) ⟨Nat.le_of_ble_eq_true rfl, Nat.le_of_ble_eq_true rfl⟩ ⟨Nat.le_of_ble_eq_true rfl, Nat.le_of_ble_eq_true rfl⟩ dX12_atom_91 (fun f103 locs hf103 hS => ?_)
                          refine lv_if_eq (tgt := 156) X.1 X.2.1 dX12_atom_94 (by decide) (fun c104 => ?_) (fun c104 => ?_)
                          · have j105 := vq_says0 hf103 c104
                            have k106 : vC (sgU2 P) (sgL2 P) ((((vX (sgU2 P) (sgL2 P) a) + 1) + 1) + 1) < (48 : Int) ∨ (57 : Int) < vC (sgU2 P) (sgL2 P) ((((vX (sgU2 P) (sgL2 P) a) + 1) + 1) + 1) := j105
                            refine lv_iload_n X.1 X.2.1 dX12_atom_156 rfl (lv_at hl 1 rfl) ?_
                            have hnv := (vq_vs (vq_vs (vq_vs (And.intro (Int.le_refl 0) (Int.le_refl 0)) k26 k27 (m2 := 9) (by decide)) k52 k53 (m2 := 99) (by decide)) k80 k81 (m2 := 999) (by decide))
                            have hnd : vNd (sgU2 P) (sgL2 P) 0 9999 4 false 0 (vX (sgU2 P) (sgL2 P) a) = _ := (vNd_more (Int.not_lt.mp k26) (Int.not_lt.mp k27)).trans ((vNd_more (Int.not_lt.mp k52) (Int.not_lt.mp k53)).trans ((vNd_more (Int.not_lt.mp k80) (Int.not_lt.mp k81)).trans ((vNd_ok (k := 1) k106 hnv.1 (Int.le_trans hnv.2 (by decide : (999 : Int) ≤ 9999))))))
                            have spr : vAt (sgU2 P) (sgL2 P) 5 (vX (sgU2 P) (sgL2 P) a) = (true, vX (sgU2 P) (sgL2 P) ((((vX (sgU2 P) (sgL2 P) a) + 1) + 1) + 1)) := by simp only [vAt_5, vAtom, vNu, hnd, mi12, k7, cond_true, cond_false, vB_t, vB_f, if_true, if_false, eq_self, not_true_eq_false, not_false_eq_true, Int.reduceEq, Int.reduceLT, or_false, false_or, or_true, true_or]
                            exact sg_iret2 X hr hlk hS trivial (fun t ht hW => (Or.inl ⟨_, spr, vq_pgw pb101 (by decide), (b101).2, sg_post hb hK hC hG hS ht hW⟩)) dX12_atom_157
                          · have j107 := vq_says1 hf103 c104
                            have k108 : ¬ vC (sgU2 P) (sgL2 P) ((((vX (sgU2 P) (sgL2 P) a) + 1) + 1) + 1) < (48 : Int) := j107.1
                            have k109 : ¬ (57 : Int) < vC (sgU2 P) (sgL2 P) ((((vX (sgU2 P) (sgL2 P) a) + 1) + 1) + 1) := j107.2
                            refine lv_aload_n X.1 X.2.1 dX12_atom_97 rfl (lv_at hl 3 rfl) ?_
                            refine gf_X12_11e X hK hG h0 wl_6_189 dX12_atom_98 (fun f110 hf110 => ?_)
                            refine lv_iconst (v := (-1)) X.1 X.2.1 dX12_atom_101 (by decide +kernel) ?_
                            refine lv_icmp_ne (tgt := 156) X.1 X.2.1 dX12_atom_102 (by decide) (fun c111 => ?_) (fun c111 => ?_)
                            · have i112 : (((-1) : Int) = ((-1) : Int)) = False := vq_ne c111 (vq_iv hf110) (by decide +kernel)
                              exact ((c111 (iv_one hf110 (iv_c (-1) (a := (-1)) (b := (-1)) (by decide +kernel)) (by decide +kernel)))).elim
                            · have i113 : ((-1) : Int) = ((-1) : Int) := vq_eq c111 (vq_iv hf110) (by decide +kernel)
                              refine lv_iload_n X.1 X.2.1 dX12_atom_105 rfl (lv_at hl 0 rfl) ?_
                              refine lv_iconst (v := 4) X.1 X.2.1 dX12_atom_106 (by decide +kernel) ?_
                              refine lv_icmp_ne (tgt := 117) X.1 X.2.1 dX12_atom_107 (by decide) (fun c114 => ?_) (fun c114 => ?_)
                              · have i115 : (((((0 + 1) + 1) + 1) : Int) = (4 : Int)) = False := vq_ne c114 xy102 (by decide +kernel)
                                refine lv_bipush (v := 10) X.1 X.2.1 dX12_atom_117 (by decide +kernel) ?_
                                refine lv_iload_n X.1 X.2.1 dX12_atom_119 rfl (lv_at hl 1 rfl) ?_
                                refine lv_imul X.1 X.2.1 dX12_atom_120 ?_
                                refine lv_topi (fun f117 ef117 => ?_)
                                refine lv_aload_n X.1 X.2.1 dX12_atom_121 rfl (lv_at hl 3 rfl) ?_
                                refine gf_X12_5e X hK hG h0 wl_6_183 dX12_atom_122 (fun q118 hq118 => ?_)
                                refine lv_aload_n X.1 X.2.1 dX12_atom_125 rfl (lv_at hl 3 rfl) ?_
                                refine gf_X12_8e X hK hG h0 wl_6_186 dX12_atom_126 (fun f119 hf119 => ?_)
                                have xf119 : f119.toInt = 0 := vq_iv hf119
                                refine lv_aload_n X.1 X.2.1 dX12_atom_129 rfl (lv_at hl 3 rfl) ?_
                                refine gf_X12_10e X hK hG h0 wl_6_188 dX12_atom_130 (fun f120 hf120 => ?_)
                                have xf120 : f120.toInt = ((((vX (sgU2 P) (sgL2 P) a) + 1) + 1) + 1) := vq_iv hf120
                                have yf120 : iv 0 240 f120 := vq_240 hl0 b101 xf120
                                refine lv_iadd X.1 X.2.1 dX12_atom_133 ?_
                                refine lv_topi (fun f121 ef121 => ?_)
                                have xf121 : f121.toInt = ((((vX (sgU2 P) (sgL2 P) a) + 1) + 1) + 1) := (sg_exadd ef121 hf119 yf120 (by decide +kernel) xf119 xf120).trans (Int.zero_add _)
                                have l122 := (vC_lt (b := sgU2 P) (n := sgL2 P) (a := ((((vX (sgU2 P) (sgL2 P) a) + 1) + 1) + 1)) (vq_dn k108)).2
                                have z123 : iv 0 239 f121 := vq_239 hl0 b101 l122 xf121
                                refine al_45e X hK hG hq118 (iv_vpin z123 (by decide +kernel)) dX12_atom_134 (fun f124 hf124 => ?_)
                                have of124 := hf124
                                have hf124 : iv (-2147483648) 2147483647 f124 := iv_top f124
                                have xf124 : f124.toInt = vS (vC (sgU2 P) (sgL2 P) ((((vX (sgU2 P) (sgL2 P) a) + 1) + 1) + 1)) := vq_tp2 of124 xf121 (b101).1 l122 hby
                                refine lv_iadd X.1 X.2.1 dX12_atom_135 ?_
                                refine lv_topi (fun f125 ef125 => ?_)
                                refine lv_bipush (v := 48) X.1 X.2.1 dX12_atom_136 (by decide +kernel) ?_
                                refine lv_isub X.1 X.2.1 dX12_atom_138 ?_
                                refine lv_topi (fun f126 ef126 => ?_)
                                refine lv_istore_n (lv' := [(2, .int f126), (3, .int y102), (1, .int f1), (0, .ref a0)]) X.1 X.2.1 dX12_atom_139 rfl hl (by decide) rfl (fun ls hl => ?_)
                                refine lv_aload_n X.1 X.2.1 dX12_atom_140 rfl (lv_at hl 3 rfl) ?_
                                refine lv_dup X.1 X.2.1 dX12_atom_141 rfl ?_
                                refine gf_X12_10e X hK hG h0 wl_6_188 dX12_atom_142 (fun f127 hf127 => ?_)
                                have xf127 : f127.toInt = ((((vX (sgU2 P) (sgL2 P) a) + 1) + 1) + 1) := vq_iv hf127
                                have yf127 : iv 0 240 f127 := vq_240 hl0 b101 xf127
                                refine lv_iconst (v := 1) X.1 X.2.1 dX12_atom_145 (by decide +kernel) ?_
                                refine lv_iadd X.1 X.2.1 dX12_atom_146 ?_
                                refine lv_topi (fun f128 ef128 => ?_)
                                have xf128 : f128.toInt = (((((vX (sgU2 P) (sgL2 P) a) + 1) + 1) + 1) + 1) := sg_exadd ef128 yf127 (iv_c 1 (a := 1) (b := 1) (by decide +kernel)) (by decide +kernel) xf127 (by decide +kernel)
                                refine pf_X12_10E (b1 := (((((vX (sgU2 P) (sgL2 P) a) + 1) + 1) + 1) + 1)) (b2 := (((((vX (sgU2 P) (sgL2 P) a) + 1) + 1) + 1) + 1)) X hK hG hS h0 wl_6_188 (vq_of (lo := (((((vX (sgU2 P) (sgL2 P) a) + 1) + 1) + 1) + 1)) (hi := (((((vX (sgU2 P) (sgL2 P) a) + 1) + 1) + 1) + 1)) xf128 ⟨Int.le_refl _, Int.le_refl _⟩) dX12_atom_147 (fun H locs hG hS => ?_)
                                have b129 := vq_bd1 b101 l122
                                have pb129 : a + 4 ≤ (((((vX (sgU2 P) (sgL2 P) a) + 1) + 1) + 1) + 1) := vq_pg pb101 (m := 1) (Int.le_refl _) (by decide)
                                obtain ⟨y130, ey130⟩ : ∃ y : Int32, y = y102 + Int32.ofInt 1 := ⟨_, rfl⟩
                                have xy130 : y130.toInt = ((((0 + 1) + 1) + 1) + 1) := sg_exadd ey130 (iv_add (a' := 3) (b' := 3) ey102 (iv_add (a' := 2) (b' := 2) ey74 (iv_add (a' := 1) (b' := 1) ey46 (iv_c 0 (a := 0) (b := 0) (by decide +kernel)) (iv_c _ (a := 1) (b := 1) (by decide +kernel)) (by decide +kernel)) (iv_c _ (a := 1) (b := 1) (by decide +kernel)) (by decide +kernel)) (iv_c _ (a := 1) (b := 1) (by decide +kernel)) (by decide +kernel)) (iv_c _ (a := 1) (b := 1) (by decide +kernel)) (by decide +kernel) xy102 (by decide +kernel)
                                refine lv_iinc (v := y130) (lv' := [(3, .int y130), (2, .int f126), (1, .int f1), (0, .ref a0)]) X.1 X.2.1 dX12_atom_150 hl (k := 1) rfl ey130.symm (by decide) rfl (fun ls hl => ?_)
                                refine lv_goto (tgt := 90) X.1 X.2.1 dX12_atom_153 (by decide) ?_
                                refine lv_aload_n X.1 X.2.1 dX12_atom_90 rfl (lv_at hl 3 rfl) ?_
                                refine ca_X12_isDigit_e X hK hG hC (fun _ h => h) hS hb a0 h0 hl0 b129 hby wl_7_187 hl.1 (rest := []) rfl (Nat.le_of_ble_eq_true rfl) ⟨Nat.le_of_ble_eq_true rfl, Nat.le_of_ble_eq_true rfl⟩ ⟨Nat.le_of_ble_eq_true rfl, Nat.le_of_ble_eq_true rfl⟩ dX12_atom_91 (fun f131 locs hf131 hS => ?_)
                                refine lv_if_eq (tgt := 156) X.1 X.2.1 dX12_atom_94 (by decide) (fun c132 => ?_) (fun c132 => ?_)
                                · have j133 := vq_says0 hf131 c132
                                  have k134 : vC (sgU2 P) (sgL2 P) (((((vX (sgU2 P) (sgL2 P) a) + 1) + 1) + 1) + 1) < (48 : Int) ∨ (57 : Int) < vC (sgU2 P) (sgL2 P) (((((vX (sgU2 P) (sgL2 P) a) + 1) + 1) + 1) + 1) := j133
                                  refine lv_iload_n X.1 X.2.1 dX12_atom_156 rfl (lv_at hl 1 rfl) ?_
                                  have hnv := (vq_vs (vq_vs (vq_vs (vq_vs (And.intro (Int.le_refl 0) (Int.le_refl 0)) k26 k27 (m2 := 9) (by decide)) k52 k53 (m2 := 99) (by decide)) k80 k81 (m2 := 999) (by decide)) k108 k109 (m2 := 9999) (by decide))
                                  have hnd : vNd (sgU2 P) (sgL2 P) 0 9999 4 false 0 (vX (sgU2 P) (sgL2 P) a) = _ := (vNd_more (Int.not_lt.mp k26) (Int.not_lt.mp k27)).trans ((vNd_more (Int.not_lt.mp k52) (Int.not_lt.mp k53)).trans ((vNd_more (Int.not_lt.mp k80) (Int.not_lt.mp k81)).trans ((vNd_more (Int.not_lt.mp k108) (Int.not_lt.mp k109)).trans ((vNd_ok (k := 0) k134 hnv.1 (Int.le_trans hnv.2 (by decide : (9999 : Int) ≤ 9999)))))))
                                  have spr : vAt (sgU2 P) (sgL2 P) 5 (vX (sgU2 P) (sgL2 P) a) = (true, vX (sgU2 P) (sgL2 P) (((((vX (sgU2 P) (sgL2 P) a) + 1) + 1) + 1) + 1)) := by simp only [vAt_5, vAtom, vNu, hnd, mi12, k7, cond_true, cond_false, vB_t, vB_f, if_true, if_false, eq_self, not_true_eq_false, not_false_eq_true, Int.reduceEq, Int.reduceLT, or_false, false_or, or_true, true_or]
                                  exact sg_iret2 X hr hlk hS trivial (fun t ht hW => (Or.inl ⟨_, spr, vq_pgw pb129 (by decide), (b129).2, sg_post hb hK hC hG hS ht hW⟩)) dX12_atom_157
                                · have j135 := vq_says1 hf131 c132
                                  have k136 : ¬ vC (sgU2 P) (sgL2 P) (((((vX (sgU2 P) (sgL2 P) a) + 1) + 1) + 1) + 1) < (48 : Int) := j135.1
                                  have k137 : ¬ (57 : Int) < vC (sgU2 P) (sgL2 P) (((((vX (sgU2 P) (sgL2 P) a) + 1) + 1) + 1) + 1) := j135.2
                                  refine lv_aload_n X.1 X.2.1 dX12_atom_97 rfl (lv_at hl 3 rfl) ?_
                                  refine gf_X12_11e X hK hG h0 wl_6_189 dX12_atom_98 (fun f138 hf138 => ?_)
                                  refine lv_iconst (v := (-1)) X.1 X.2.1 dX12_atom_101 (by decide +kernel) ?_
                                  refine lv_icmp_ne (tgt := 156) X.1 X.2.1 dX12_atom_102 (by decide) (fun c139 => ?_) (fun c139 => ?_)
                                  · have i140 : (((-1) : Int) = ((-1) : Int)) = False := vq_ne c139 (vq_iv hf138) (by decide +kernel)
                                    exact ((c139 (iv_one hf138 (iv_c (-1) (a := (-1)) (b := (-1)) (by decide +kernel)) (by decide +kernel)))).elim
                                  · have i141 : ((-1) : Int) = ((-1) : Int) := vq_eq c139 (vq_iv hf138) (by decide +kernel)
                                    refine lv_iload_n X.1 X.2.1 dX12_atom_105 rfl (lv_at hl 0 rfl) ?_
                                    refine lv_iconst (v := 4) X.1 X.2.1 dX12_atom_106 (by decide +kernel) ?_
                                    refine lv_icmp_ne (tgt := 117) X.1 X.2.1 dX12_atom_107 (by decide) (fun c142 => ?_) (fun c142 => ?_)
                                    · have i143 : ((((((0 + 1) + 1) + 1) + 1) : Int) = (4 : Int)) = False := vq_ne c142 xy130 (by decide +kernel)
                                      exact ((c142 (iv_one (iv_add (a' := 4) (b' := 4) ey130 (iv_add (a' := 3) (b' := 3) ey102 (iv_add (a' := 2) (b' := 2) ey74 (iv_add (a' := 1) (b' := 1) ey46 (iv_c 0 (a := 0) (b := 0) (by decide +kernel)) (iv_c _ (a := 1) (b := 1) (by decide +kernel)) (by decide +kernel)) (iv_c _ (a := 1) (b := 1) (by decide +kernel)) (by decide +kernel)) (iv_c _ (a := 1) (b := 1) (by decide +kernel)) (by decide +kernel)) (iv_c _ (a := 1) (b := 1) (by decide +kernel)) (by decide +kernel)) (iv_c 4 (a := 4) (b := 4) (by decide +kernel)) (by decide +kernel)))).elim
                                    · have i144 : (((((0 + 1) + 1) + 1) + 1) : Int) = (4 : Int) := vq_eq c142 xy130 (by decide +kernel)
                                      refine lv_aload_n X.1 X.2.1 dX12_atom_110 rfl (lv_at hl 3 rfl) ?_
                                      refine ca_X12_fails_e X hK hG hC hS hb a0 h0 hl0 b129 wl_7_141 hl.1 (rest := []) rfl (Nat.le_of_ble_eq_true rfl) ⟨Nat.le_of_ble_eq_true rfl, Nat.le_of_ble_eq_true rfl⟩ ⟨Nat.le_of_ble_eq_true rfl, Nat.le_of_ble_eq_true rfl⟩ dX12_atom_111 (fun f145 tf145 H locs htf145 hf145 hWf145 hS => ?_)
                                      have hG := hWf145.2.2.2
                                      rw [htf145] at hG
                                      obtain rfl : f145 = 0 := sg_is0 hf145
                                      refine lv_pop X.1 X.2.1 dX12_atom_114 rfl ?_
                                      refine lv_iconst (v := 0) X.1 X.2.1 dX12_atom_115 (by decide +kernel) ?_
                                      have hnd : vNd (sgU2 P) (sgL2 P) 0 9999 4 false 0 (vX (sgU2 P) (sgL2 P) a) = _ := (vNd_more (Int.not_lt.mp k26) (Int.not_lt.mp k27)).trans ((vNd_more (Int.not_lt.mp k52) (Int.not_lt.mp k53)).trans ((vNd_more (Int.not_lt.mp k80) (Int.not_lt.mp k81)).trans ((vNd_more (Int.not_lt.mp k108) (Int.not_lt.mp k109)).trans ((vNd_many (lo := 0) (hi := 9999) (Int.not_lt.mp k136) (Int.not_lt.mp k137))))))
                                      have spr : vAt (sgU2 P) (sgL2 P) 5 (vX (sgU2 P) (sgL2 P) a) = (false, (((((vX (sgU2 P) (sgL2 P) a) + 1) + 1) + 1) + 1)) := by simp only [vAt_5, vAtom, vNu, hnd, mi12, k7, cond_true, cond_false, vB_t, vB_f, if_true, if_false, eq_self, not_true_eq_false, not_false_eq_true, Int.reduceEq, Int.reduceLT, or_false, false_or, or_true, true_or]
                                      have hG := ke_weak (b1 := 0) (b2 := 241) (g1 := (((((vX (sgU2 P) (sgL2 P) a) + 1) + 1) + 1) + 1)) (g2 := (((((vX (sgU2 P) (sgL2 P) a) + 1) + 1) + 1) + 1)) (e1 := 1) (e2 := 6) hG (b129).1 (Int.le_trans (b129).2 (Int.le_trans hl0.2 (by decide))) (Int.le_refl _) (Int.le_refl _) (by decide) (by decide)
                                      exact sg_iret2 X hr hlk hS trivial (fun t ht hW => (Or.inr ⟨_, spr, ((vq_bw b129 hl0)).1, ((vq_bw b129 hl0)).2, sg_post hb hK hC hG hS ht hW⟩)) dX12_atom_116
                              · have i116 : ((((0 + 1) + 1) + 1) : Int) = (4 : Int) := vq_eq c114 xy102 (by decide +kernel)
                                exact ((iv_no (a := 4) (b := 3) (iv_eqm c114 (iv_add (a' := 3) (b' := 3) ey102 (iv_add (a' := 2) (b' := 2) ey74 (iv_add (a' := 1) (b' := 1) ey46 (iv_c 0 (a := 0) (b := 0) (by decide +kernel)) (iv_c _ (a := 1) (b := 1) (by decide +kernel)) (by decide +kernel)) (iv_c _ (a := 1) (b := 1) (by decide +kernel)) (by decide +kernel)) (iv_c _ (a := 1) (b := 1) (by decide +kernel)) (by decide +kernel)) (iv_c 4 (a := 4) (b := 4) (by decide +kernel)) (by decide +kernel)) (by decide +kernel))).elim
                        · have i88 : (((0 + 1) + 1) : Int) = (4 : Int) := vq_eq c86 xy74 (by decide +kernel)
                          exact ((iv_no (a := 4) (b := 2) (iv_eqm c86 (iv_add (a' := 2) (b' := 2) ey74 (iv_add (a' := 1) (b' := 1) ey46 (iv_c 0 (a := 0) (b := 0) (by decide +kernel)) (iv_c _ (a := 1) (b := 1) (by decide +kernel)) (by decide +kernel)) (iv_c _ (a := 1) (b := 1) (by decide +kernel)) (by decide +kernel)) (iv_c 4 (a := 4) (b := 4) (by decide +kernel)) (by decide +kernel)) (by decide +kernel))).elim
                  · have i60 : ((0 + 1) : Int) = (4 : Int) := vq_eq c58 xy46 (by decide +kernel)
                    exact ((iv_no (a := 4) (b := 1) (iv_eqm c58 (iv_add (a' := 1) (b' := 1) ey46 (iv_c 0 (a := 0) (b := 0) (by decide +kernel)) (iv_c _ (a := 1) (b := 1) (by decide +kernel)) (by decide +kernel)) (iv_c 4 (a := 4) (b := 4) (by decide +kernel)) (by decide +kernel)) (by decide +kernel))).elim
            · exact ((iv_no (a := 4) (b := 0) (iv_eqm c32 (iv_c 0 (a := 0) (b := 0) (by decide +kernel)) (iv_c 4 (a := 4) (b := 4) (by decide +kernel)) (by decide +kernel)) (by decide +kernel))).elim
      · have j19 := vq_says0 hf14 c15
        have k20 : vC (sgU2 P) (sgL2 P) (vX (sgU2 P) (sgL2 P) a) < (48 : Int) ∨ (57 : Int) < vC (sgU2 P) (sgL2 P) (vX (sgU2 P) (sgL2 P) a) := j19
        refine lv_aload_n X.1 X.2.1 dX12_atom_81 rfl (lv_at hl 1 rfl) ?_
        refine ca_X12_fails_e X hK hG hC hS hb a0 h0 hl0 b2 wl_7_141 hl.1 (rest := []) rfl (Nat.le_of_ble_eq_true rfl) ⟨Nat.le_of_ble_eq_true rfl, Nat.le_of_ble_eq_true rfl⟩ ⟨Nat.le_of_ble_eq_true rfl, Nat.le_of_ble_eq_true rfl⟩ dX12_atom_82 (fun f146 tf146 H locs htf146 hf146 hWf146 hS => ?_)
        have hG := hWf146.2.2.2
        rw [htf146] at hG
        obtain rfl : f146 = 0 := sg_is0 hf146
        refine lv_pop X.1 X.2.1 dX12_atom_85 rfl ?_
        refine lv_iconst (v := 0) X.1 X.2.1 dX12_atom_86 (by decide +kernel) ?_
        refine lv_istore_n (lv' := [(2, .int 0), (1, .int f1), (0, .ref a0)]) X.1 X.2.1 dX12_atom_87 rfl hl (by decide) rfl (fun ls hl => ?_)
        refine lv_iconst (v := 0) X.1 X.2.1 dX12_atom_88 (by decide +kernel) ?_
        refine lv_istore_n (lv' := [(3, .int 0), (2, .int 0), (1, .int f1), (0, .ref a0)]) X.1 X.2.1 dX12_atom_89 rfl hl (by decide) rfl (fun ls hl => ?_)
        refine lv_aload_n X.1 X.2.1 dX12_atom_90 rfl (lv_at hl 3 rfl) ?_
        refine ca_X12_isDigit_e X hK hG hC (fun _ h => h) hS hb a0 h0 hl0 b2 hby wl_7_187 hl.1 (rest := []) rfl (Nat.le_of_ble_eq_true rfl) ⟨Nat.le_of_ble_eq_true rfl, Nat.le_of_ble_eq_true rfl⟩ ⟨Nat.le_of_ble_eq_true rfl, Nat.le_of_ble_eq_true rfl⟩ dX12_atom_91 (fun f147 locs hf147 hS => ?_)
        refine lv_if_eq (tgt := 156) X.1 X.2.1 dX12_atom_94 (by decide) (fun c148 => ?_) (fun c148 => ?_)
        · have j149 := vq_says0 hf147 c148
          have k150 : vC (sgU2 P) (sgL2 P) (vX (sgU2 P) (sgL2 P) a) < (48 : Int) ∨ (57 : Int) < vC (sgU2 P) (sgL2 P) (vX (sgU2 P) (sgL2 P) a) := j149
          refine lv_iload_n X.1 X.2.1 dX12_atom_156 rfl (lv_at hl 1 rfl) ?_
          have hnd := (vNd_none (lo := 0) (hi := 9999) (v := 0) (k := 4) k150)
          have spr : vAt (sgU2 P) (sgL2 P) 5 (vX (sgU2 P) (sgL2 P) a) = (false, (vX (sgU2 P) (sgL2 P) a)) := by simp only [vAt_5, vAtom, vNu, hnd, mi12, k7, cond_true, cond_false, vB_t, vB_f, if_true, if_false, eq_self, not_true_eq_false, not_false_eq_true, Int.reduceEq, Int.reduceLT, or_false, false_or, or_true, true_or]
          have hG := ke_weak (b1 := 0) (b2 := 241) (g1 := (vX (sgU2 P) (sgL2 P) a)) (g2 := (vX (sgU2 P) (sgL2 P) a)) (e1 := 1) (e2 := 6) hG (b2).1 (Int.le_trans (b2).2 (Int.le_trans hl0.2 (by decide))) (Int.le_refl _) (Int.le_refl _) (by decide) (by decide)
          exact sg_iret2 X hr hlk hS trivial (fun t ht hW => (Or.inr ⟨_, spr, ((vq_bw b2 hl0)).1, ((vq_bw b2 hl0)).2, sg_post hb hK hC hG hS ht hW⟩)) dX12_atom_157
        · have j151 := vq_says1 hf147 c148
          have k152 : ¬ vC (sgU2 P) (sgL2 P) (vX (sgU2 P) (sgL2 P) a) < (48 : Int) := j151.1
          have k153 : ¬ (57 : Int) < vC (sgU2 P) (sgL2 P) (vX (sgU2 P) (sgL2 P) a) := j151.2
          exact absurd k20 (vq_nd ⟨k152, k153⟩)
    · have i13 : vE (vC (sgU2 P) (sgL2 P) (vX (sgU2 P) (sgL2 P) a)) = (91 : Int) := vq_eq c11 xf1 (by decide +kernel)
      have mi13 : vC (sgU2 P) (sgL2 P) (vX (sgU2 P) (sgL2 P) a) = (91 : Int) := vE_eq i13 (by decide)
      refine lv_aload_n X.1 X.2.1 dX12_atom_37 rfl (lv_at hl 1 rfl) ?_
      have l154 := (vC_lt (b := sgU2 P) (n := sgL2 P) (a := (vX (sgU2 P) (sgL2 P) a)) (by rw [mi13]; decide)).2
      refine ca_X12_goesIn_e1 X hK hG hC hS hb a0 h0 hl0 (And.intro (b2).1 l154) wl_8_5 hl.1 (rest := []) rfl (Nat.le_of_ble_eq_true rfl) ⟨Nat.le_of_ble_eq_true rfl, Nat.le_of_ble_eq_true rfl⟩ ⟨Nat.le_of_ble_eq_true rfl, Nat.le_of_ble_eq_true rfl⟩ dX12_atom_38 (fun f155 tf155 H locs htf155 hf155 hWf155 hS => ?_)
      have hG := hWf155.2.2.2
      rw [htf155] at hG
      obtain rfl : f155 = 1 := Int32.toInt_inj.mp (vq_iv hf155)
      have b156 := vq_bd1 b2 l154
      have pb156 : a + 1 ≤ ((vX (sgU2 P) (sgL2 P) a) + 1) := vq_pg pb2 (m := 1) (Int.le_refl _) (by decide)
      refine lv_if_ne (tgt := 46) X.1 X.2.1 dX12_atom_41 (by decide) (fun c157 => ?_) (fun c157 => ?_)
      · refine lv_aload_n X.1 X.2.1 dX12_atom_46 rfl (lv_at hl 1 rfl) ?_
        refine ca_X12_sum_e2 X hK hG hC hS hb a0 h0 hl0 b156 hby wl_7_233 hl.1 (rest := []) rfl (Nat.le_of_ble_eq_true rfl) ⟨Nat.le_of_ble_eq_true rfl, Nat.le_of_ble_eq_true rfl⟩ ⟨Nat.le_of_ble_eq_true rfl, Nat.le_of_ble_eq_true rfl⟩ dX12_atom_47 (fun f158 tf158 H locs htf158 hf158 hWf158 hS => ?_)
        rcases hWf158 with ⟨av159, pv159, gav159, gbv159, hBf158⟩ | ⟨wv159, pv159, w1v159, w2v159, hBf158⟩
        · have hG := hBf158.2.2.2
          rw [htf158] at hG
          have bv159 := vq_bd2 (k := 1) b156 (by decide) gav159 gbv159
          have p2v159 : a + 2 ≤ av159 := vq_pg pb156 gav159 (by decide)
          refine lv_istore_n (lv' := [(2, .int f158), (1, .int f1), (0, .ref a0)]) X.1 X.2.1 dX12_atom_50 rfl hl (by decide) rfl (fun ls hl => ?_)
          refine lv_aload_n X.1 X.2.1 dX12_atom_51 rfl (lv_at hl 2 rfl) ?_
          refine lv_bipush (v := 93) X.1 X.2.1 dX12_atom_52 (by decide +kernel) ?_
          refine ca_X12_takes_e X hK hG hC hS hb a0 h0 93 hl0 bv159 hby (by omega) (show (93 : Int32).toInt = 93 ∧ (0 : Int) < 93 from by decide +kernel) wl_7_217 hl.1 (rest := []) rfl (Nat.le_of_ble_eq_true rfl) ⟨Nat.le_of_ble_eq_true rfl, Nat.le_of_ble_eq_true rfl⟩ ⟨Nat.le_of_ble_eq_true rfl, Nat.le_of_ble_eq_true rfl⟩ dX12_atom_54 (fun f160 tf160 H locs htf160 hf160 hWf160 hS => ?_)
          rcases hWf160 with ⟨rfl, av161, pv161, gav161, gbv161, hBf160⟩ | ⟨rfl, wv161, pv161, w1v161, w2v161, hBf160⟩
          · have hG := hBf160.2.2.2
            rw [htf160] at hG
            have bv161 := vq_bd2 (k := 1) bv159 (by decide) gav161 gbv161
            have p2v161 : a + 3 ≤ av161 := vq_pg p2v159 gav161 (by decide)
            refine lv_if_ne (tgt := 62) X.1 X.2.1 dX12_atom_57 (by decide) (fun c162 => ?_) (fun c162 => ?_)
            · refine lv_aload_n X.1 X.2.1 dX12_atom_62 rfl (lv_at hl 2 rfl) ?_
              refine lv_dup X.1 X.2.1 dX12_atom_63 rfl ?_
              refine gf_X12_12e X hK hG h0 wl_6_190 dX12_atom_64 (fun f163 hf163 => ?_)
              refine lv_iconst (v := 1) X.1 X.2.1 dX12_atom_67 (by decide +kernel) ?_
              refine lv_isub X.1 X.2.1 dX12_atom_68 ?_
              refine lv_topi (fun f164 ef164 => ?_)
              refine pf_X12_12E (b1 := 1) (b2 := 1) X hK hG hS h0 wl_6_190 (iv_sub (a' := 1) (b' := 1) ef164 hf163 (iv_c 1 (a := 1) (b := 1) (by decide +kernel)) (by decide +kernel)) dX12_atom_69 (fun H locs hG hS => ?_)
              refine lv_iload_n X.1 X.2.1 dX12_atom_72 rfl (lv_at hl 0 rfl) ?_
              have spr : vAt (sgU2 P) (sgL2 P) 5 (vX (sgU2 P) (sgL2 P) a) = (true, vX (sgU2 P) (sgL2 P) av161) := by simp only [vAt_5, vAtom, k7, i13, mi13, pv159, pv161, cond_true, cond_false, vB_t, vB_f, if_true, if_false, eq_self, not_true_eq_false, not_false_eq_true, Int.reduceEq, Int.reduceLT, or_false, false_or, or_true, true_or]
              exact sg_iret2 X hr hlk hS trivial (fun t ht hW => (Or.inl ⟨_, spr, vq_pgw p2v161 (by decide), (bv161).2, sg_post hb hK hC hG hS ht hW⟩)) dX12_atom_73
            · exact ((iv_no (a := 1) (b := 0) (iv_eqm c162 (iv_c 1 (a := 1) (b := 1) (by decide +kernel)) (iv_c 0 (a := 0) (b := 0) (by decide +kernel)) (by decide +kernel)) (by decide +kernel))).elim
          · have hG := hBf160.2.2.2
            rw [htf160] at hG
            refine lv_if_ne (tgt := 62) X.1 X.2.1 dX12_atom_57 (by decide) (fun c165 => ?_) (fun c165 => ?_)
            · exact ((c165 (iv_one (iv_c 0 (a := 0) (b := 0) (by decide +kernel)) (iv_c 0 (a := 0) (b := 0) (by decide +kernel)) (by decide +kernel)))).elim
            · refine lv_iconst (v := 0) X.1 X.2.1 dX12_atom_60 (by decide +kernel) ?_
              have spr : vAt (sgU2 P) (sgL2 P) 5 (vX (sgU2 P) (sgL2 P) a) = (false, wv161) := by simp only [vAt_5, vAtom, k7, i13, mi13, pv159, pv161, cond_true, cond_false, vB_t, vB_f, if_true, if_false, eq_self, not_true_eq_false, not_false_eq_true, Int.reduceEq, Int.reduceLT, or_false, false_or, or_true, true_or]
              have hG := ke_weak (b1 := 0) (b2 := 241) (g1 := wv161) (g2 := wv161) (e1 := 1) (e2 := 6) hG (Int.le_refl _) (Int.le_refl _) (Int.le_refl _) (Int.le_refl _) (by decide) (by decide)
              exact sg_iret2 X hr hlk hS trivial (fun t ht hW => (Or.inr ⟨_, spr, ((And.intro w1v161 w2v161)).1, ((And.intro w1v161 w2v161)).2, sg_post hb hK hC hG hS ht hW⟩)) dX12_atom_61
        · have hG := hBf158.2.2.2
          rw [htf158] at hG
          refine lv_istore_n (lv' := [(2, .int f158), (1, .int f1), (0, .ref a0)]) X.1 X.2.1 dX12_atom_50 rfl hl (by decide) rfl (fun ls hl => ?_)
          refine lv_aload_n X.1 X.2.1 dX12_atom_51 rfl (lv_at hl 2 rfl) ?_
          refine lv_bipush (v := 93) X.1 X.2.1 dX12_atom_52 (by decide +kernel) ?_
          refine ca_X12_takes_eb X hK hG hC hS hb a0 h0 93 (And.intro w1v159 w2v159) wl_7_217 hl.1 (rest := []) rfl (Nat.le_of_ble_eq_true rfl) ⟨Nat.le_of_ble_eq_true rfl, Nat.le_of_ble_eq_true rfl⟩ ⟨Nat.le_of_ble_eq_true rfl, Nat.le_of_ble_eq_true rfl⟩ dX12_atom_54 (fun f166 tf166 H locs htf166 hf166 hWf166 hS => ?_)
          have hG := hWf166.2.2.2
          rw [htf166] at hG
          obtain rfl : f166 = 0 := sg_is0 hf166
          refine lv_if_ne (tgt := 62) X.1 X.2.1 dX12_atom_57 (by decide) (fun c167 => ?_) (fun c167 => ?_)
          · exact ((c167 (iv_one (iv_c 0 (a := 0) (b := 0) (by decide +kernel)) (iv_c 0 (a := 0) (b := 0) (by decide +kernel)) (by decide +kernel)))).elim
          · refine lv_iconst (v := 0) X.1 X.2.1 dX12_atom_60 (by decide +kernel) ?_
            have spr : vAt (sgU2 P) (sgL2 P) 5 (vX (sgU2 P) (sgL2 P) a) = (false, wv159) := by simp only [vAt_5, vAtom, k7, i13, mi13, pv159, cond_true, cond_false, vB_t, vB_f, if_true, if_false, eq_self, not_true_eq_false, not_false_eq_true, Int.reduceEq, Int.reduceLT, or_false, false_or, or_true, true_or]
            have hG := ke_weak (b1 := 0) (b2 := 241) (g1 := wv159) (g2 := wv159) (e1 := 1) (e2 := 6) hG (Int.le_refl _) (Int.le_refl _) (Int.le_refl _) (Int.le_refl _) (by decide) (by decide)
            exact sg_iret2 X hr hlk hS trivial (fun t ht hW => (Or.inr ⟨_, spr, ((And.intro w1v159 w2v159)).1, ((And.intro w1v159 w2v159)).2, sg_post hb hK hC hG hS ht hW⟩)) dX12_atom_61
      · exact ((iv_no (a := 1) (b := 0) (iv_eqm c157 (iv_c 1 (a := 1) (b := 1) (by decide +kernel)) (iv_c 0 (a := 0) (b := 0) (by decide +kernel)) (by decide +kernel)) (by decide +kernel))).elim
  · have j8 := vq_says1 hf4 c5
    have k9 : ¬ vLet (vC (sgU2 P) (sgL2 P) (vX (sgU2 P) (sgL2 P) a)) < (0 : Int) := (vLet_E (vC (sgU2 P) (sgL2 P) (vX (sgU2 P) (sgL2 P) a))) ▸ (by have z := j8.1; rw [xf1] at z; exact z)
    have y10 : iv 0 127 f1 := j8.2
    refine lv_aload_n X.1 X.2.1 dX12_atom_14 rfl (lv_at hl 1 rfl) ?_
    refine lv_dup X.1 X.2.1 dX12_atom_15 rfl ?_
    refine gf_X12_10e X hK hG h0 wl_6_188 dX12_atom_16 (fun f168 hf168 => ?_)
    have xf168 : f168.toInt = (vX (sgU2 P) (sgL2 P) a) := vq_iv hf168
    have yf168 : iv 0 240 f168 := vq_240 hl0 b2 xf168
    refine lv_iconst (v := 1) X.1 X.2.1 dX12_atom_19 (by decide +kernel) ?_
    refine lv_iadd X.1 X.2.1 dX12_atom_20 ?_
    refine lv_topi (fun f169 ef169 => ?_)
    have xf169 : f169.toInt = ((vX (sgU2 P) (sgL2 P) a) + 1) := sg_exadd ef169 yf168 (iv_c 1 (a := 1) (b := 1) (by decide +kernel)) (by decide +kernel) xf168 (by decide +kernel)
    refine pf_X12_10E (b1 := ((vX (sgU2 P) (sgL2 P) a) + 1)) (b2 := ((vX (sgU2 P) (sgL2 P) a) + 1)) X hK hG hS h0 wl_6_188 (vq_of (lo := ((vX (sgU2 P) (sgL2 P) a) + 1)) (hi := ((vX (sgU2 P) (sgL2 P) a) + 1)) xf169 ⟨Int.le_refl _, Int.le_refl _⟩) dX12_atom_21 (fun H locs hG hS => ?_)
    have l170 := (vC_lt (b := sgU2 P) (n := sgL2 P) (a := (vX (sgU2 P) (sgL2 P) a)) (vLet_ne k9)).2
    have b171 := vq_bd1 b2 l170
    have pb171 : a + 1 ≤ ((vX (sgU2 P) (sgL2 P) a) + 1) := vq_pg pb2 (m := 1) (Int.le_refl _) (by decide)
    refine lv_aload_n X.1 X.2.1 dX12_atom_24 rfl (lv_at hl 1 rfl) ?_
    refine gf_X12_4e X hK hG h0 wl_6_182 dX12_atom_25 (fun q172 hq172 kq172 => ?_)
    refine lv_iload_n X.1 X.2.1 dX12_atom_28 rfl (lv_at hl 0 rfl) ?_
    refine al_48e X hK hG hq172 (iv_vpin y10 (by decide +kernel)) dX12_atom_29 (fun f173 hf173 => ?_)
    have spr : vAt (sgU2 P) (sgL2 P) 5 (vX (sgU2 P) (sgL2 P) a) = (true, vX (sgU2 P) (sgL2 P) ((vX (sgU2 P) (sgL2 P) a) + 1)) := by simp only [vAt_5, vAtom, vLet_91 k9, k9, cond_true, cond_false, vB_t, vB_f, if_true, if_false, eq_self, not_true_eq_false, not_false_eq_true, Int.reduceEq, Int.reduceLT, or_false, false_or, or_true, true_or]
    exact sg_iret2 X hr hlk hS trivial (fun t ht hW => (Or.inl ⟨_, spr, vq_pgw pb171 (by decide), (b171).2, sg_post hb hK hC hG hS ht hW⟩)) dX12_atom_30

theorem ca_X12_atom_e1  {a : Int} {z : sgZt}  (X : CallFix p m c cc nL s args sg_tbl own) (hK : va_K D vwCl tys s) (hG : sgG (KE a a (-1) (-1) 1 1 z P) D vwCl (fun q : Nat => base ≤ q) tys ad ks H) (hC : sgC base s) (hS : va_S (fun q : Nat => base ≤ q) s.heap H locs) (hb : base ≤ s.heap.size) (a0 : Nat) (h0 : isK ad ks 12 a0) (hl0 : 0 ≤ sgL2 P ∧ sgL2 P ≤ 240) (hav : 0 ≤ a ∧ a ≤ sgL2 P) (hby : sgBy2 P) (hl : Cond.methodLink own index yX12_atom ∈ sg_tbl) (hsize : ls.size = nL) (hst : st0 = [].reverse ++ .ref a0 :: rest) (hW : (rest.map fun v => v.category).sum ≤ 8) (hR : 21 ≤ R.frames ∧ 485 ≤ R.locals) (hf : cells ≤ R.cells ∧ slots ≤ R.slots) (hdg : decode cc pc = .ok (.invokevirtual index, 3)) (kk : ∀ (r : Int32) (t : State) (H1 : Heap) (locs1 : List Loc), t.heap = H1 → (fun r : Int32 => True) r → ((∃ a1 : Int, vAt (sgU2 P) (sgL2 P) 5 (vX (sgU2 P) (sgL2 P) a) = (true, vX (sgU2 P) (sgL2 P) a1) ∧ a + 1 ≤ a1 ∧ a1 ≤ sgL2 P ∧ sgB (KE a1 a1 (-1) (-1) 1 1 z P) D vwCl base tys ad ks t) ∨ (∃ w : Int, vAt (sgU2 P) (sgL2 P) 5 (vX (sgU2 P) (sgL2 P) a) = (false, w) ∧ 0 ≤ w ∧ w ≤ 240 ∧ sgB (KE 0 241 w w 1 6 z P) D vwCl base tys ad ks t)) → va_S (fun q : Nat => base ≤ q) s.heap H1 locs1 → W p l e R s m args below meth c H1 locs1 cells slots Q (F0 m (pc + 3) ls (.int r :: rest))) : W p l e R s m args below meth c H locs cells slots Q (F0 m pc ls st0) :=
  sg_callV2i X hK hG hC hS hb (m_X12_atom_e1 l a0 h0 hl0 hav hby) h0 (k := 12) (ci := 12) rfl (C := RX12) (T := TX12) (N := 53) rfl wl_8_4 wl_1_13 wl_8_3 wl_0_66 (n := 0) (by decide +kernel) rfl rfl rfl hl hsize hst hW hR hf hdg kk

set_option maxHeartbeats 8000000 in
set_option maxRecDepth 100000 in
theorem m_X12_term_e1 (l : Launch) {D : va_G} {base : Nat} {tys : List (ClassId × FieldType)} {ad ks : List Nat} {P : sgPm}{a : Int} {z : sgZt}  (a0 : Nat) (h0 : isK ad ks 12 a0) (hl0 : 0 ≤ sgL2 P ∧ sgL2 P ≤ 240) (hav : 0 ≤ a ∧ a ≤ sgL2 P) (hby : sgBy2 P) : Met l yX12_term (Cond.code yX12_term cX12_term 5 (some .int) :: sg_tbl) ({ frames := 21, cells := 0, slots := 0, locals := 485 }) (va_Pc [.ref a0] (sgB (KE a a (-1) (-1) 1 1 z P) D vwCl base tys ad ks)) (va_Qi (fun r (u : Int32) => u = r ∧ (fun r : Int32 => True) r) (fun u t => (∃ a1 : Int, vTe (sgU2 P) (sgL2 P) 5 (vX (sgU2 P) (sgL2 P) a) = (true, vX (sgU2 P) (sgL2 P) a1) ∧ a + 1 ≤ a1 ∧ a1 ≤ sgL2 P ∧ sgB (KE a1 a1 (-1) (-1) 1 1 z P) D vwCl base tys ad ks t) ∨ (∃ w : Int, vTe (sgU2 P) (sgL2 P) 5 (vX (sgU2 P) (sgL2 P) a) = (false, w) ∧ 0 ≤ w ∧ w ≤ 240 ∧ sgB (KE 0 241 w w 1 6 z P) D vwCl base tys ad ks t)) (fun q : Nat => base ≤ q)) 0 0 (fun q : Nat => base ≤ q) := by
  refine sg_ofW (by decide +kernel) (Nat.le_of_ble_eq_true rfl) (fun p e s m below meth c X hr hlk hb hK hC hG ls hl => ?_)
  have hS : va_S (fun q : Nat => base ≤ q) s.heap s.heap [] := va_S.rf
  have hl : lv_has ls 5 [(0, .ref a0)] := hl
  refine lv_aload_n X.1 X.2.1 dX12_term_0 rfl (lv_at hl 0 rfl) ?_
  refine ca_X12_atom_e1 X hK hG hC hS hb a0 h0 hl0 hav hby wl_8_1 hl.1 (rest := []) rfl (Nat.le_of_ble_eq_true rfl) ⟨Nat.le_of_ble_eq_true rfl, Nat.le_of_ble_eq_true rfl⟩ ⟨Nat.le_of_ble_eq_true rfl, Nat.le_of_ble_eq_true rfl⟩ dX12_term_1 (fun f1 tf1 H locs htf1 hf1 hWf1 hS => ?_)
  rcases hWf1 with ⟨av2, pv2, gav2, gbv2, hBf1⟩ | ⟨wv2, pv2, w1v2, w2v2, hBf1⟩
  · have hG := hBf1.2.2.2
    rw [htf1] at hG
    have bv2 := vq_bd2 (k := 1) hav (by decide) gav2 gbv2
    have p2v2 : a + 1 ≤ av2 := vq_pg (vq_pg0 a) gav2 (by decide)
    refine lv_istore_n (lv' := [(1, .int f1), (0, .ref a0)]) X.1 X.2.1 dX12_term_4 rfl hl (by decide) rfl (fun ls hl => ?_)
    have B3_5 : ∀ (N : Nat) (H : Heap) (locs : List Loc) (ls : Array Slot) (z3_1 : Int32) (a3 : Int), 0 ≤ a3 → a3 ≤ sgL2 P → a + 1 ≤ a3 → sgG (KE a3 a3 (-1) (-1) 1 1 z P) D vwCl (fun q : Nat => base ≤ q) tys ad ks H → va_S (fun q : Nat => base ≤ q) s.heap H locs → lv_has ls 5 [(0, .ref a0), (1, .int z3_1)] → vTe (sgU2 P) (sgL2 P) 5 (vX (sgU2 P) (sgL2 P) a) = vL (vAt (sgU2 P) (sgL2 P) 5) opT (sgU2 P) (sgL2 P) (vX (sgU2 P) (sgL2 P) a3) → (242 - a3).toNat ≤ N → W p l e (headSpec (Cond.code yX12_term cX12_term 5 (some .int) :: sg_tbl) ({ frames := 21, cells := 0, slots := 0, locals := 485 })).room s m #[.ref a0] below meth c H locs 0 0 (MQ below (va_Qi (fun r (u : Int32) => u = r ∧ (fun r : Int32 => True) r) (fun u t => (∃ a1 : Int, vTe (sgU2 P) (sgL2 P) 5 (vX (sgU2 P) (sgL2 P) a) = (true, vX (sgU2 P) (sgL2 P) a1) ∧ a + 1 ≤ a1 ∧ a1 ≤ sgL2 P ∧ sgB (KE a1 a1 (-1) (-1) 1 1 z P) D vwCl base tys ad ks t) ∨ (∃ w : Int, vTe (sgU2 P) (sgL2 P) 5 (vX (sgU2 P) (sgL2 P) a) = (false, w) ∧ 0 ≤ w ∧ w ≤ 240 ∧ sgB (KE 0 241 w w 1 6 z P) D vwCl base tys ad ks t)) (fun q : Nat => base ≤ q)) #[.ref a0] s 0 0 (fun q : Nat => base ≤ q)) (F0 m 5 ls []) := by
      intro N; induction N with
      | zero =>
        intro H locs ls z3_1 a3 jl3 jm3 jk3 hG hS hl xf3 hN
        exact absurd hN (by have := jm3; omega)
      | succ N ih3 =>
        intro H locs ls z3_1 a3 jl3 jm3 jk3 hG hS hl xf3 hN3
        refine lv_aload_n X.1 X.2.1 dX12_term_5 rfl (lv_at hl 0 rfl) ?_
        refine gf_X12_11e X hK hG h0 wl_6_189 dX12_term_6 (fun f4 hf4 => ?_)
        refine lv_iconst (v := (-1)) X.1 X.2.1 dX12_term_9 (by decide +kernel) ?_
        refine lv_icmp_ne (tgt := 94) X.1 X.2.1 dX12_term_10 (by decide) (fun c5 => ?_) (fun c5 => ?_)
        · have i6 : (((-1) : Int) = ((-1) : Int)) = False := vq_ne c5 (vq_iv hf4) (by decide +kernel)
          exact ((c5 (iv_one hf4 (iv_c (-1) (a := (-1)) (b := (-1)) (by decide +kernel)) (by decide +kernel)))).elim
        · have i7 : ((-1) : Int) = ((-1) : Int) := vq_eq c5 (vq_iv hf4) (by decide +kernel)
          refine lv_aload_n X.1 X.2.1 dX12_term_13 rfl (lv_at hl 0 rfl) ?_
          refine ca_X12_look_e X hK hG hC hS hb a0 h0 hl0 (And.intro jl3 jm3) hby wl_7_137 hl.1 (rest := []) rfl (Nat.le_of_ble_eq_true rfl) ⟨Nat.le_of_ble_eq_true rfl, Nat.le_of_ble_eq_true rfl⟩ ⟨Nat.le_of_ble_eq_true rfl, Nat.le_of_ble_eq_true rfl⟩ dX12_term_14 (fun f8 tf8 H locs htf8 hf8 hWf8 hS => ?_)
          have hBf8 := hWf8.2
          have xf8 := hWf8.1
          have hG := hBf8.2.2.2
          rw [htf8] at hG
          have b9 := vq_bdL (b := sgU2 P) (And.intro jl3 jm3)
          have eb9 : a3 ≤ vX (sgU2 P) (sgL2 P) a3 := (vX_ge (sgU2 P) (sgL2 P) a3).1
          have pb9 : a + 1 ≤ vX (sgU2 P) (sgL2 P) a3 := Int.le_trans jk3 (vX_ge (sgU2 P) (sgL2 P) a3).1
          have yf8 : iv (-1) 255 f8 := vq_lk xf8 (vC_by2 hby _)
          refine lv_bipush (v := 42) X.1 X.2.1 dX12_term_17 (by decide +kernel) ?_
          refine lv_icmp_eq (tgt := 31) X.1 X.2.1 dX12_term_19 (by decide) (fun c10 => ?_) (fun c10 => ?_)
          · have i11 : vE (vC (sgU2 P) (sgL2 P) (vX (sgU2 P) (sgL2 P) a3)) = (42 : Int) := vq_eq c10 xf8 (by decide +kernel)
            have mi11 : vC (sgU2 P) (sgL2 P) (vX (sgU2 P) (sgL2 P) a3) = (42 : Int) := vE_eq i11 (by decide)
            refine lv_aload_n X.1 X.2.1 dX12_term_31 rfl (lv_at hl 0 rfl) ?_
            refine ca_X12_look_e X hK hG hC hS hb a0 h0 hl0 b9 hby wl_7_137 hl.1 (rest := []) rfl (Nat.le_of_ble_eq_true rfl) ⟨Nat.le_of_ble_eq_true rfl, Nat.le_of_ble_eq_true rfl⟩ ⟨Nat.le_of_ble_eq_true rfl, Nat.le_of_ble_eq_true rfl⟩ dX12_term_32 (fun f13 tf13 H locs htf13 hf13 hWf13 hS => ?_)
            have hBf13 := hWf13.2
            have xf13 := hWf13.1
            have hG := hBf13.2.2.2
            rw [htf13] at hG
            rw [vX_idem] at hG xf13
            have yf13 : iv (-1) 255 f13 := vq_lk xf13 (vC_by2 hby _)
            refine lv_bipush (v := 42) X.1 X.2.1 dX12_term_35 (by decide +kernel) ?_
            refine lv_icmp_ne (tgt := 44) X.1 X.2.1 dX12_term_37 (by decide) (fun c14 => ?_) (fun c14 => ?_)
            · have i15 : (vE (vC (sgU2 P) (sgL2 P) (vX (sgU2 P) (sgL2 P) a3)) = (42 : Int)) = False := vq_ne c14 xf13 (by decide +kernel)
              have mi15 : (vC (sgU2 P) (sgL2 P) (vX (sgU2 P) (sgL2 P) a3) = (42 : Int)) = False := vE_ne i15 (by decide)
              refine lv_iconst (v := 0) X.1 X.2.1 dX12_term_44 (by decide +kernel) ?_
              refine lv_istore_n (lv' := [(2, .int 0), (0, .ref a0), (1, .int z3_1)]) X.1 X.2.1 dX12_term_45 rfl hl (by decide) rfl (fun ls hl => ?_)
              refine lv_aload_n X.1 X.2.1 dX12_term_46 rfl (lv_at hl 1 rfl) ?_
              refine lv_dup X.1 X.2.1 dX12_term_47 rfl ?_
              refine gf_X12_10e X hK hG h0 wl_6_188 dX12_term_48 (fun f17 hf17 => ?_)
              have xf17 : f17.toInt = (vX (sgU2 P) (sgL2 P) a3) := vq_iv hf17
              have yf17 : iv 0 240 f17 := vq_240 hl0 b9 xf17
              refine lv_iconst (v := 1) X.1 X.2.1 dX12_term_51 (by decide +kernel) ?_
              refine lv_iadd X.1 X.2.1 dX12_term_52 ?_
              refine lv_topi (fun f18 ef18 => ?_)
              have xf18 : f18.toInt = ((vX (sgU2 P) (sgL2 P) a3) + 1) := sg_exadd ef18 yf17 (iv_c 1 (a := 1) (b := 1) (by decide +kernel)) (by decide +kernel) xf17 (by decide +kernel)
              refine pf_X12_10E (b1 := ((vX (sgU2 P) (sgL2 P) a3) + 1)) (b2 := ((vX (sgU2 P) (sgL2 P) a3) + 1)) X hK hG hS h0 wl_6_188 (vq_of (lo := ((vX (sgU2 P) (sgL2 P) a3) + 1)) (hi := ((vX (sgU2 P) (sgL2 P) a3) + 1)) xf18 ⟨Int.le_refl _, Int.le_refl _⟩) dX12_term_53 (fun H locs hG hS => ?_)
              have l19 := (vC_lt (b := sgU2 P) (n := sgL2 P) (a := (vX (sgU2 P) (sgL2 P) a3)) (by rw [mi11]; decide)).2
              have b20 := vq_bd1 b9 l19
              have pb20 : a + 2 ≤ ((vX (sgU2 P) (sgL2 P) a3) + 1) := vq_pg pb9 (m := 1) (Int.le_refl _) (by decide)
              refine lv_aload_n X.1 X.2.1 dX12_term_56 rfl (lv_at hl 1 rfl) ?_
              refine ca_X12_atom_e1 X hK hG hC hS hb a0 h0 hl0 b20 hby wl_8_1 hl.1 (rest := []) rfl (Nat.le_of_ble_eq_true rfl) ⟨Nat.le_of_ble_eq_true rfl, Nat.le_of_ble_eq_true rfl⟩ ⟨Nat.le_of_ble_eq_true rfl, Nat.le_of_ble_eq_true rfl⟩ dX12_term_57 (fun f21 tf21 H locs htf21 hf21 hWf21 hS => ?_)
              rcases hWf21 with ⟨av22, pv22, gav22, gbv22, hBf21⟩ | ⟨wv22, pv22, w1v22, w2v22, hBf21⟩
              · have hG := hBf21.2.2.2
                rw [htf21] at hG
                have bv22 := vq_bd2 (k := 1) b20 (by decide) gav22 gbv22
                have p2v22 : a + 3 ≤ av22 := vq_pg pb20 gav22 (by decide)
                obtain ⟨g23, eg23⟩ : ∃ y : Int64, y = (f21 : Int32).toInt64 := ⟨_, rfl⟩
                refine lv_i2l (v := g23) X.1 X.2.1 dX12_term_60 eg23.symm ?_
                refine lv_lstore_n (lv' := [(3, .long g23), (2, .int 0), (0, .ref a0), (1, .int z3_1)]) X.1 X.2.1 dX12_term_61 rfl hl (by decide) rfl (fun ls hl => ?_)
                refine lv_iload_n X.1 X.2.1 dX12_term_62 rfl (lv_at hl 1 rfl) ?_
                refine lv_if_eq (tgt := 73) X.1 X.2.1 dX12_term_63 (by decide) (fun c24 => ?_) (fun c24 => ?_)
                · refine lv_lload_n X.1 X.2.1 dX12_term_73 rfl (lv_at hl 0 rfl) ?_
                  refine lv_lconst (v := 0) X.1 X.2.1 dX12_term_74 (by decide +kernel) ?_
                  refine W.lcmp X.1 X.2.1 dX12_term_75 ?_
                  refine lv_topi (fun f25 ef25 => ?_)
                  refine lv_if_ne (tgt := 83) X.1 X.2.1 dX12_term_76 (by decide) (fun c26 => ?_) (fun c26 => ?_)
                  · refine lv_iload_n X.1 X.2.1 dX12_term_83 rfl (lv_at hl 3 rfl) ?_
                    obtain ⟨g27, eg27⟩ : ∃ y : Int64, y = (z3_1 : Int32).toInt64 := ⟨_, rfl⟩
                    refine lv_i2l (v := g27) X.1 X.2.1 dX12_term_84 eg27.symm ?_
                    refine lv_lload_n X.1 X.2.1 dX12_term_85 rfl (lv_at hl 0 rfl) ?_
                    refine lv_ldiv X.1 X.2.1 dX12_term_86 (sg_lcmp0 ef25 c26) ?_
                    refine lv_topl (fun g28 eg28 => ?_)
                    refine ca_X12_within X hK (ke_toKT hG (by decide) (by decide) (by decide) (by decide)) hC (fun _ h => h) hS hb g28 wl_8_9 hl.1 (rest := []) rfl (Nat.le_of_ble_eq_true rfl) ⟨Nat.le_of_ble_eq_true rfl, Nat.le_of_ble_eq_true rfl⟩ ⟨Nat.le_of_ble_eq_true rfl, Nat.le_of_ble_eq_true rfl⟩ dX12_term_87 (fun f29 locs hf29 hS => ?_)
                    refine lv_istore_n (lv' := [(1, .int f29), (3, .long g23), (2, .int 0), (0, .ref a0)]) X.1 X.2.1 dX12_term_90 rfl hl (by decide) rfl (fun ls hl => ?_)
                    refine lv_goto (tgt := 5) X.1 X.2.1 dX12_term_91 (by decide) ?_
                    exact ih3 H _ _ f29 (av22) (bv22).1 (bv22).2 (vq_pgw p2v22 (by decide)) hG hS (lv_sub hl [3, 0] rfl) (xf3.trans (vL_step (opT_42 mi11) pv22 (vq_l2 gav22 (vX_ge (sgU2 P) (sgL2 P) av22).1) (vC_lt (b := sgU2 P) (n := sgL2 P) (by rw [mi11]; decide)).2)) (by omega)
                  · refine lv_lconst (v := 0) X.1 X.2.1 dX12_term_79 (by decide +kernel) ?_
                    refine lv_goto (tgt := 87) X.1 X.2.1 dX12_term_80 (by decide) ?_
                    refine ca_X12_within X hK (ke_toKT hG (by decide) (by decide) (by decide) (by decide)) hC (fun _ h => h) hS hb 0 wl_8_9 hl.1 (rest := []) rfl (Nat.le_of_ble_eq_true rfl) ⟨Nat.le_of_ble_eq_true rfl, Nat.le_of_ble_eq_true rfl⟩ ⟨Nat.le_of_ble_eq_true rfl, Nat.le_of_ble_eq_true rfl⟩ dX12_term_87 (fun f30 locs hf30 hS => ?_)
                    refine lv_istore_n (lv' := [(1, .int f30), (3, .long g23), (2, .int 0), (0, .ref a0)]) X.1 X.2.1 dX12_term_90 rfl hl (by decide) rfl (fun ls hl => ?_)
                    refine lv_goto (tgt := 5) X.1 X.2.1 dX12_term_91 (by decide) ?_
                    exact ih3 H _ _ f30 (av22) (bv22).1 (bv22).2 (vq_pgw p2v22 (by decide)) hG hS (lv_sub hl [3, 0] rfl) (xf3.trans (vL_step (opT_42 mi11) pv22 (vq_l2 gav22 (vX_ge (sgU2 P) (sgL2 P) av22).1) (vC_lt (b := sgU2 P) (n := sgL2 P) (by rw [mi11]; decide)).2)) (by omega)
                · exact ((c24 (iv_one (iv_c 0 (a := 0) (b := 0) (by decide +kernel)) (iv_c 0 (a := 0) (b := 0) (by decide +kernel)) (by decide +kernel)))).elim
              · have hG := hBf21.2.2.2
                rw [htf21] at hG
                obtain ⟨g31, eg31⟩ : ∃ y : Int64, y = (f21 : Int32).toInt64 := ⟨_, rfl⟩
                refine lv_i2l (v := g31) X.1 X.2.1 dX12_term_60 eg31.symm ?_
                refine lv_lstore_n (lv' := [(3, .long g31), (2, .int 0), (0, .ref a0), (1, .int z3_1)]) X.1 X.2.1 dX12_term_61 rfl hl (by decide) rfl (fun ls hl => ?_)
                refine lv_iload_n X.1 X.2.1 dX12_term_62 rfl (lv_at hl 1 rfl) ?_
                refine lv_if_eq (tgt := 73) X.1 X.2.1 dX12_term_63 (by decide) (fun c32 => ?_) (fun c32 => ?_)
                · refine lv_lload_n X.1 X.2.1 dX12_term_73 rfl (lv_at hl 0 rfl) ?_
                  refine lv_lconst (v := 0) X.1 X.2.1 dX12_term_74 (by decide +kernel) ?_
                  refine W.lcmp X.1 X.2.1 dX12_term_75 ?_
                  refine lv_topi (fun f33 ef33 => ?_)
                  refine lv_if_ne (tgt := 83) X.1 X.2.1 dX12_term_76 (by decide) (fun c34 => ?_) (fun c34 => ?_)
                  · refine lv_iload_n X.1 X.2.1 dX12_term_83 rfl (lv_at hl 3 rfl) ?_
                    obtain ⟨g35, eg35⟩ : ∃ y : Int64, y = (z3_1 : Int32).toInt64 := ⟨_, rfl⟩
                    refine lv_i2l (v := g35) X.1 X.2.1 dX12_term_84 eg35.symm ?_
                    refine lv_lload_n X.1 X.2.1 dX12_term_85 rfl (lv_at hl 0 rfl) ?_
                    refine lv_ldiv X.1 X.2.1 dX12_term_86 (sg_lcmp0 ef33 c34) ?_
                    refine lv_topl (fun g36 eg36 => ?_)
                    refine ca_X12_within X hK (ke_toKT hG (vq_bwlo (And.intro w1v22 w2v22)) (vq_bwhi (And.intro w1v22 w2v22)) (by decide) (by decide)) hC (fun _ h => h) hS hb g36 wl_8_9 hl.1 (rest := []) rfl (Nat.le_of_ble_eq_true rfl) ⟨Nat.le_of_ble_eq_true rfl, Nat.le_of_ble_eq_true rfl⟩ ⟨Nat.le_of_ble_eq_true rfl, Nat.le_of_ble_eq_true rfl⟩ dX12_term_87 (fun f37 locs hf37 hS => ?_)
                    refine lv_istore_n (lv' := [(1, .int f37), (3, .long g31), (2, .int 0), (0, .ref a0)]) X.1 X.2.1 dX12_term_90 rfl hl (by decide) rfl (fun ls hl => ?_)
                    refine lv_goto (tgt := 5) X.1 X.2.1 dX12_term_91 (by decide) ?_
                    refine lv_aload_n X.1 X.2.1 dX12_term_5 rfl (lv_at hl 3 rfl) ?_
                    refine gf_X12_11e X hK hG h0 wl_6_189 dX12_term_6 (fun f38 hf38 => ?_)
                    have xf38 : f38.toInt = wv22 := vq_iv hf38
                    have yf38 : iv 0 240 f38 := vq_of xf38 (And.intro w1v22 w2v22)
                    refine lv_iconst (v := (-1)) X.1 X.2.1 dX12_term_9 (by decide +kernel) ?_
                    refine lv_icmp_ne (tgt := 94) X.1 X.2.1 dX12_term_10 (by decide) (fun c39 => ?_) (fun c39 => ?_)
                    · have i40 : (wv22 = ((-1) : Int)) = False := vq_ne c39 xf38 (by decide +kernel)
                      refine lv_iload_n X.1 X.2.1 dX12_term_94 rfl (lv_at hl 0 rfl) ?_
                      have spr : vTe (sgU2 P) (sgL2 P) 5 (vX (sgU2 P) (sgL2 P) a) = (false, wv22) := by exact xf3.trans (vL_bad (opT_42 mi11) pv22)
                      have hG := ke_weak (b1 := 0) (b2 := 241) (g1 := wv22) (g2 := wv22) (e1 := 1) (e2 := 6) hG (Int.le_refl _) (Int.le_refl _) (Int.le_refl _) (Int.le_refl _) (by decide) (by decide)
                      exact sg_iret2 X hr hlk hS trivial (fun t ht hW => (Or.inr ⟨_, spr, ((And.intro w1v22 w2v22)).1, ((And.intro w1v22 w2v22)).2, sg_post hb hK hC hG hS ht hW⟩)) dX12_term_95
                    · have i41 : wv22 = ((-1) : Int) := vq_eq c39 xf38 (by decide +kernel)
                      exact ((iv_no (a := 0) (b := (-1)) (iv_eqm c39 yf38 (iv_c (-1) (a := (-1)) (b := (-1)) (by decide +kernel)) (by decide +kernel)) (by decide +kernel))).elim
                  · refine lv_lconst (v := 0) X.1 X.2.1 dX12_term_79 (by decide +kernel) ?_
                    refine lv_goto (tgt := 87) X.1 X.2.1 dX12_term_80 (by decide) ?_
                    refine ca_X12_within X hK (ke_toKT hG (vq_bwlo (And.intro w1v22 w2v22)) (vq_bwhi (And.intro w1v22 w2v22)) (by decide) (by decide)) hC (fun _ h => h) hS hb 0 wl_8_9 hl.1 (rest := []) rfl (Nat.le_of_ble_eq_true rfl) ⟨Nat.le_of_ble_eq_true rfl, Nat.le_of_ble_eq_true rfl⟩ ⟨Nat.le_of_ble_eq_true rfl, Nat.le_of_ble_eq_true rfl⟩ dX12_term_87 (fun f42 locs hf42 hS => ?_)
                    refine lv_istore_n (lv' := [(1, .int f42), (3, .long g31), (2, .int 0), (0, .ref a0)]) X.1 X.2.1 dX12_term_90 rfl hl (by decide) rfl (fun ls hl => ?_)
                    refine lv_goto (tgt := 5) X.1 X.2.1 dX12_term_91 (by decide) ?_
                    refine lv_aload_n X.1 X.2.1 dX12_term_5 rfl (lv_at hl 3 rfl) ?_
                    refine gf_X12_11e X hK hG h0 wl_6_189 dX12_term_6 (fun f43 hf43 => ?_)
                    have xf43 : f43.toInt = wv22 := vq_iv hf43
                    have yf43 : iv 0 240 f43 := vq_of xf43 (And.intro w1v22 w2v22)
                    refine lv_iconst (v := (-1)) X.1 X.2.1 dX12_term_9 (by decide +kernel) ?_
                    refine lv_icmp_ne (tgt := 94) X.1 X.2.1 dX12_term_10 (by decide) (fun c44 => ?_) (fun c44 => ?_)
                    · have i45 : (wv22 = ((-1) : Int)) = False := vq_ne c44 xf43 (by decide +kernel)
                      refine lv_iload_n X.1 X.2.1 dX12_term_94 rfl (lv_at hl 0 rfl) ?_
                      have spr : vTe (sgU2 P) (sgL2 P) 5 (vX (sgU2 P) (sgL2 P) a) = (false, wv22) := by exact xf3.trans (vL_bad (opT_42 mi11) pv22)
                      have hG := ke_weak (b1 := 0) (b2 := 241) (g1 := wv22) (g2 := wv22) (e1 := 1) (e2 := 6) hG (Int.le_refl _) (Int.le_refl _) (Int.le_refl _) (Int.le_refl _) (by decide) (by decide)
                      exact sg_iret2 X hr hlk hS trivial (fun t ht hW => (Or.inr ⟨_, spr, ((And.intro w1v22 w2v22)).1, ((And.intro w1v22 w2v22)).2, sg_post hb hK hC hG hS ht hW⟩)) dX12_term_95
                    · have i46 : wv22 = ((-1) : Int) := vq_eq c44 xf43 (by decide +kernel)
                      exact ((iv_no (a := 0) (b := (-1)) (iv_eqm c44 yf43 (iv_c (-1) (a := (-1)) (b := (-1)) (by decide +kernel)) (by decide +kernel)) (by decide +kernel))).elim
                · exact ((c32 (iv_one (iv_c 0 (a := 0) (b := 0) (by decide +kernel)) (iv_c 0 (a := 0) (b := 0) (by decide +kernel)) (by decide +kernel)))).elim
            · have i16 : vE (vC (sgU2 P) (sgL2 P) (vX (sgU2 P) (sgL2 P) a3)) = (42 : Int) := vq_eq c14 xf13 (by decide +kernel)
              have mi16 : vC (sgU2 P) (sgL2 P) (vX (sgU2 P) (sgL2 P) a3) = (42 : Int) := vE_eq i16 (by decide)
              refine lv_iconst (v := 1) X.1 X.2.1 dX12_term_40 (by decide +kernel) ?_
              refine lv_goto (tgt := 45) X.1 X.2.1 dX12_term_41 (by decide) ?_
              refine lv_istore_n (lv' := [(2, .int 1), (0, .ref a0), (1, .int z3_1)]) X.1 X.2.1 dX12_term_45 rfl hl (by decide) rfl (fun ls hl => ?_)
              refine lv_aload_n X.1 X.2.1 dX12_term_46 rfl (lv_at hl 1 rfl) ?_
              refine lv_dup X.1 X.2.1 dX12_term_47 rfl ?_
              refine gf_X12_10e X hK hG h0 wl_6_188 dX12_term_48 (fun f47 hf47 => ?_)
              have xf47 : f47.toInt = (vX (sgU2 P) (sgL2 P) a3) := vq_iv hf47
              have yf47 : iv 0 240 f47 := vq_240 hl0 b9 xf47
              refine lv_iconst (v := 1) X.1 X.2.1 dX12_term_51 (by decide +kernel) ?_
              refine lv_iadd X.1 X.2.1 dX12_term_52 ?_
              refine lv_topi (fun f48 ef48 => ?_)
              have xf48 : f48.toInt = ((vX (sgU2 P) (sgL2 P) a3) + 1) := sg_exadd ef48 yf47 (iv_c 1 (a := 1) (b := 1) (by decide +kernel)) (by decide +kernel) xf47 (by decide +kernel)
              refine pf_X12_10E (b1 := ((vX (sgU2 P) (sgL2 P) a3) + 1)) (b2 := ((vX (sgU2 P) (sgL2 P) a3) + 1)) X hK hG hS h0 wl_6_188 (vq_of (lo := ((vX (sgU2 P) (sgL2 P) a3) + 1)) (hi := ((vX (sgU2 P) (sgL2 P) a3) + 1)) xf48 ⟨Int.le_refl _, Int.le_refl _⟩) dX12_term_53 (fun H locs hG hS => ?_)
              have l49 := (vC_lt (b := sgU2 P) (n := sgL2 P) (a := (vX (sgU2 P) (sgL2 P) a3)) (by rw [mi16]; decide)).2
              have b50 := vq_bd1 b9 l49
              have pb50 : a + 2 ≤ ((vX (sgU2 P) (sgL2 P) a3) + 1) := vq_pg pb9 (m := 1) (Int.le_refl _) (by decide)
              refine lv_aload_n X.1 X.2.1 dX12_term_56 rfl (lv_at hl 1 rfl) ?_
              refine ca_X12_atom_e1 X hK hG hC hS hb a0 h0 hl0 b50 hby wl_8_1 hl.1 (rest := []) rfl (Nat.le_of_ble_eq_true rfl) ⟨Nat.le_of_ble_eq_true rfl, Nat.le_of_ble_eq_true rfl⟩ ⟨Nat.le_of_ble_eq_true rfl, Nat.le_of_ble_eq_true rfl⟩ dX12_term_57 (fun f51 tf51 H locs htf51 hf51 hWf51 hS => ?_)
              rcases hWf51 with ⟨av52, pv52, gav52, gbv52, hBf51⟩ | ⟨wv52, pv52, w1v52, w2v52, hBf51⟩
              · have hG := hBf51.2.2.2
                rw [htf51] at hG
                have bv52 := vq_bd2 (k := 1) b50 (by decide) gav52 gbv52
                have p2v52 : a + 3 ≤ av52 := vq_pg pb50 gav52 (by decide)
                obtain ⟨g53, eg53⟩ : ∃ y : Int64, y = (f51 : Int32).toInt64 := ⟨_, rfl⟩
                refine lv_i2l (v := g53) X.1 X.2.1 dX12_term_60 eg53.symm ?_
                refine lv_lstore_n (lv' := [(3, .long g53), (2, .int 1), (0, .ref a0), (1, .int z3_1)]) X.1 X.2.1 dX12_term_61 rfl hl (by decide) rfl (fun ls hl => ?_)
                refine lv_iload_n X.1 X.2.1 dX12_term_62 rfl (lv_at hl 1 rfl) ?_
                refine lv_if_eq (tgt := 73) X.1 X.2.1 dX12_term_63 (by decide) (fun c54 => ?_) (fun c54 => ?_)
                · exact ((iv_no (a := 1) (b := 0) (iv_eqm c54 (iv_c 1 (a := 1) (b := 1) (by decide +kernel)) (iv_c 0 (a := 0) (b := 0) (by decide +kernel)) (by decide +kernel)) (by decide +kernel))).elim
                · refine lv_iload_n X.1 X.2.1 dX12_term_66 rfl (lv_at hl 3 rfl) ?_
                  obtain ⟨g55, eg55⟩ : ∃ y : Int64, y = (z3_1 : Int32).toInt64 := ⟨_, rfl⟩
                  refine lv_i2l (v := g55) X.1 X.2.1 dX12_term_67 eg55.symm ?_
                  refine lv_lload_n X.1 X.2.1 dX12_term_68 rfl (lv_at hl 0 rfl) ?_
                  refine lv_lmul X.1 X.2.1 dX12_term_69 ?_
                  refine lv_topl (fun g56 eg56 => ?_)
                  refine lv_goto (tgt := 87) X.1 X.2.1 dX12_term_70 (by decide) ?_
                  refine ca_X12_within X hK (ke_toKT hG (by decide) (by decide) (by decide) (by decide)) hC (fun _ h => h) hS hb g56 wl_8_9 hl.1 (rest := []) rfl (Nat.le_of_ble_eq_true rfl) ⟨Nat.le_of_ble_eq_true rfl, Nat.le_of_ble_eq_true rfl⟩ ⟨Nat.le_of_ble_eq_true rfl, Nat.le_of_ble_eq_true rfl⟩ dX12_term_87 (fun f57 locs hf57 hS => ?_)
                  refine lv_istore_n (lv' := [(1, .int f57), (3, .long g53), (2, .int 1), (0, .ref a0)]) X.1 X.2.1 dX12_term_90 rfl hl (by decide) rfl (fun ls hl => ?_)
                  refine lv_goto (tgt := 5) X.1 X.2.1 dX12_term_91 (by decide) ?_
                  exact ih3 H _ _ f57 (av52) (bv52).1 (bv52).2 (vq_pgw p2v52 (by decide)) hG hS (lv_sub hl [3, 0] rfl) (xf3.trans (vL_step (opT_42 mi16) pv52 (vq_l2 gav52 (vX_ge (sgU2 P) (sgL2 P) av52).1) (vC_lt (b := sgU2 P) (n := sgL2 P) (by rw [mi16]; decide)).2)) (by omega)
              · have hG := hBf51.2.2.2
                rw [htf51] at hG
                obtain ⟨g58, eg58⟩ : ∃ y : Int64, y = (f51 : Int32).toInt64 := ⟨_, rfl⟩
                refine lv_i2l (v := g58) X.1 X.2.1 dX12_term_60 eg58.symm ?_
                refine lv_lstore_n (lv' := [(3, .long g58), (2, .int 1), (0, .ref a0), (1, .int z3_1)]) X.1 X.2.1 dX12_term_61 rfl hl (by decide) rfl (fun ls hl => ?_)
                refine lv_iload_n X.1 X.2.1 dX12_term_62 rfl (lv_at hl 1 rfl) ?_
                refine lv_if_eq (tgt := 73) X.1 X.2.1 dX12_term_63 (by decide) (fun c59 => ?_) (fun c59 => ?_)
                · exact ((iv_no (a := 1) (b := 0) (iv_eqm c59 (iv_c 1 (a := 1) (b := 1) (by decide +kernel)) (iv_c 0 (a := 0) (b := 0) (by decide +kernel)) (by decide +kernel)) (by decide +kernel))).elim
                · refine lv_iload_n X.1 X.2.1 dX12_term_66 rfl (lv_at hl 3 rfl) ?_
                  obtain ⟨g60, eg60⟩ : ∃ y : Int64, y = (z3_1 : Int32).toInt64 := ⟨_, rfl⟩
                  refine lv_i2l (v := g60) X.1 X.2.1 dX12_term_67 eg60.symm ?_
                  refine lv_lload_n X.1 X.2.1 dX12_term_68 rfl (lv_at hl 0 rfl) ?_
                  refine lv_lmul X.1 X.2.1 dX12_term_69 ?_
                  refine lv_topl (fun g61 eg61 => ?_)
                  refine lv_goto (tgt := 87) X.1 X.2.1 dX12_term_70 (by decide) ?_
                  refine ca_X12_within X hK (ke_toKT hG (vq_bwlo (And.intro w1v52 w2v52)) (vq_bwhi (And.intro w1v52 w2v52)) (by decide) (by decide)) hC (fun _ h => h) hS hb g61 wl_8_9 hl.1 (rest := []) rfl (Nat.le_of_ble_eq_true rfl) ⟨Nat.le_of_ble_eq_true rfl, Nat.le_of_ble_eq_true rfl⟩ ⟨Nat.le_of_ble_eq_true rfl, Nat.le_of_ble_eq_true rfl⟩ dX12_term_87 (fun f62 locs hf62 hS => ?_)
                  refine lv_istore_n (lv' := [(1, .int f62), (3, .long g58), (2, .int 1), (0, .ref a0)]) X.1 X.2.1 dX12_term_90 rfl hl (by decide) rfl (fun ls hl => ?_)
                  refine lv_goto (tgt := 5) X.1 X.2.1 dX12_term_91 (by decide) ?_
                  refine lv_aload_n X.1 X.2.1 dX12_term_5 rfl (lv_at hl 3 rfl) ?_
                  refine gf_X12_11e X hK hG h0 wl_6_189 dX12_term_6 (fun f63 hf63 => ?_)
                  have xf63 : f63.toInt = wv52 := vq_iv hf63
                  have yf63 : iv 0 240 f63 := vq_of xf63 (And.intro w1v52 w2v52)
                  refine lv_iconst (v := (-1)) X.1 X.2.1 dX12_term_9 (by decide +kernel) ?_
                  refine lv_icmp_ne (tgt := 94) X.1 X.2.1 dX12_term_10 (by decide) (fun c64 => ?_) (fun c64 => ?_)
                  · have i65 : (wv52 = ((-1) : Int)) = False := vq_ne c64 xf63 (by decide +kernel)
                    refine lv_iload_n X.1 X.2.1 dX12_term_94 rfl (lv_at hl 0 rfl) ?_
                    have spr : vTe (sgU2 P) (sgL2 P) 5 (vX (sgU2 P) (sgL2 P) a) = (false, wv52) := by exact xf3.trans (vL_bad (opT_42 mi16) pv52)
                    have hG := ke_weak (b1 := 0) (b2 := 241) (g1 := wv52) (g2 := wv52) (e1 := 1) (e2 := 6) hG (Int.le_refl _) (Int.le_refl _) (Int.le_refl _) (Int.le_refl _) (by decide) (by decide)
                    exact sg_iret2 X hr hlk hS trivial (fun t ht hW => (Or.inr ⟨_, spr, ((And.intro w1v52 w2v52)).1, ((And.intro w1v52 w2v52)).2, sg_post hb hK hC hG hS ht hW⟩)) dX12_term_95
                  · have i66 : wv52 = ((-1) : Int) := vq_eq c64 xf63 (by decide +kernel)
                    exact ((iv_no (a := 0) (b := (-1)) (iv_eqm c64 yf63 (iv_c (-1) (a := (-1)) (b := (-1)) (by decide +kernel)) (by decide +kernel)) (by decide +kernel))).elim
          · have i12 : (vE (vC (sgU2 P) (sgL2 P) (vX (sgU2 P) (sgL2 P) a3)) = (42 : Int)) = False := vq_ne c10 xf8 (by decide +kernel)
            have mi12 : (vC (sgU2 P) (sgL2 P) (vX (sgU2 P) (sgL2 P) a3) = (42 : Int)) = False := vE_ne i12 (by decide)
            refine lv_aload_n X.1 X.2.1 dX12_term_22 rfl (lv_at hl 0 rfl) ?_
            refine ca_X12_look_e X hK hG hC hS hb a0 h0 hl0 b9 hby wl_7_137 hl.1 (rest := []) rfl (Nat.le_of_ble_eq_true rfl) ⟨Nat.le_of_ble_eq_true rfl, Nat.le_of_ble_eq_true rfl⟩ ⟨Nat.le_of_ble_eq_true rfl, Nat.le_of_ble_eq_true rfl⟩ dX12_term_23 (fun f67 tf67 H locs htf67 hf67 hWf67 hS => ?_)
            have hBf67 := hWf67.2
            have xf67 := hWf67.1
            have hG := hBf67.2.2.2
            rw [htf67] at hG
            rw [vX_idem] at hG xf67
            have yf67 : iv (-1) 255 f67 := vq_lk xf67 (vC_by2 hby _)
            refine lv_bipush (v := 47) X.1 X.2.1 dX12_term_26 (by decide +kernel) ?_
            refine lv_icmp_ne (tgt := 94) X.1 X.2.1 dX12_term_28 (by decide) (fun c68 => ?_) (fun c68 => ?_)
            · have i69 : (vE (vC (sgU2 P) (sgL2 P) (vX (sgU2 P) (sgL2 P) a3)) = (47 : Int)) = False := vq_ne c68 xf67 (by decide +kernel)
              have mi69 : (vC (sgU2 P) (sgL2 P) (vX (sgU2 P) (sgL2 P) a3) = (47 : Int)) = False := vE_ne i69 (by decide)
              refine lv_iload_n X.1 X.2.1 dX12_term_94 rfl (lv_at hl 1 rfl) ?_
              have spr : vTe (sgU2 P) (sgL2 P) 5 (vX (sgU2 P) (sgL2 P) a) = (true, vX (sgU2 P) (sgL2 P) (vX (sgU2 P) (sgL2 P) a3)) := by rw [vX_idem]; exact xf3.trans (vL_stop (opT_no mi12 mi69))
              exact sg_iret2 X hr hlk hS trivial (fun t ht hW => (Or.inl ⟨_, spr, vq_pgw pb9 (by decide), (b9).2, sg_post hb hK hC hG hS ht hW⟩)) dX12_term_95
            · have i70 : vE (vC (sgU2 P) (sgL2 P) (vX (sgU2 P) (sgL2 P) a3)) = (47 : Int) := vq_eq c68 xf67 (by decide +kernel)
              have mi70 : vC (sgU2 P) (sgL2 P) (vX (sgU2 P) (sgL2 P) a3) = (47 : Int) := vE_eq i70 (by decide)
              refine lv_aload_n X.1 X.2.1 dX12_term_31 rfl (lv_at hl 0 rfl) ?_
              refine ca_X12_look_e X hK hG hC hS hb a0 h0 hl0 b9 hby wl_7_137 hl.1 (rest := []) rfl (Nat.le_of_ble_eq_true rfl) ⟨Nat.le_of_ble_eq_true rfl, Nat.le_of_ble_eq_true rfl⟩ ⟨Nat.le_of_ble_eq_true rfl, Nat.le_of_ble_eq_true rfl⟩ dX12_term_32 (fun f71 tf71 H locs htf71 hf71 hWf71 hS => ?_)
              have hBf71 := hWf71.2
              have xf71 := hWf71.1
              have hG := hBf71.2.2.2
              rw [htf71] at hG
              rw [vX_idem] at hG xf71
              have yf71 : iv (-1) 255 f71 := vq_lk xf71 (vC_by2 hby _)
              refine lv_bipush (v := 42) X.1 X.2.1 dX12_term_35 (by decide +kernel) ?_
              refine lv_icmp_ne (tgt := 44) X.1 X.2.1 dX12_term_37 (by decide) (fun c72 => ?_) (fun c72 => ?_)
              · have i73 : (vE (vC (sgU2 P) (sgL2 P) (vX (sgU2 P) (sgL2 P) a3)) = (42 : Int)) = False := vq_ne c72 xf71 (by decide +kernel)
                have mi73 : (vC (sgU2 P) (sgL2 P) (vX (sgU2 P) (sgL2 P) a3) = (42 : Int)) = False := vE_ne i73 (by decide)
                refine lv_iconst (v := 0) X.1 X.2.1 dX12_term_44 (by decide +kernel) ?_
                refine lv_istore_n (lv' := [(2, .int 0), (0, .ref a0), (1, .int z3_1)]) X.1 X.2.1 dX12_term_45 rfl hl (by decide) rfl (fun ls hl => ?_)
                refine lv_aload_n X.1 X.2.1 dX12_term_46 rfl (lv_at hl 1 rfl) ?_
                refine lv_dup X.1 X.2.1 dX12_term_47 rfl ?_
                refine gf_X12_10e X hK hG h0 wl_6_188 dX12_term_48 (fun f75 hf75 => ?_)
                have xf75 : f75.toInt = (vX (sgU2 P) (sgL2 P) a3) := vq_iv hf75
                have yf75 : iv 0 240 f75 := vq_240 hl0 b9 xf75
                refine lv_iconst (v := 1) X.1 X.2.1 dX12_term_51 (by decide +kernel) ?_
                refine lv_iadd X.1 X.2.1 dX12_term_52 ?_
                refine lv_topi (fun f76 ef76 => ?_)
                have xf76 : f76.toInt = ((vX (sgU2 P) (sgL2 P) a3) + 1) := sg_exadd ef76 yf75 (iv_c 1 (a := 1) (b := 1) (by decide +kernel)) (by decide +kernel) xf75 (by decide +kernel)
                refine pf_X12_10E (b1 := ((vX (sgU2 P) (sgL2 P) a3) + 1)) (b2 := ((vX (sgU2 P) (sgL2 P) a3) + 1)) X hK hG hS h0 wl_6_188 (vq_of (lo := ((vX (sgU2 P) (sgL2 P) a3) + 1)) (hi := ((vX (sgU2 P) (sgL2 P) a3) + 1)) xf76 ⟨Int.le_refl _, Int.le_refl _⟩) dX12_term_53 (fun H locs hG hS => ?_)
                have l77 := (vC_lt (b := sgU2 P) (n := sgL2 P) (a := (vX (sgU2 P) (sgL2 P) a3)) (by rw [mi70]; decide)).2
                have b78 := vq_bd1 b9 l77
                have pb78 : a + 2 ≤ ((vX (sgU2 P) (sgL2 P) a3) + 1) := vq_pg pb9 (m := 1) (Int.le_refl _) (by decide)
                refine lv_aload_n X.1 X.2.1 dX12_term_56 rfl (lv_at hl 1 rfl) ?_
                refine ca_X12_atom_e1 X hK hG hC hS hb a0 h0 hl0 b78 hby wl_8_1 hl.1 (rest := []) rfl (Nat.le_of_ble_eq_true rfl) ⟨Nat.le_of_ble_eq_true rfl, Nat.le_of_ble_eq_true rfl⟩ ⟨Nat.le_of_ble_eq_true rfl, Nat.le_of_ble_eq_true rfl⟩ dX12_term_57 (fun f79 tf79 H locs htf79 hf79 hWf79 hS => ?_)
                rcases hWf79 with ⟨av80, pv80, gav80, gbv80, hBf79⟩ | ⟨wv80, pv80, w1v80, w2v80, hBf79⟩
                · have hG := hBf79.2.2.2
                  rw [htf79] at hG
                  have bv80 := vq_bd2 (k := 1) b78 (by decide) gav80 gbv80
                  have p2v80 : a + 3 ≤ av80 := vq_pg pb78 gav80 (by decide)
                  obtain ⟨g81, eg81⟩ : ∃ y : Int64, y = (f79 : Int32).toInt64 := ⟨_, rfl⟩
                  refine lv_i2l (v := g81) X.1 X.2.1 dX12_term_60 eg81.symm ?_
                  refine lv_lstore_n (lv' := [(3, .long g81), (2, .int 0), (0, .ref a0), (1, .int z3_1)]) X.1 X.2.1 dX12_term_61 rfl hl (by decide) rfl (fun ls hl => ?_)
                  refine lv_iload_n X.1 X.2.1 dX12_term_62 rfl (lv_at hl 1 rfl) ?_
                  refine lv_if_eq (tgt := 73) X.1 X.2.1 dX12_term_63 (by decide) (fun c82 => ?_) (fun c82 => ?_)
                  · refine lv_lload_n X.1 X.2.1 dX12_term_73 rfl (lv_at hl 0 rfl) ?_
                    refine lv_lconst (v := 0) X.1 X.2.1 dX12_term_74 (by decide +kernel) ?_
                    refine W.lcmp X.1 X.2.1 dX12_term_75 ?_
                    refine lv_topi (fun f83 ef83 => ?_)
                    refine lv_if_ne (tgt := 83) X.1 X.2.1 dX12_term_76 (by decide) (fun c84 => ?_) (fun c84 => ?_)
                    · refine lv_iload_n X.1 X.2.1 dX12_term_83 rfl (lv_at hl 3 rfl) ?_
                      obtain ⟨g85, eg85⟩ : ∃ y : Int64, y = (z3_1 : Int32).toInt64 := ⟨_, rfl⟩
                      refine lv_i2l (v := g85) X.1 X.2.1 dX12_term_84 eg85.symm ?_
                      refine lv_lload_n X.1 X.2.1 dX12_term_85 rfl (lv_at hl 0 rfl) ?_
                      refine lv_ldiv X.1 X.2.1 dX12_term_86 (sg_lcmp0 ef83 c84) ?_
                      refine lv_topl (fun g86 eg86 => ?_)
                      refine ca_X12_within X hK (ke_toKT hG (by decide) (by decide) (by decide) (by decide)) hC (fun _ h => h) hS hb g86 wl_8_9 hl.1 (rest := []) rfl (Nat.le_of_ble_eq_true rfl) ⟨Nat.le_of_ble_eq_true rfl, Nat.le_of_ble_eq_true rfl⟩ ⟨Nat.le_of_ble_eq_true rfl, Nat.le_of_ble_eq_true rfl⟩ dX12_term_87 (fun f87 locs hf87 hS => ?_)
                      refine lv_istore_n (lv' := [(1, .int f87), (3, .long g81), (2, .int 0), (0, .ref a0)]) X.1 X.2.1 dX12_term_90 rfl hl (by decide) rfl (fun ls hl => ?_)
                      refine lv_goto (tgt := 5) X.1 X.2.1 dX12_term_91 (by decide) ?_
                      exact ih3 H _ _ f87 (av80) (bv80).1 (bv80).2 (vq_pgw p2v80 (by decide)) hG hS (lv_sub hl [3, 0] rfl) (xf3.trans (vL_step (opT_47 mi70) pv80 (vq_l2 gav80 (vX_ge (sgU2 P) (sgL2 P) av80).1) (vC_lt (b := sgU2 P) (n := sgL2 P) (by rw [mi70]; decide)).2)) (by omega)
                    · refine lv_lconst (v := 0) X.1 X.2.1 dX12_term_79 (by decide +kernel) ?_
                      refine lv_goto (tgt := 87) X.1 X.2.1 dX12_term_80 (by decide) ?_
                      refine ca_X12_within X hK (ke_toKT hG (by decide) (by decide) (by decide) (by decide)) hC (fun _ h => h) hS hb 0 wl_8_9 hl.1 (rest := []) rfl (Nat.le_of_ble_eq_true rfl) ⟨Nat.le_of_ble_eq_true rfl, Nat.le_of_ble_eq_true rfl⟩ ⟨Nat.le_of_ble_eq_true rfl, Nat.le_of_ble_eq_true rfl⟩ dX12_term_87 (fun f88 locs hf88 hS => ?_)
                      refine lv_istore_n (lv' := [(1, .int f88), (3, .long g81), (2, .int 0), (0, .ref a0)]) X.1 X.2.1 dX12_term_90 rfl hl (by decide) rfl (fun ls hl => ?_)
                      refine lv_goto (tgt := 5) X.1 X.2.1 dX12_term_91 (by decide) ?_
                      exact ih3 H _ _ f88 (av80) (bv80).1 (bv80).2 (vq_pgw p2v80 (by decide)) hG hS (lv_sub hl [3, 0] rfl) (xf3.trans (vL_step (opT_47 mi70) pv80 (vq_l2 gav80 (vX_ge (sgU2 P) (sgL2 P) av80).1) (vC_lt (b := sgU2 P) (n := sgL2 P) (by rw [mi70]; decide)).2)) (by omega)
                  · exact ((c82 (iv_one (iv_c 0 (a := 0) (b := 0) (by decide +kernel)) (iv_c 0 (a := 0) (b := 0) (by decide +kernel)) (by decide +kernel)))).elim
                · have hG := hBf79.2.2.2
                  rw [htf79] at hG
                  obtain ⟨g89, eg89⟩ : ∃ y : Int64, y = (f79 : Int32).toInt64 := ⟨_, rfl⟩
                  refine lv_i2l (v := g89) X.1 X.2.1 dX12_term_60 eg89.symm ?_
                  refine lv_lstore_n (lv' := [(3, .long g89), (2, .int 0), (0, .ref a0), (1, .int z3_1)]) X.1 X.2.1 dX12_term_61 rfl hl (by decide) rfl (fun ls hl => ?_)
                  refine lv_iload_n X.1 X.2.1 dX12_term_62 rfl (lv_at hl 1 rfl) ?_
                  refine lv_if_eq (tgt := 73) X.1 X.2.1 dX12_term_63 (by decide) (fun c90 => ?_) (fun c90 => ?_)
                  · refine lv_lload_n X.1 X.2.1 dX12_term_73 rfl (lv_at hl 0 rfl) ?_
                    refine lv_lconst (v := 0) X.1 X.2.1 dX12_term_74 (by decide +kernel) ?_
                    refine W.lcmp X.1 X.2.1 dX12_term_75 ?_
                    refine lv_topi (fun f91 ef91 => ?_)
                    refine lv_if_ne (tgt := 83) X.1 X.2.1 dX12_term_76 (by decide) (fun c92 => ?_) (fun c92 => ?_)
                    · refine lv_iload_n X.1 X.2.1 dX12_term_83 rfl (lv_at hl 3 rfl) ?_
                      obtain ⟨g93, eg93⟩ : ∃ y : Int64, y = (z3_1 : Int32).toInt64 := ⟨_, rfl⟩
                      refine lv_i2l (v := g93) X.1 X.2.1 dX12_term_84 eg93.symm ?_
                      refine lv_lload_n X.1 X.2.1 dX12_term_85 rfl (lv_at hl 0 rfl) ?_
                      refine lv_ldiv X.1 X.2.1 dX12_term_86 (sg_lcmp0 ef91 c92) ?_
                      refine lv_topl (fun g94 eg94 => ?_)
                      refine ca_X12_within X hK (ke_toKT hG (vq_bwlo (And.intro w1v80 w2v80)) (vq_bwhi (And.intro w1v80 w2v80)) (by decide) (by decide)) hC (fun _ h => h) hS hb g94 wl_8_9 hl.1 (rest := []) rfl (Nat.le_of_ble_eq_true rfl) ⟨Nat.le_of_ble_eq_true rfl, Nat.le_of_ble_eq_true rfl⟩ ⟨Nat.le_of_ble_eq_true rfl, Nat.le_of_ble_eq_true rfl⟩ dX12_term_87 (fun f95 locs hf95 hS => ?_)
                      refine lv_istore_n (lv' := [(1, .int f95), (3, .long g89), (2, .int 0), (0, .ref a0)]) X.1 X.2.1 dX12_term_90 rfl hl (by decide) rfl (fun ls hl => ?_)
                      refine lv_goto (tgt := 5) X.1 X.2.1 dX12_term_91 (by decide) ?_
                      refine lv_aload_n X.1 X.2.1 dX12_term_5 rfl (lv_at hl 3 rfl) ?_
                      refine gf_X12_11e X hK hG h0 wl_6_189 dX12_term_6 (fun f96 hf96 => ?_)
                      have xf96 : f96.toInt = wv80 := vq_iv hf96
                      have yf96 : iv 0 240 f96 := vq_of xf96 (And.intro w1v80 w2v80)
                      refine lv_iconst (v := (-1)) X.1 X.2.1 dX12_term_9 (by decide +kernel) ?_
                      refine lv_icmp_ne (tgt := 94) X.1 X.2.1 dX12_term_10 (by decide) (fun c97 => ?_) (fun c97 => ?_)
                      · have i98 : (wv80 = ((-1) : Int)) = False := vq_ne c97 xf96 (by decide +kernel)
                        refine lv_iload_n X.1 X.2.1 dX12_term_94 rfl (lv_at hl 0 rfl) ?_
                        have spr : vTe (sgU2 P) (sgL2 P) 5 (vX (sgU2 P) (sgL2 P) a) = (false, wv80) := by exact xf3.trans (vL_bad (opT_47 mi70) pv80)
                        have hG := ke_weak (b1 := 0) (b2 := 241) (g1 := wv80) (g2 := wv80) (e1 := 1) (e2 := 6) hG (Int.le_refl _) (Int.le_refl _) (Int.le_refl _) (Int.le_refl _) (by decide) (by decide)
                        exact sg_iret2 X hr hlk hS trivial (fun t ht hW => (Or.inr ⟨_, spr, ((And.intro w1v80 w2v80)).1, ((And.intro w1v80 w2v80)).2, sg_post hb hK hC hG hS ht hW⟩)) dX12_term_95
                      · have i99 : wv80 = ((-1) : Int) := vq_eq c97 xf96 (by decide +kernel)
                        exact ((iv_no (a := 0) (b := (-1)) (iv_eqm c97 yf96 (iv_c (-1) (a := (-1)) (b := (-1)) (by decide +kernel)) (by decide +kernel)) (by decide +kernel))).elim
                    · refine lv_lconst (v := 0) X.1 X.2.1 dX12_term_79 (by decide +kernel) ?_
                      refine lv_goto (tgt := 87) X.1 X.2.1 dX12_term_80 (by decide) ?_
                      refine ca_X12_within X hK (ke_toKT hG (vq_bwlo (And.intro w1v80 w2v80)) (vq_bwhi (And.intro w1v80 w2v80)) (by decide) (by decide)) hC (fun _ h => h) hS hb 0 wl_8_9 hl.1 (rest := []) rfl (Nat.le_of_ble_eq_true rfl) ⟨Nat.le_of_ble_eq_true rfl, Nat.le_of_ble_eq_true rfl⟩ ⟨Nat.le_of_ble_eq_true rfl, Nat.le_of_ble_eq_true rfl⟩ dX12_term_87 (fun f100 locs hf100 hS => ?_)
                      refine lv_istore_n (lv' := [(1, .int f100), (3, .long g89), (2, .int 0), (0, .ref a0)]) X.1 X.2.1 dX12_term_90 rfl hl (by decide) rfl (fun ls hl => ?_)
                      refine lv_goto (tgt := 5) X.1 X.2.1 dX12_term_91 (by decide) ?_
                      refine lv_aload_n X.1 X.2.1 dX12_term_5 rfl (lv_at hl 3 rfl) ?_
                      refine gf_X12_11e X hK hG h0 wl_6_189 dX12_term_6 (fun f101 hf101 => ?_)
                      have xf101 : f101.toInt = wv80 := vq_iv hf101
                      have yf101 : iv 0 240 f101 := vq_of xf101 (And.intro w1v80 w2v80)
                      refine lv_iconst (v := (-1)) X.1 X.2.1 dX12_term_9 (by decide +kernel) ?_
                      refine lv_icmp_ne (tgt := 94) X.1 X.2.1 dX12_term_10 (by decide) (fun c102 => ?_) (fun c102 => ?_)
                      · have i103 : (wv80 = ((-1) : Int)) = False := vq_ne c102 xf101 (by decide +kernel)
                        refine lv_iload_n X.1 X.2.1 dX12_term_94 rfl (lv_at hl 0 rfl) ?_
                        have spr : vTe (sgU2 P) (sgL2 P) 5 (vX (sgU2 P) (sgL2 P) a) = (false, wv80) := by exact xf3.trans (vL_bad (opT_47 mi70) pv80)
                        have hG := ke_weak (b1 := 0) (b2 := 241) (g1 := wv80) (g2 := wv80) (e1 := 1) (e2 := 6) hG (Int.le_refl _) (Int.le_refl _) (Int.le_refl _) (Int.le_refl _) (by decide) (by decide)
                        exact sg_iret2 X hr hlk hS trivial (fun t ht hW => (Or.inr ⟨_, spr, ((And.intro w1v80 w2v80)).1, ((And.intro w1v80 w2v80)).2, sg_post hb hK hC hG hS ht hW⟩)) dX12_term_95
                      · have i104 : wv80 = ((-1) : Int) := vq_eq c102 xf101 (by decide +kernel)
                        exact ((iv_no (a := 0) (b := (-1)) (iv_eqm c102 yf101 (iv_c (-1) (a := (-1)) (b := (-1)) (by decide +kernel)) (by decide +kernel)) (by decide +kernel))).elim
                  · exact ((c90 (iv_one (iv_c 0 (a := 0) (b := 0) (by decide +kernel)) (iv_c 0 (a := 0) (b := 0) (by decide +kernel)) (by decide +kernel)))).elim
              · have i74 : vE (vC (sgU2 P) (sgL2 P) (vX (sgU2 P) (sgL2 P) a3)) = (42 : Int) := vq_eq c72 xf71 (by decide +kernel)
                have mi74 : vC (sgU2 P) (sgL2 P) (vX (sgU2 P) (sgL2 P) a3) = (42 : Int) := vE_eq i74 (by decide)
                refine lv_iconst (v := 1) X.1 X.2.1 dX12_term_40 (by decide +kernel) ?_
                refine lv_goto (tgt := 45) X.1 X.2.1 dX12_term_41 (by decide) ?_
                refine lv_istore_n (lv' := [(2, .int 1), (0, .ref a0), (1, .int z3_1)]) X.1 X.2.1 dX12_term_45 rfl hl (by decide) rfl (fun ls hl => ?_)
                refine lv_aload_n X.1 X.2.1 dX12_term_46 rfl (lv_at hl 1 rfl) ?_
                refine lv_dup X.1 X.2.1 dX12_term_47 rfl ?_
                refine gf_X12_10e X hK hG h0 wl_6_188 dX12_term_48 (fun f105 hf105 => ?_)
                have xf105 : f105.toInt = (vX (sgU2 P) (sgL2 P) a3) := vq_iv hf105
                have yf105 : iv 0 240 f105 := vq_240 hl0 b9 xf105
                refine lv_iconst (v := 1) X.1 X.2.1 dX12_term_51 (by decide +kernel) ?_
                refine lv_iadd X.1 X.2.1 dX12_term_52 ?_
                refine lv_topi (fun f106 ef106 => ?_)
                have xf106 : f106.toInt = ((vX (sgU2 P) (sgL2 P) a3) + 1) := sg_exadd ef106 yf105 (iv_c 1 (a := 1) (b := 1) (by decide +kernel)) (by decide +kernel) xf105 (by decide +kernel)
                refine pf_X12_10E (b1 := ((vX (sgU2 P) (sgL2 P) a3) + 1)) (b2 := ((vX (sgU2 P) (sgL2 P) a3) + 1)) X hK hG hS h0 wl_6_188 (vq_of (lo := ((vX (sgU2 P) (sgL2 P) a3) + 1)) (hi := ((vX (sgU2 P) (sgL2 P) a3) + 1)) xf106 ⟨Int.le_refl _, Int.le_refl _⟩) dX12_term_53 (fun H locs hG hS => ?_)
                have l107 := (vC_lt (b := sgU2 P) (n := sgL2 P) (a := (vX (sgU2 P) (sgL2 P) a3)) (by rw [mi70]; decide)).2
                have b108 := vq_bd1 b9 l107
                have pb108 : a + 2 ≤ ((vX (sgU2 P) (sgL2 P) a3) + 1) := vq_pg pb9 (m := 1) (Int.le_refl _) (by decide)
                refine lv_aload_n X.1 X.2.1 dX12_term_56 rfl (lv_at hl 1 rfl) ?_
                refine ca_X12_atom_e1 X hK hG hC hS hb a0 h0 hl0 b108 hby wl_8_1 hl.1 (rest := []) rfl (Nat.le_of_ble_eq_true rfl) ⟨Nat.le_of_ble_eq_true rfl, Nat.le_of_ble_eq_true rfl⟩ ⟨Nat.le_of_ble_eq_true rfl, Nat.le_of_ble_eq_true rfl⟩ dX12_term_57 (fun f109 tf109 H locs htf109 hf109 hWf109 hS => ?_)
                rcases hWf109 with ⟨av110, pv110, gav110, gbv110, hBf109⟩ | ⟨wv110, pv110, w1v110, w2v110, hBf109⟩
                · have hG := hBf109.2.2.2
                  rw [htf109] at hG
                  have bv110 := vq_bd2 (k := 1) b108 (by decide) gav110 gbv110
                  have p2v110 : a + 3 ≤ av110 := vq_pg pb108 gav110 (by decide)
                  obtain ⟨g111, eg111⟩ : ∃ y : Int64, y = (f109 : Int32).toInt64 := ⟨_, rfl⟩
                  refine lv_i2l (v := g111) X.1 X.2.1 dX12_term_60 eg111.symm ?_
                  refine lv_lstore_n (lv' := [(3, .long g111), (2, .int 1), (0, .ref a0), (1, .int z3_1)]) X.1 X.2.1 dX12_term_61 rfl hl (by decide) rfl (fun ls hl => ?_)
                  refine lv_iload_n X.1 X.2.1 dX12_term_62 rfl (lv_at hl 1 rfl) ?_
                  refine lv_if_eq (tgt := 73) X.1 X.2.1 dX12_term_63 (by decide) (fun c112 => ?_) (fun c112 => ?_)
                  · exact ((iv_no (a := 1) (b := 0) (iv_eqm c112 (iv_c 1 (a := 1) (b := 1) (by decide +kernel)) (iv_c 0 (a := 0) (b := 0) (by decide +kernel)) (by decide +kernel)) (by decide +kernel))).elim
                  · refine lv_iload_n X.1 X.2.1 dX12_term_66 rfl (lv_at hl 3 rfl) ?_
                    obtain ⟨g113, eg113⟩ : ∃ y : Int64, y = (z3_1 : Int32).toInt64 := ⟨_, rfl⟩
                    refine lv_i2l (v := g113) X.1 X.2.1 dX12_term_67 eg113.symm ?_
                    refine lv_lload_n X.1 X.2.1 dX12_term_68 rfl (lv_at hl 0 rfl) ?_
                    refine lv_lmul X.1 X.2.1 dX12_term_69 ?_
                    refine lv_topl (fun g114 eg114 => ?_)
                    refine lv_goto (tgt := 87) X.1 X.2.1 dX12_term_70 (by decide) ?_
                    refine ca_X12_within X hK (ke_toKT hG (by decide) (by decide) (by decide) (by decide)) hC (fun _ h => h) hS hb g114 wl_8_9 hl.1 (rest := []) rfl (Nat.le_of_ble_eq_true rfl) ⟨Nat.le_of_ble_eq_true rfl, Nat.le_of_ble_eq_true rfl⟩ ⟨Nat.le_of_ble_eq_true rfl, Nat.le_of_ble_eq_true rfl⟩ dX12_term_87 (fun f115 locs hf115 hS => ?_)
                    refine lv_istore_n (lv' := [(1, .int f115), (3, .long g111), (2, .int 1), (0, .ref a0)]) X.1 X.2.1 dX12_term_90 rfl hl (by decide) rfl (fun ls hl => ?_)
                    refine lv_goto (tgt := 5) X.1 X.2.1 dX12_term_91 (by decide) ?_
                    exact ih3 H _ _ f115 (av110) (bv110).1 (bv110).2 (vq_pgw p2v110 (by decide)) hG hS (lv_sub hl [3, 0] rfl) (xf3.trans (vL_step (opT_42 mi74) pv110 (vq_l2 gav110 (vX_ge (sgU2 P) (sgL2 P) av110).1) (vC_lt (b := sgU2 P) (n := sgL2 P) (by rw [mi70]; decide)).2)) (by omega)
                · have hG := hBf109.2.2.2
                  rw [htf109] at hG
                  obtain ⟨g116, eg116⟩ : ∃ y : Int64, y = (f109 : Int32).toInt64 := ⟨_, rfl⟩
                  refine lv_i2l (v := g116) X.1 X.2.1 dX12_term_60 eg116.symm ?_
                  refine lv_lstore_n (lv' := [(3, .long g116), (2, .int 1), (0, .ref a0), (1, .int z3_1)]) X.1 X.2.1 dX12_term_61 rfl hl (by decide) rfl (fun ls hl => ?_)
                  refine lv_iload_n X.1 X.2.1 dX12_term_62 rfl (lv_at hl 1 rfl) ?_
                  refine lv_if_eq (tgt := 73) X.1 X.2.1 dX12_term_63 (by decide) (fun c117 => ?_) (fun c117 => ?_)
                  · exact ((iv_no (a := 1) (b := 0) (iv_eqm c117 (iv_c 1 (a := 1) (b := 1) (by decide +kernel)) (iv_c 0 (a := 0) (b := 0) (by decide +kernel)) (by decide +kernel)) (by decide +kernel))).elim
                  · refine lv_iload_n X.1 X.2.1 dX12_term_66 rfl (lv_at hl 3 rfl) ?_
                    obtain ⟨g118, eg118⟩ : ∃ y : Int64, y = (z3_1 : Int32).toInt64 := ⟨_, rfl⟩
                    refine lv_i2l (v := g118) X.1 X.2.1 dX12_term_67 eg118.symm ?_
                    refine lv_lload_n X.1 X.2.1 dX12_term_68 rfl (lv_at hl 0 rfl) ?_
                    refine lv_lmul X.1 X.2.1 dX12_term_69 ?_
                    refine lv_topl (fun g119 eg119 => ?_)
                    refine lv_goto (tgt := 87) X.1 X.2.1 dX12_term_70 (by decide) ?_
                    refine ca_X12_within X hK (ke_toKT hG (vq_bwlo (And.intro w1v110 w2v110)) (vq_bwhi (And.intro w1v110 w2v110)) (by decide) (by decide)) hC (fun _ h => h) hS hb g119 wl_8_9 hl.1 (rest := []) rfl (Nat.le_of_ble_eq_true rfl) ⟨Nat.le_of_ble_eq_true rfl, Nat.le_of_ble_eq_true rfl⟩ ⟨Nat.le_of_ble_eq_true rfl, Nat.le_of_ble_eq_true rfl⟩ dX12_term_87 (fun f120 locs hf120 hS => ?_)
                    refine lv_istore_n (lv' := [(1, .int f120), (3, .long g116), (2, .int 1), (0, .ref a0)]) X.1 X.2.1 dX12_term_90 rfl hl (by decide) rfl (fun ls hl => ?_)
                    refine lv_goto (tgt := 5) X.1 X.2.1 dX12_term_91 (by decide) ?_
                    refine lv_aload_n X.1 X.2.1 dX12_term_5 rfl (lv_at hl 3 rfl) ?_
                    refine gf_X12_11e X hK hG h0 wl_6_189 dX12_term_6 (fun f121 hf121 => ?_)
                    have xf121 : f121.toInt = wv110 := vq_iv hf121
                    have yf121 : iv 0 240 f121 := vq_of xf121 (And.intro w1v110 w2v110)
                    refine lv_iconst (v := (-1)) X.1 X.2.1 dX12_term_9 (by decide +kernel) ?_
                    refine lv_icmp_ne (tgt := 94) X.1 X.2.1 dX12_term_10 (by decide) (fun c122 => ?_) (fun c122 => ?_)
                    · have i123 : (wv110 = ((-1) : Int)) = False := vq_ne c122 xf121 (by decide +kernel)
                      refine lv_iload_n X.1 X.2.1 dX12_term_94 rfl (lv_at hl 0 rfl) ?_
                      have spr : vTe (sgU2 P) (sgL2 P) 5 (vX (sgU2 P) (sgL2 P) a) = (false, wv110) := by exact xf3.trans (vL_bad (opT_42 mi74) pv110)
                      have hG := ke_weak (b1 := 0) (b2 := 241) (g1 := wv110) (g2 := wv110) (e1 := 1) (e2 := 6) hG (Int.le_refl _) (Int.le_refl _) (Int.le_refl _) (Int.le_refl _) (by decide) (by decide)
                      exact sg_iret2 X hr hlk hS trivial (fun t ht hW => (Or.inr ⟨_, spr, ((And.intro w1v110 w2v110)).1, ((And.intro w1v110 w2v110)).2, sg_post hb hK hC hG hS ht hW⟩)) dX12_term_95
                    · have i124 : wv110 = ((-1) : Int) := vq_eq c122 xf121 (by decide +kernel)
                      exact ((iv_no (a := 0) (b := (-1)) (iv_eqm c122 yf121 (iv_c (-1) (a := (-1)) (b := (-1)) (by decide +kernel)) (by decide +kernel)) (by decide +kernel))).elim
    exact B3_5 _ H _ _ f1 (av2) (bv2).1 (bv2).2 (vq_pgw p2v2 (by decide)) hG hS (lv_sub hl [1, 0] rfl) (by simp only [vTe, pv2, cond_true, cond_false, vB_t, vB_f, if_true, if_false, eq_self, not_true_eq_false, not_false_eq_true, Int.reduceEq, Int.reduceLT, or_false, false_or, or_true, true_or]) (Nat.le_refl _)
  · have hG := hBf1.2.2.2
    rw [htf1] at hG
    refine lv_istore_n (lv' := [(1, .int f1), (0, .ref a0)]) X.1 X.2.1 dX12_term_4 rfl hl (by decide) rfl (fun ls hl => ?_)
    refine lv_aload_n X.1 X.2.1 dX12_term_5 rfl (lv_at hl 1 rfl) ?_
    refine gf_X12_11e X hK hG h0 wl_6_189 dX12_term_6 (fun f125 hf125 => ?_)
    have xf125 : f125.toInt = wv2 := vq_iv hf125
    have yf125 : iv 0 240 f125 := vq_of xf125 (And.intro w1v2 w2v2)
    refine lv_iconst (v := (-1)) X.1 X.2.1 dX12_term_9 (by decide +kernel) ?_
    refine lv_icmp_ne (tgt := 94) X.1 X.2.1 dX12_term_10 (by decide) (fun c126 => ?_) (fun c126 => ?_)
    · have i127 : (wv2 = ((-1) : Int)) = False := vq_ne c126 xf125 (by decide +kernel)
      refine lv_iload_n X.1 X.2.1 dX12_term_94 rfl (lv_at hl 0 rfl) ?_
      have spr : vTe (sgU2 P) (sgL2 P) 5 (vX (sgU2 P) (sgL2 P) a) = (false, wv2) := by simp only [vTe, pv2, i127, cond_true, cond_false, vB_t, vB_f, if_true, if_false, eq_self, not_true_eq_false, not_false_eq_true, Int.reduceEq, Int.reduceLT, or_false, false_or, or_true, true_or]
      have hG := ke_weak (b1 := 0) (b2 := 241) (g1 := wv2) (g2 := wv2) (e1 := 1) (e2 := 6) hG (Int.le_refl _) (Int.le_refl _) (Int.le_refl _) (Int.le_refl _) (by decide) (by decide)
      exact sg_iret2 X hr hlk hS trivial (fun t ht hW => (Or.inr ⟨_, spr, ((And.intro w1v2 w2v2)).1, ((And.intro w1v2 w2v2)).2, sg_post hb hK hC hG hS ht hW⟩)) dX12_term_95
    · have i128 : wv2 = ((-1) : Int) := vq_eq c126 xf125 (by decide +kernel)
      exact ((iv_no (a := 0) (b := (-1)) (iv_eqm c126 yf125 (iv_c (-1) (a := (-1)) (b := (-1)) (by decide +kernel)) (by decide +kernel)) (by decide +kernel))).elim

theorem ca_X12_term_e1  {a : Int} {z : sgZt}  (X : CallFix p m c cc nL s args sg_tbl own) (hK : va_K D vwCl tys s) (hG : sgG (KE a a (-1) (-1) 1 1 z P) D vwCl (fun q : Nat => base ≤ q) tys ad ks H) (hC : sgC base s) (hS : va_S (fun q : Nat => base ≤ q) s.heap H locs) (hb : base ≤ s.heap.size) (a0 : Nat) (h0 : isK ad ks 12 a0) (hl0 : 0 ≤ sgL2 P ∧ sgL2 P ≤ 240) (hav : 0 ≤ a ∧ a ≤ sgL2 P) (hby : sgBy2 P) (hl : Cond.methodLink own index yX12_term ∈ sg_tbl) (hsize : ls.size = nL) (hst : st0 = [].reverse ++ .ref a0 :: rest) (hW : (rest.map fun v => v.category).sum ≤ 8) (hR : 22 ≤ R.frames ∧ 509 ≤ R.locals) (hf : cells ≤ R.cells ∧ slots ≤ R.slots) (hdg : decode cc pc = .ok (.invokevirtual index, 3)) (kk : ∀ (r : Int32) (t : State) (H1 : Heap) (locs1 : List Loc), t.heap = H1 → (fun r : Int32 => True) r → ((∃ a1 : Int, vTe (sgU2 P) (sgL2 P) 5 (vX (sgU2 P) (sgL2 P) a) = (true, vX (sgU2 P) (sgL2 P) a1) ∧ a + 1 ≤ a1 ∧ a1 ≤ sgL2 P ∧ sgB (KE a1 a1 (-1) (-1) 1 1 z P) D vwCl base tys ad ks t) ∨ (∃ w : Int, vTe (sgU2 P) (sgL2 P) 5 (vX (sgU2 P) (sgL2 P) a) = (false, w) ∧ 0 ≤ w ∧ w ≤ 240 ∧ sgB (KE 0 241 w w 1 6 z P) D vwCl base tys ad ks t)) → va_S (fun q : Nat => base ≤ q) s.heap H1 locs1 → W p l e R s m args below meth c H1 locs1 cells slots Q (F0 m (pc + 3) ls (.int r :: rest))) : W p l e R s m args below meth c H locs cells slots Q (F0 m pc ls st0) :=
  sg_callV2i X hK hG hC hS hb (m_X12_term_e1 l a0 h0 hl0 hav hby) h0 (k := 12) (ci := 12) rfl (C := RX12) (T := TX12) (N := 53) rfl wl_8_0 wl_1_13 wl_7_239 wl_0_65 (n := 0) (by decide +kernel) rfl rfl rfl hl hsize hst hW hR hf hdg kk

set_option maxHeartbeats 8000000 in
set_option maxRecDepth 100000 in
theorem m_X12_sum_e1 (l : Launch) {D : va_G} {base : Nat} {tys : List (ClassId × FieldType)} {ad ks : List Nat} {P : sgPm}{a : Int} {z : sgZt}  (a0 : Nat) (h0 : isK ad ks 12 a0) (hl0 : 0 ≤ sgL2 P ∧ sgL2 P ≤ 240) (hav : 0 ≤ a ∧ a ≤ sgL2 P) (hby : sgBy2 P) : Met l yX12_sum (Cond.code yX12_sum cX12_sum 5 (some .int) :: sg_tbl) ({ frames := 22, cells := 0, slots := 0, locals := 509 }) (va_Pc [.ref a0] (sgB (KE a a (-1) (-1) 1 1 z P) D vwCl base tys ad ks)) (va_Qi (fun r (u : Int32) => u = r ∧ (fun r : Int32 => True) r) (fun u t => (∃ a1 : Int, vSum (sgU2 P) (sgL2 P) 5 (vX (sgU2 P) (sgL2 P) a) = (true, vX (sgU2 P) (sgL2 P) a1) ∧ a + 1 ≤ a1 ∧ a1 ≤ sgL2 P ∧ sgB (KE a1 a1 (-1) (-1) 1 1 z P) D vwCl base tys ad ks t) ∨ (∃ w : Int, vSum (sgU2 P) (sgL2 P) 5 (vX (sgU2 P) (sgL2 P) a) = (false, w) ∧ 0 ≤ w ∧ w ≤ 240 ∧ sgB (KE 0 241 w w 1 6 z P) D vwCl base tys ad ks t)) (fun q : Nat => base ≤ q)) 0 0 (fun q : Nat => base ≤ q) := by
  refine sg_ofW (by decide +kernel) (Nat.le_of_ble_eq_true rfl) (fun p e s m below meth c X hr hlk hb hK hC hG ls hl => ?_)
  have hS : va_S (fun q : Nat => base ≤ q) s.heap s.heap [] := va_S.rf
  have hl : lv_has ls 5 [(0, .ref a0)] := hl
  refine lv_aload_n X.1 X.2.1 dX12_sum_0 rfl (lv_at hl 0 rfl) ?_
  refine ca_X12_term_e1 X hK hG hC hS hb a0 h0 hl0 hav hby wl_7_237 hl.1 (rest := []) rfl (Nat.le_of_ble_eq_true rfl) ⟨Nat.le_of_ble_eq_true rfl, Nat.le_of_ble_eq_true rfl⟩ ⟨Nat.le_of_ble_eq_true rfl, Nat.le_of_ble_eq_true rfl⟩ dX12_sum_1 (fun f1 tf1 H locs htf1 hf1 hWf1 hS => ?_)
  rcases hWf1 with ⟨av2, pv2, gav2, gbv2, hBf1⟩ | ⟨wv2, pv2, w1v2, w2v2, hBf1⟩
  · have hG := hBf1.2.2.2
    rw [htf1] at hG
    have bv2 := vq_bd2 (k := 1) hav (by decide) gav2 gbv2
    have p2v2 : a + 1 ≤ av2 := vq_pg (vq_pg0 a) gav2 (by decide)
    refine lv_istore_n (lv' := [(1, .int f1), (0, .ref a0)]) X.1 X.2.1 dX12_sum_4 rfl hl (by decide) rfl (fun ls hl => ?_)
    have B3_5 : ∀ (N : Nat) (H : Heap) (locs : List Loc) (ls : Array Slot) (z3_1 : Int32) (a3 : Int), 0 ≤ a3 → a3 ≤ sgL2 P → a + 1 ≤ a3 → sgG (KE a3 a3 (-1) (-1) 1 1 z P) D vwCl (fun q : Nat => base ≤ q) tys ad ks H → va_S (fun q : Nat => base ≤ q) s.heap H locs → lv_has ls 5 [(0, .ref a0), (1, .int z3_1)] → vSum (sgU2 P) (sgL2 P) 5 (vX (sgU2 P) (sgL2 P) a) = vL (vTe (sgU2 P) (sgL2 P) 5) opP (sgU2 P) (sgL2 P) (vX (sgU2 P) (sgL2 P) a3) → (242 - a3).toNat ≤ N → W p l e (headSpec (Cond.code yX12_sum cX12_sum 5 (some .int) :: sg_tbl) ({ frames := 22, cells := 0, slots := 0, locals := 509 })).room s m #[.ref a0] below meth c H locs 0 0 (MQ below (va_Qi (fun r (u : Int32) => u = r ∧ (fun r : Int32 => True) r) (fun u t => (∃ a1 : Int, vSum (sgU2 P) (sgL2 P) 5 (vX (sgU2 P) (sgL2 P) a) = (true, vX (sgU2 P) (sgL2 P) a1) ∧ a + 1 ≤ a1 ∧ a1 ≤ sgL2 P ∧ sgB (KE a1 a1 (-1) (-1) 1 1 z P) D vwCl base tys ad ks t) ∨ (∃ w : Int, vSum (sgU2 P) (sgL2 P) 5 (vX (sgU2 P) (sgL2 P) a) = (false, w) ∧ 0 ≤ w ∧ w ≤ 240 ∧ sgB (KE 0 241 w w 1 6 z P) D vwCl base tys ad ks t)) (fun q : Nat => base ≤ q)) #[.ref a0] s 0 0 (fun q : Nat => base ≤ q)) (F0 m 5 ls []) := by
      intro N; induction N with
      | zero =>
        intro H locs ls z3_1 a3 jl3 jm3 jk3 hG hS hl xf3 hN
        exact absurd hN (by have := jm3; omega)
      | succ N ih3 =>
        intro H locs ls z3_1 a3 jl3 jm3 jk3 hG hS hl xf3 hN3
        refine lv_aload_n X.1 X.2.1 dX12_sum_5 rfl (lv_at hl 0 rfl) ?_
        refine gf_X12_11e X hK hG h0 wl_6_189 dX12_sum_6 (fun f4 hf4 => ?_)
        refine lv_iconst (v := (-1)) X.1 X.2.1 dX12_sum_9 (by decide +kernel) ?_
        refine lv_icmp_ne (tgt := 84) X.1 X.2.1 dX12_sum_10 (by decide) (fun c5 => ?_) (fun c5 => ?_)
        · have i6 : (((-1) : Int) = ((-1) : Int)) = False := vq_ne c5 (vq_iv hf4) (by decide +kernel)
          exact ((c5 (iv_one hf4 (iv_c (-1) (a := (-1)) (b := (-1)) (by decide +kernel)) (by decide +kernel)))).elim
        · have i7 : ((-1) : Int) = ((-1) : Int) := vq_eq c5 (vq_iv hf4) (by decide +kernel)
          refine lv_aload_n X.1 X.2.1 dX12_sum_13 rfl (lv_at hl 0 rfl) ?_
          refine ca_X12_look_e X hK hG hC hS hb a0 h0 hl0 (And.intro jl3 jm3) hby wl_7_137 hl.1 (rest := []) rfl (Nat.le_of_ble_eq_true rfl) ⟨Nat.le_of_ble_eq_true rfl, Nat.le_of_ble_eq_true rfl⟩ ⟨Nat.le_of_ble_eq_true rfl, Nat.le_of_ble_eq_true rfl⟩ dX12_sum_14 (fun f8 tf8 H locs htf8 hf8 hWf8 hS => ?_)
          have hBf8 := hWf8.2
          have xf8 := hWf8.1
          have hG := hBf8.2.2.2
          rw [htf8] at hG
          have b9 := vq_bdL (b := sgU2 P) (And.intro jl3 jm3)
          have eb9 : a3 ≤ vX (sgU2 P) (sgL2 P) a3 := (vX_ge (sgU2 P) (sgL2 P) a3).1
          have pb9 : a + 1 ≤ vX (sgU2 P) (sgL2 P) a3 := Int.le_trans jk3 (vX_ge (sgU2 P) (sgL2 P) a3).1
          have yf8 : iv (-1) 255 f8 := vq_lk xf8 (vC_by2 hby _)
          refine lv_bipush (v := 43) X.1 X.2.1 dX12_sum_17 (by decide +kernel) ?_
          refine lv_icmp_eq (tgt := 31) X.1 X.2.1 dX12_sum_19 (by decide) (fun c10 => ?_) (fun c10 => ?_)
          · have i11 : vE (vC (sgU2 P) (sgL2 P) (vX (sgU2 P) (sgL2 P) a3)) = (43 : Int) := vq_eq c10 xf8 (by decide +kernel)
            have mi11 : vC (sgU2 P) (sgL2 P) (vX (sgU2 P) (sgL2 P) a3) = (43 : Int) := vE_eq i11 (by decide)
            refine lv_aload_n X.1 X.2.1 dX12_sum_31 rfl (lv_at hl 0 rfl) ?_
            refine ca_X12_look_e X hK hG hC hS hb a0 h0 hl0 b9 hby wl_7_137 hl.1 (rest := []) rfl (Nat.le_of_ble_eq_true rfl) ⟨Nat.le_of_ble_eq_true rfl, Nat.le_of_ble_eq_true rfl⟩ ⟨Nat.le_of_ble_eq_true rfl, Nat.le_of_ble_eq_true rfl⟩ dX12_sum_32 (fun f13 tf13 H locs htf13 hf13 hWf13 hS => ?_)
            have hBf13 := hWf13.2
            have xf13 := hWf13.1
            have hG := hBf13.2.2.2
            rw [htf13] at hG
            rw [vX_idem] at hG xf13
            have yf13 : iv (-1) 255 f13 := vq_lk xf13 (vC_by2 hby _)
            refine lv_bipush (v := 43) X.1 X.2.1 dX12_sum_35 (by decide +kernel) ?_
            refine lv_icmp_ne (tgt := 44) X.1 X.2.1 dX12_sum_37 (by decide) (fun c14 => ?_) (fun c14 => ?_)
            · have i15 : (vE (vC (sgU2 P) (sgL2 P) (vX (sgU2 P) (sgL2 P) a3)) = (43 : Int)) = False := vq_ne c14 xf13 (by decide +kernel)
              have mi15 : (vC (sgU2 P) (sgL2 P) (vX (sgU2 P) (sgL2 P) a3) = (43 : Int)) = False := vE_ne i15 (by decide)
              refine lv_iconst (v := 0) X.1 X.2.1 dX12_sum_44 (by decide +kernel) ?_
              refine lv_istore_n (lv' := [(2, .int 0), (0, .ref a0), (1, .int z3_1)]) X.1 X.2.1 dX12_sum_45 rfl hl (by decide) rfl (fun ls hl => ?_)
              refine lv_aload_n X.1 X.2.1 dX12_sum_46 rfl (lv_at hl 1 rfl) ?_
              refine lv_dup X.1 X.2.1 dX12_sum_47 rfl ?_
              refine gf_X12_10e X hK hG h0 wl_6_188 dX12_sum_48 (fun f17 hf17 => ?_)
              have xf17 : f17.toInt = (vX (sgU2 P) (sgL2 P) a3) := vq_iv hf17
              have yf17 : iv 0 240 f17 := vq_240 hl0 b9 xf17
              refine lv_iconst (v := 1) X.1 X.2.1 dX12_sum_51 (by decide +kernel) ?_
              refine lv_iadd X.1 X.2.1 dX12_sum_52 ?_
              refine lv_topi (fun f18 ef18 => ?_)
              have xf18 : f18.toInt = ((vX (sgU2 P) (sgL2 P) a3) + 1) := sg_exadd ef18 yf17 (iv_c 1 (a := 1) (b := 1) (by decide +kernel)) (by decide +kernel) xf17 (by decide +kernel)
              refine pf_X12_10E (b1 := ((vX (sgU2 P) (sgL2 P) a3) + 1)) (b2 := ((vX (sgU2 P) (sgL2 P) a3) + 1)) X hK hG hS h0 wl_6_188 (vq_of (lo := ((vX (sgU2 P) (sgL2 P) a3) + 1)) (hi := ((vX (sgU2 P) (sgL2 P) a3) + 1)) xf18 ⟨Int.le_refl _, Int.le_refl _⟩) dX12_sum_53 (fun H locs hG hS => ?_)
              have l19 := (vC_lt (b := sgU2 P) (n := sgL2 P) (a := (vX (sgU2 P) (sgL2 P) a3)) (by rw [mi11]; decide)).2
              have b20 := vq_bd1 b9 l19
              have pb20 : a + 2 ≤ ((vX (sgU2 P) (sgL2 P) a3) + 1) := vq_pg pb9 (m := 1) (Int.le_refl _) (by decide)
              refine lv_aload_n X.1 X.2.1 dX12_sum_56 rfl (lv_at hl 1 rfl) ?_
              refine ca_X12_term_e1 X hK hG hC hS hb a0 h0 hl0 b20 hby wl_7_237 hl.1 (rest := []) rfl (Nat.le_of_ble_eq_true rfl) ⟨Nat.le_of_ble_eq_true rfl, Nat.le_of_ble_eq_true rfl⟩ ⟨Nat.le_of_ble_eq_true rfl, Nat.le_of_ble_eq_true rfl⟩ dX12_sum_57 (fun f21 tf21 H locs htf21 hf21 hWf21 hS => ?_)
              rcases hWf21 with ⟨av22, pv22, gav22, gbv22, hBf21⟩ | ⟨wv22, pv22, w1v22, w2v22, hBf21⟩
              · have hG := hBf21.2.2.2
                rw [htf21] at hG
                have bv22 := vq_bd2 (k := 1) b20 (by decide) gav22 gbv22
                have p2v22 : a + 3 ≤ av22 := vq_pg pb20 gav22 (by decide)
                obtain ⟨g23, eg23⟩ : ∃ y : Int64, y = (f21 : Int32).toInt64 := ⟨_, rfl⟩
                refine lv_i2l (v := g23) X.1 X.2.1 dX12_sum_60 eg23.symm ?_
                refine lv_lstore_n (lv' := [(3, .long g23), (2, .int 0), (0, .ref a0), (1, .int z3_1)]) X.1 X.2.1 dX12_sum_61 rfl hl (by decide) rfl (fun ls hl => ?_)
                refine lv_iload_n X.1 X.2.1 dX12_sum_62 rfl (lv_at hl 1 rfl) ?_
                refine lv_if_eq (tgt := 73) X.1 X.2.1 dX12_sum_63 (by decide) (fun c24 => ?_) (fun c24 => ?_)
                · refine lv_iload_n X.1 X.2.1 dX12_sum_73 rfl (lv_at hl 3 rfl) ?_
                  obtain ⟨g25, eg25⟩ : ∃ y : Int64, y = (z3_1 : Int32).toInt64 := ⟨_, rfl⟩
                  refine lv_i2l (v := g25) X.1 X.2.1 dX12_sum_74 eg25.symm ?_
                  refine lv_lload_n X.1 X.2.1 dX12_sum_75 rfl (lv_at hl 0 rfl) ?_
                  refine lv_lsub X.1 X.2.1 dX12_sum_76 ?_
                  refine lv_topl (fun g26 eg26 => ?_)
                  refine ca_X12_within X hK (ke_toKT hG (by decide) (by decide) (by decide) (by decide)) hC (fun _ h => h) hS hb g26 wl_8_9 hl.1 (rest := []) rfl (Nat.le_of_ble_eq_true rfl) ⟨Nat.le_of_ble_eq_true rfl, Nat.le_of_ble_eq_true rfl⟩ ⟨Nat.le_of_ble_eq_true rfl, Nat.le_of_ble_eq_true rfl⟩ dX12_sum_77 (fun f27 locs hf27 hS => ?_)
                  refine lv_istore_n (lv' := [(1, .int f27), (3, .long g23), (2, .int 0), (0, .ref a0)]) X.1 X.2.1 dX12_sum_80 rfl hl (by decide) rfl (fun ls hl => ?_)
                  refine lv_goto (tgt := 5) X.1 X.2.1 dX12_sum_81 (by decide) ?_
                  exact ih3 H _ _ f27 (av22) (bv22).1 (bv22).2 (vq_pgw p2v22 (by decide)) hG hS (lv_sub hl [3, 0] rfl) (xf3.trans (vL_step (opP_43 mi11) pv22 (vq_l2 gav22 (vX_ge (sgU2 P) (sgL2 P) av22).1) (vC_lt (b := sgU2 P) (n := sgL2 P) (by rw [mi11]; decide)).2)) (by omega)
                · exact ((c24 (iv_one (iv_c 0 (a := 0) (b := 0) (by decide +kernel)) (iv_c 0 (a := 0) (b := 0) (by decide +kernel)) (by decide +kernel)))).elim
              · have hG := hBf21.2.2.2
                rw [htf21] at hG
                obtain ⟨g28, eg28⟩ : ∃ y : Int64, y = (f21 : Int32).toInt64 := ⟨_, rfl⟩
                refine lv_i2l (v := g28) X.1 X.2.1 dX12_sum_60 eg28.symm ?_
                refine lv_lstore_n (lv' := [(3, .long g28), (2, .int 0), (0, .ref a0), (1, .int z3_1)]) X.1 X.2.1 dX12_sum_61 rfl hl (by decide) rfl (fun ls hl => ?_)
                refine lv_iload_n X.1 X.2.1 dX12_sum_62 rfl (lv_at hl 1 rfl) ?_
                refine lv_if_eq (tgt := 73) X.1 X.2.1 dX12_sum_63 (by decide) (fun c29 => ?_) (fun c29 => ?_)
                · refine lv_iload_n X.1 X.2.1 dX12_sum_73 rfl (lv_at hl 3 rfl) ?_
                  obtain ⟨g30, eg30⟩ : ∃ y : Int64, y = (z3_1 : Int32).toInt64 := ⟨_, rfl⟩
                  refine lv_i2l (v := g30) X.1 X.2.1 dX12_sum_74 eg30.symm ?_
                  refine lv_lload_n X.1 X.2.1 dX12_sum_75 rfl (lv_at hl 0 rfl) ?_
                  refine lv_lsub X.1 X.2.1 dX12_sum_76 ?_
                  refine lv_topl (fun g31 eg31 => ?_)
                  refine ca_X12_within X hK (ke_toKT hG (vq_bwlo (And.intro w1v22 w2v22)) (vq_bwhi (And.intro w1v22 w2v22)) (by decide) (by decide)) hC (fun _ h => h) hS hb g31 wl_8_9 hl.1 (rest := []) rfl (Nat.le_of_ble_eq_true rfl) ⟨Nat.le_of_ble_eq_true rfl, Nat.le_of_ble_eq_true rfl⟩ ⟨Nat.le_of_ble_eq_true rfl, Nat.le_of_ble_eq_true rfl⟩ dX12_sum_77 (fun f32 locs hf32 hS => ?_)
                  refine lv_istore_n (lv' := [(1, .int f32), (3, .long g28), (2, .int 0), (0, .ref a0)]) X.1 X.2.1 dX12_sum_80 rfl hl (by decide) rfl (fun ls hl => ?_)
                  refine lv_goto (tgt := 5) X.1 X.2.1 dX12_sum_81 (by decide) ?_
                  refine lv_aload_n X.1 X.2.1 dX12_sum_5 rfl (lv_at hl 3 rfl) ?_
                  refine gf_X12_11e X hK hG h0 wl_6_189 dX12_sum_6 (fun f33 hf33 => ?_)
                  have xf33 : f33.toInt = wv22 := vq_iv hf33
                  have yf33 : iv 0 240 f33 := vq_of xf33 (And.intro w1v22 w2v22)
                  refine lv_iconst (v := (-1)) X.1 X.2.1 dX12_sum_9 (by decide +kernel) ?_
                  refine lv_icmp_ne (tgt := 84) X.1 X.2.1 dX12_sum_10 (by decide) (fun c34 => ?_) (fun c34 => ?_)
                  · have i35 : (wv22 = ((-1) : Int)) = False := vq_ne c34 xf33 (by decide +kernel)
                    refine lv_iload_n X.1 X.2.1 dX12_sum_84 rfl (lv_at hl 0 rfl) ?_
                    have spr : vSum (sgU2 P) (sgL2 P) 5 (vX (sgU2 P) (sgL2 P) a) = (false, wv22) := by exact xf3.trans (vL_bad (opP_43 mi11) pv22)
                    have hG := ke_weak (b1 := 0) (b2 := 241) (g1 := wv22) (g2 := wv22) (e1 := 1) (e2 := 6) hG (Int.le_refl _) (Int.le_refl _) (Int.le_refl _) (Int.le_refl _) (by decide) (by decide)
                    exact sg_iret2 X hr hlk hS trivial (fun t ht hW => (Or.inr ⟨_, spr, ((And.intro w1v22 w2v22)).1, ((And.intro w1v22 w2v22)).2, sg_post hb hK hC hG hS ht hW⟩)) dX12_sum_85
                  · have i36 : wv22 = ((-1) : Int) := vq_eq c34 xf33 (by decide +kernel)
                    exact ((iv_no (a := 0) (b := (-1)) (iv_eqm c34 yf33 (iv_c (-1) (a := (-1)) (b := (-1)) (by decide +kernel)) (by decide +kernel)) (by decide +kernel))).elim
                · exact ((c29 (iv_one (iv_c 0 (a := 0) (b := 0) (by decide +kernel)) (iv_c 0 (a := 0) (b := 0) (by decide +kernel)) (by decide +kernel)))).elim
            · have i16 : vE (vC (sgU2 P) (sgL2 P) (vX (sgU2 P) (sgL2 P) a3)) = (43 : Int) := vq_eq c14 xf13 (by decide +kernel)
              have mi16 : vC (sgU2 P) (sgL2 P) (vX (sgU2 P) (sgL2 P) a3) = (43 : Int) := vE_eq i16 (by decide)
              refine lv_iconst (v := 1) X.1 X.2.1 dX12_sum_40 (by decide +kernel) ?_
              refine lv_goto (tgt := 45) X.1 X.2.1 dX12_sum_41 (by decide) ?_
              refine lv_istore_n (lv' := [(2, .int 1), (0, .ref a0), (1, .int z3_1)]) X.1 X.2.1 dX12_sum_45 rfl hl (by decide) rfl (fun ls hl => ?_)
              refine lv_aload_n X.1 X.2.1 dX12_sum_46 rfl (lv_at hl 1 rfl) ?_
              refine lv_dup X.1 X.2.1 dX12_sum_47 rfl ?_
              refine gf_X12_10e X hK hG h0 wl_6_188 dX12_sum_48 (fun f37 hf37 => ?_)
              have xf37 : f37.toInt = (vX (sgU2 P) (sgL2 P) a3) := vq_iv hf37
              have yf37 : iv 0 240 f37 := vq_240 hl0 b9 xf37
              refine lv_iconst (v := 1) X.1 X.2.1 dX12_sum_51 (by decide +kernel) ?_
              refine lv_iadd X.1 X.2.1 dX12_sum_52 ?_
              refine lv_topi (fun f38 ef38 => ?_)
              have xf38 : f38.toInt = ((vX (sgU2 P) (sgL2 P) a3) + 1) := sg_exadd ef38 yf37 (iv_c 1 (a := 1) (b := 1) (by decide +kernel)) (by decide +kernel) xf37 (by decide +kernel)
              refine pf_X12_10E (b1 := ((vX (sgU2 P) (sgL2 P) a3) + 1)) (b2 := ((vX (sgU2 P) (sgL2 P) a3) + 1)) X hK hG hS h0 wl_6_188 (vq_of (lo := ((vX (sgU2 P) (sgL2 P) a3) + 1)) (hi := ((vX (sgU2 P) (sgL2 P) a3) + 1)) xf38 ⟨Int.le_refl _, Int.le_refl _⟩) dX12_sum_53 (fun H locs hG hS => ?_)
              have l39 := (vC_lt (b := sgU2 P) (n := sgL2 P) (a := (vX (sgU2 P) (sgL2 P) a3)) (by rw [mi16]; decide)).2
              have b40 := vq_bd1 b9 l39
              have pb40 : a + 2 ≤ ((vX (sgU2 P) (sgL2 P) a3) + 1) := vq_pg pb9 (m := 1) (Int.le_refl _) (by decide)
              refine lv_aload_n X.1 X.2.1 dX12_sum_56 rfl (lv_at hl 1 rfl) ?_
              refine ca_X12_term_e1 X hK hG hC hS hb a0 h0 hl0 b40 hby wl_7_237 hl.1 (rest := []) rfl (Nat.le_of_ble_eq_true rfl) ⟨Nat.le_of_ble_eq_true rfl, Nat.le_of_ble_eq_true rfl⟩ ⟨Nat.le_of_ble_eq_true rfl, Nat.le_of_ble_eq_true rfl⟩ dX12_sum_57 (fun f41 tf41 H locs htf41 hf41 hWf41 hS => ?_)
              rcases hWf41 with ⟨av42, pv42, gav42, gbv42, hBf41⟩ | ⟨wv42, pv42, w1v42, w2v42, hBf41⟩
              · have hG := hBf41.2.2.2
                rw [htf41] at hG
                have bv42 := vq_bd2 (k := 1) b40 (by decide) gav42 gbv42
                have p2v42 : a + 3 ≤ av42 := vq_pg pb40 gav42 (by decide)
                obtain ⟨g43, eg43⟩ : ∃ y : Int64, y = (f41 : Int32).toInt64 := ⟨_, rfl⟩
                refine lv_i2l (v := g43) X.1 X.2.1 dX12_sum_60 eg43.symm ?_
                refine lv_lstore_n (lv' := [(3, .long g43), (2, .int 1), (0, .ref a0), (1, .int z3_1)]) X.1 X.2.1 dX12_sum_61 rfl hl (by decide) rfl (fun ls hl => ?_)
                refine lv_iload_n X.1 X.2.1 dX12_sum_62 rfl (lv_at hl 1 rfl) ?_
                refine lv_if_eq (tgt := 73) X.1 X.2.1 dX12_sum_63 (by decide) (fun c44 => ?_) (fun c44 => ?_)
                · exact ((iv_no (a := 1) (b := 0) (iv_eqm c44 (iv_c 1 (a := 1) (b := 1) (by decide +kernel)) (iv_c 0 (a := 0) (b := 0) (by decide +kernel)) (by decide +kernel)) (by decide +kernel))).elim
                · refine lv_iload_n X.1 X.2.1 dX12_sum_66 rfl (lv_at hl 3 rfl) ?_
                  obtain ⟨g45, eg45⟩ : ∃ y : Int64, y = (z3_1 : Int32).toInt64 := ⟨_, rfl⟩
                  refine lv_i2l (v := g45) X.1 X.2.1 dX12_sum_67 eg45.symm ?_
                  refine lv_lload_n X.1 X.2.1 dX12_sum_68 rfl (lv_at hl 0 rfl) ?_
                  refine lv_ladd X.1 X.2.1 dX12_sum_69 ?_
                  refine lv_topl (fun g46 eg46 => ?_)
                  refine lv_goto (tgt := 77) X.1 X.2.1 dX12_sum_70 (by decide) ?_
                  refine ca_X12_within X hK (ke_toKT hG (by decide) (by decide) (by decide) (by decide)) hC (fun _ h => h) hS hb g46 wl_8_9 hl.1 (rest := []) rfl (Nat.le_of_ble_eq_true rfl) ⟨Nat.le_of_ble_eq_true rfl, Nat.le_of_ble_eq_true rfl⟩ ⟨Nat.le_of_ble_eq_true rfl, Nat.le_of_ble_eq_true rfl⟩ dX12_sum_77 (fun f47 locs hf47 hS => ?_)
                  refine lv_istore_n (lv' := [(1, .int f47), (3, .long g43), (2, .int 1), (0, .ref a0)]) X.1 X.2.1 dX12_sum_80 rfl hl (by decide) rfl (fun ls hl => ?_)
                  refine lv_goto (tgt := 5) X.1 X.2.1 dX12_sum_81 (by decide) ?_
                  exact ih3 H _ _ f47 (av42) (bv42).1 (bv42).2 (vq_pgw p2v42 (by decide)) hG hS (lv_sub hl [3, 0] rfl) (xf3.trans (vL_step (opP_43 mi16) pv42 (vq_l2 gav42 (vX_ge (sgU2 P) (sgL2 P) av42).1) (vC_lt (b := sgU2 P) (n := sgL2 P) (by rw [mi16]; decide)).2)) (by omega)
              · have hG := hBf41.2.2.2
                rw [htf41] at hG
                obtain ⟨g48, eg48⟩ : ∃ y : Int64, y = (f41 : Int32).toInt64 := ⟨_, rfl⟩
                refine lv_i2l (v := g48) X.1 X.2.1 dX12_sum_60 eg48.symm ?_
                refine lv_lstore_n (lv' := [(3, .long g48), (2, .int 1), (0, .ref a0), (1, .int z3_1)]) X.1 X.2.1 dX12_sum_61 rfl hl (by decide) rfl (fun ls hl => ?_)
                refine lv_iload_n X.1 X.2.1 dX12_sum_62 rfl (lv_at hl 1 rfl) ?_
                refine lv_if_eq (tgt := 73) X.1 X.2.1 dX12_sum_63 (by decide) (fun c49 => ?_) (fun c49 => ?_)
                · exact ((iv_no (a := 1) (b := 0) (iv_eqm c49 (iv_c 1 (a := 1) (b := 1) (by decide +kernel)) (iv_c 0 (a := 0) (b := 0) (by decide +kernel)) (by decide +kernel)) (by decide +kernel))).elim
                · refine lv_iload_n X.1 X.2.1 dX12_sum_66 rfl (lv_at hl 3 rfl) ?_
                  obtain ⟨g50, eg50⟩ : ∃ y : Int64, y = (z3_1 : Int32).toInt64 := ⟨_, rfl⟩
                  refine lv_i2l (v := g50) X.1 X.2.1 dX12_sum_67 eg50.symm ?_
                  refine lv_lload_n X.1 X.2.1 dX12_sum_68 rfl (lv_at hl 0 rfl) ?_
                  refine lv_ladd X.1 X.2.1 dX12_sum_69 ?_
                  refine lv_topl (fun g51 eg51 => ?_)
                  refine lv_goto (tgt := 77) X.1 X.2.1 dX12_sum_70 (by decide) ?_
                  refine ca_X12_within X hK (ke_toKT hG (vq_bwlo (And.intro w1v42 w2v42)) (vq_bwhi (And.intro w1v42 w2v42)) (by decide) (by decide)) hC (fun _ h => h) hS hb g51 wl_8_9 hl.1 (rest := []) rfl (Nat.le_of_ble_eq_true rfl) ⟨Nat.le_of_ble_eq_true rfl, Nat.le_of_ble_eq_true rfl⟩ ⟨Nat.le_of_ble_eq_true rfl, Nat.le_of_ble_eq_true rfl⟩ dX12_sum_77 (fun f52 locs hf52 hS => ?_)
                  refine lv_istore_n (lv' := [(1, .int f52), (3, .long g48), (2, .int 1), (0, .ref a0)]) X.1 X.2.1 dX12_sum_80 rfl hl (by decide) rfl (fun ls hl => ?_)
                  refine lv_goto (tgt := 5) X.1 X.2.1 dX12_sum_81 (by decide) ?_
                  refine lv_aload_n X.1 X.2.1 dX12_sum_5 rfl (lv_at hl 3 rfl) ?_
                  refine gf_X12_11e X hK hG h0 wl_6_189 dX12_sum_6 (fun f53 hf53 => ?_)
                  have xf53 : f53.toInt = wv42 := vq_iv hf53
                  have yf53 : iv 0 240 f53 := vq_of xf53 (And.intro w1v42 w2v42)
                  refine lv_iconst (v := (-1)) X.1 X.2.1 dX12_sum_9 (by decide +kernel) ?_
                  refine lv_icmp_ne (tgt := 84) X.1 X.2.1 dX12_sum_10 (by decide) (fun c54 => ?_) (fun c54 => ?_)
                  · have i55 : (wv42 = ((-1) : Int)) = False := vq_ne c54 xf53 (by decide +kernel)
                    refine lv_iload_n X.1 X.2.1 dX12_sum_84 rfl (lv_at hl 0 rfl) ?_
                    have spr : vSum (sgU2 P) (sgL2 P) 5 (vX (sgU2 P) (sgL2 P) a) = (false, wv42) := by exact xf3.trans (vL_bad (opP_43 mi16) pv42)
                    have hG := ke_weak (b1 := 0) (b2 := 241) (g1 := wv42) (g2 := wv42) (e1 := 1) (e2 := 6) hG (Int.le_refl _) (Int.le_refl _) (Int.le_refl _) (Int.le_refl _) (by decide) (by decide)
                    exact sg_iret2 X hr hlk hS trivial (fun t ht hW => (Or.inr ⟨_, spr, ((And.intro w1v42 w2v42)).1, ((And.intro w1v42 w2v42)).2, sg_post hb hK hC hG hS ht hW⟩)) dX12_sum_85
                  · have i56 : wv42 = ((-1) : Int) := vq_eq c54 xf53 (by decide +kernel)
                    exact ((iv_no (a := 0) (b := (-1)) (iv_eqm c54 yf53 (iv_c (-1) (a := (-1)) (b := (-1)) (by decide +kernel)) (by decide +kernel)) (by decide +kernel))).elim
          · have i12 : (vE (vC (sgU2 P) (sgL2 P) (vX (sgU2 P) (sgL2 P) a3)) = (43 : Int)) = False := vq_ne c10 xf8 (by decide +kernel)
            have mi12 : (vC (sgU2 P) (sgL2 P) (vX (sgU2 P) (sgL2 P) a3) = (43 : Int)) = False := vE_ne i12 (by decide)
            refine lv_aload_n X.1 X.2.1 dX12_sum_22 rfl (lv_at hl 0 rfl) ?_
            refine ca_X12_look_e X hK hG hC hS hb a0 h0 hl0 b9 hby wl_7_137 hl.1 (rest := []) rfl (Nat.le_of_ble_eq_true rfl) ⟨Nat.le_of_ble_eq_true rfl, Nat.le_of_ble_eq_true rfl⟩ ⟨Nat.le_of_ble_eq_true rfl, Nat.le_of_ble_eq_true rfl⟩ dX12_sum_23 (fun f57 tf57 H locs htf57 hf57 hWf57 hS => ?_)
            have hBf57 := hWf57.2
            have xf57 := hWf57.1
            have hG := hBf57.2.2.2
            rw [htf57] at hG
            rw [vX_idem] at hG xf57
            have yf57 : iv (-1) 255 f57 := vq_lk xf57 (vC_by2 hby _)
            refine lv_bipush (v := 45) X.1 X.2.1 dX12_sum_26 (by decide +kernel) ?_
            refine lv_icmp_ne (tgt := 84) X.1 X.2.1 dX12_sum_28 (by decide) (fun c58 => ?_) (fun c58 => ?_)
            · have i59 : (vE (vC (sgU2 P) (sgL2 P) (vX (sgU2 P) (sgL2 P) a3)) = (45 : Int)) = False := vq_ne c58 xf57 (by decide +kernel)
              have mi59 : (vC (sgU2 P) (sgL2 P) (vX (sgU2 P) (sgL2 P) a3) = (45 : Int)) = False := vE_ne i59 (by decide)
              refine lv_iload_n X.1 X.2.1 dX12_sum_84 rfl (lv_at hl 1 rfl) ?_
              have spr : vSum (sgU2 P) (sgL2 P) 5 (vX (sgU2 P) (sgL2 P) a) = (true, vX (sgU2 P) (sgL2 P) (vX (sgU2 P) (sgL2 P) a3)) := by rw [vX_idem]; exact xf3.trans (vL_stop (opP_no mi12 mi59))
              exact sg_iret2 X hr hlk hS trivial (fun t ht hW => (Or.inl ⟨_, spr, vq_pgw pb9 (by decide), (b9).2, sg_post hb hK hC hG hS ht hW⟩)) dX12_sum_85
            · have i60 : vE (vC (sgU2 P) (sgL2 P) (vX (sgU2 P) (sgL2 P) a3)) = (45 : Int) := vq_eq c58 xf57 (by decide +kernel)
              have mi60 : vC (sgU2 P) (sgL2 P) (vX (sgU2 P) (sgL2 P) a3) = (45 : Int) := vE_eq i60 (by decide)
              refine lv_aload_n X.1 X.2.1 dX12_sum_31 rfl (lv_at hl 0 rfl) ?_
              refine ca_X12_look_e X hK hG hC hS hb a0 h0 hl0 b9 hby wl_7_137 hl.1 (rest := []) rfl (Nat.le_of_ble_eq_true rfl) ⟨Nat.le_of_ble_eq_true rfl, Nat.le_of_ble_eq_true rfl⟩ ⟨Nat.le_of_ble_eq_true rfl, Nat.le_of_ble_eq_true rfl⟩ dX12_sum_32 (fun f61 tf61 H locs htf61 hf61 hWf61 hS => ?_)
              have hBf61 := hWf61.2
              have xf61 := hWf61.1
              have hG := hBf61.2.2.2
              rw [htf61] at hG
              rw [vX_idem] at hG xf61
              have yf61 : iv (-1) 255 f61 := vq_lk xf61 (vC_by2 hby _)
              refine lv_bipush (v := 43) X.1 X.2.1 dX12_sum_35 (by decide +kernel) ?_
              refine lv_icmp_ne (tgt := 44) X.1 X.2.1 dX12_sum_37 (by decide) (fun c62 => ?_) (fun c62 => ?_)
              · have i63 : (vE (vC (sgU2 P) (sgL2 P) (vX (sgU2 P) (sgL2 P) a3)) = (43 : Int)) = False := vq_ne c62 xf61 (by decide +kernel)
                have mi63 : (vC (sgU2 P) (sgL2 P) (vX (sgU2 P) (sgL2 P) a3) = (43 : Int)) = False := vE_ne i63 (by decide)
                refine lv_iconst (v := 0) X.1 X.2.1 dX12_sum_44 (by decide +kernel) ?_
                refine lv_istore_n (lv' := [(2, .int 0), (0, .ref a0), (1, .int z3_1)]) X.1 X.2.1 dX12_sum_45 rfl hl (by decide) rfl (fun ls hl => ?_)
                refine lv_aload_n X.1 X.2.1 dX12_sum_46 rfl (lv_at hl 1 rfl) ?_
                refine lv_dup X.1 X.2.1 dX12_sum_47 rfl ?_
                refine gf_X12_10e X hK hG h0 wl_6_188 dX12_sum_48 (fun f65 hf65 => ?_)
                have xf65 : f65.toInt = (vX (sgU2 P) (sgL2 P) a3) := vq_iv hf65
                have yf65 : iv 0 240 f65 := vq_240 hl0 b9 xf65
                refine lv_iconst (v := 1) X.1 X.2.1 dX12_sum_51 (by decide +kernel) ?_
                refine lv_iadd X.1 X.2.1 dX12_sum_52 ?_
                refine lv_topi (fun f66 ef66 => ?_)
                have xf66 : f66.toInt = ((vX (sgU2 P) (sgL2 P) a3) + 1) := sg_exadd ef66 yf65 (iv_c 1 (a := 1) (b := 1) (by decide +kernel)) (by decide +kernel) xf65 (by decide +kernel)
                refine pf_X12_10E (b1 := ((vX (sgU2 P) (sgL2 P) a3) + 1)) (b2 := ((vX (sgU2 P) (sgL2 P) a3) + 1)) X hK hG hS h0 wl_6_188 (vq_of (lo := ((vX (sgU2 P) (sgL2 P) a3) + 1)) (hi := ((vX (sgU2 P) (sgL2 P) a3) + 1)) xf66 ⟨Int.le_refl _, Int.le_refl _⟩) dX12_sum_53 (fun H locs hG hS => ?_)
                have l67 := (vC_lt (b := sgU2 P) (n := sgL2 P) (a := (vX (sgU2 P) (sgL2 P) a3)) (by rw [mi60]; decide)).2
                have b68 := vq_bd1 b9 l67
                have pb68 : a + 2 ≤ ((vX (sgU2 P) (sgL2 P) a3) + 1) := vq_pg pb9 (m := 1) (Int.le_refl _) (by decide)
                refine lv_aload_n X.1 X.2.1 dX12_sum_56 rfl (lv_at hl 1 rfl) ?_
                refine ca_X12_term_e1 X hK hG hC hS hb a0 h0 hl0 b68 hby wl_7_237 hl.1 (rest := []) rfl (Nat.le_of_ble_eq_true rfl) ⟨Nat.le_of_ble_eq_true rfl, Nat.le_of_ble_eq_true rfl⟩ ⟨Nat.le_of_ble_eq_true rfl, Nat.le_of_ble_eq_true rfl⟩ dX12_sum_57 (fun f69 tf69 H locs htf69 hf69 hWf69 hS => ?_)
                rcases hWf69 with ⟨av70, pv70, gav70, gbv70, hBf69⟩ | ⟨wv70, pv70, w1v70, w2v70, hBf69⟩
                · have hG := hBf69.2.2.2
                  rw [htf69] at hG
                  have bv70 := vq_bd2 (k := 1) b68 (by decide) gav70 gbv70
                  have p2v70 : a + 3 ≤ av70 := vq_pg pb68 gav70 (by decide)
                  obtain ⟨g71, eg71⟩ : ∃ y : Int64, y = (f69 : Int32).toInt64 := ⟨_, rfl⟩
                  refine lv_i2l (v := g71) X.1 X.2.1 dX12_sum_60 eg71.symm ?_
                  refine lv_lstore_n (lv' := [(3, .long g71), (2, .int 0), (0, .ref a0), (1, .int z3_1)]) X.1 X.2.1 dX12_sum_61 rfl hl (by decide) rfl (fun ls hl => ?_)
                  refine lv_iload_n X.1 X.2.1 dX12_sum_62 rfl (lv_at hl 1 rfl) ?_
                  refine lv_if_eq (tgt := 73) X.1 X.2.1 dX12_sum_63 (by decide) (fun c72 => ?_) (fun c72 => ?_)
                  · refine lv_iload_n X.1 X.2.1 dX12_sum_73 rfl (lv_at hl 3 rfl) ?_
                    obtain ⟨g73, eg73⟩ : ∃ y : Int64, y = (z3_1 : Int32).toInt64 := ⟨_, rfl⟩
                    refine lv_i2l (v := g73) X.1 X.2.1 dX12_sum_74 eg73.symm ?_
                    refine lv_lload_n X.1 X.2.1 dX12_sum_75 rfl (lv_at hl 0 rfl) ?_
                    refine lv_lsub X.1 X.2.1 dX12_sum_76 ?_
                    refine lv_topl (fun g74 eg74 => ?_)
                    refine ca_X12_within X hK (ke_toKT hG (by decide) (by decide) (by decide) (by decide)) hC (fun _ h => h) hS hb g74 wl_8_9 hl.1 (rest := []) rfl (Nat.le_of_ble_eq_true rfl) ⟨Nat.le_of_ble_eq_true rfl, Nat.le_of_ble_eq_true rfl⟩ ⟨Nat.le_of_ble_eq_true rfl, Nat.le_of_ble_eq_true rfl⟩ dX12_sum_77 (fun f75 locs hf75 hS => ?_)
                    refine lv_istore_n (lv' := [(1, .int f75), (3, .long g71), (2, .int 0), (0, .ref a0)]) X.1 X.2.1 dX12_sum_80 rfl hl (by decide) rfl (fun ls hl => ?_)
                    refine lv_goto (tgt := 5) X.1 X.2.1 dX12_sum_81 (by decide) ?_
                    exact ih3 H _ _ f75 (av70) (bv70).1 (bv70).2 (vq_pgw p2v70 (by decide)) hG hS (lv_sub hl [3, 0] rfl) (xf3.trans (vL_step (opP_45 mi60) pv70 (vq_l2 gav70 (vX_ge (sgU2 P) (sgL2 P) av70).1) (vC_lt (b := sgU2 P) (n := sgL2 P) (by rw [mi60]; decide)).2)) (by omega)
                  · exact ((c72 (iv_one (iv_c 0 (a := 0) (b := 0) (by decide +kernel)) (iv_c 0 (a := 0) (b := 0) (by decide +kernel)) (by decide +kernel)))).elim
                · have hG := hBf69.2.2.2
                  rw [htf69] at hG
                  obtain ⟨g76, eg76⟩ : ∃ y : Int64, y = (f69 : Int32).toInt64 := ⟨_, rfl⟩
                  refine lv_i2l (v := g76) X.1 X.2.1 dX12_sum_60 eg76.symm ?_
                  refine lv_lstore_n (lv' := [(3, .long g76), (2, .int 0), (0, .ref a0), (1, .int z3_1)]) X.1 X.2.1 dX12_sum_61 rfl hl (by decide) rfl (fun ls hl => ?_)
                  refine lv_iload_n X.1 X.2.1 dX12_sum_62 rfl (lv_at hl 1 rfl) ?_
                  refine lv_if_eq (tgt := 73) X.1 X.2.1 dX12_sum_63 (by decide) (fun c77 => ?_) (fun c77 => ?_)
                  · refine lv_iload_n X.1 X.2.1 dX12_sum_73 rfl (lv_at hl 3 rfl) ?_
                    obtain ⟨g78, eg78⟩ : ∃ y : Int64, y = (z3_1 : Int32).toInt64 := ⟨_, rfl⟩
                    refine lv_i2l (v := g78) X.1 X.2.1 dX12_sum_74 eg78.symm ?_
                    refine lv_lload_n X.1 X.2.1 dX12_sum_75 rfl (lv_at hl 0 rfl) ?_
                    refine lv_lsub X.1 X.2.1 dX12_sum_76 ?_
                    refine lv_topl (fun g79 eg79 => ?_)
                    refine ca_X12_within X hK (ke_toKT hG (vq_bwlo (And.intro w1v70 w2v70)) (vq_bwhi (And.intro w1v70 w2v70)) (by decide) (by decide)) hC (fun _ h => h) hS hb g79 wl_8_9 hl.1 (rest := []) rfl (Nat.le_of_ble_eq_true rfl) ⟨Nat.le_of_ble_eq_true rfl, Nat.le_of_ble_eq_true rfl⟩ ⟨Nat.le_of_ble_eq_true rfl, Nat.le_of_ble_eq_true rfl⟩ dX12_sum_77 (fun f80 locs hf80 hS => ?_)
                    refine lv_istore_n (lv' := [(1, .int f80), (3, .long g76), (2, .int 0), (0, .ref a0)]) X.1 X.2.1 dX12_sum_80 rfl hl (by decide) rfl (fun ls hl => ?_)
                    refine lv_goto (tgt := 5) X.1 X.2.1 dX12_sum_81 (by decide) ?_
                    refine lv_aload_n X.1 X.2.1 dX12_sum_5 rfl (lv_at hl 3 rfl) ?_
                    refine gf_X12_11e X hK hG h0 wl_6_189 dX12_sum_6 (fun f81 hf81 => ?_)
                    have xf81 : f81.toInt = wv70 := vq_iv hf81
                    have yf81 : iv 0 240 f81 := vq_of xf81 (And.intro w1v70 w2v70)
                    refine lv_iconst (v := (-1)) X.1 X.2.1 dX12_sum_9 (by decide +kernel) ?_
                    refine lv_icmp_ne (tgt := 84) X.1 X.2.1 dX12_sum_10 (by decide) (fun c82 => ?_) (fun c82 => ?_)
                    · have i83 : (wv70 = ((-1) : Int)) = False := vq_ne c82 xf81 (by decide +kernel)
                      refine lv_iload_n X.1 X.2.1 dX12_sum_84 rfl (lv_at hl 0 rfl) ?_
                      have spr : vSum (sgU2 P) (sgL2 P) 5 (vX (sgU2 P) (sgL2 P) a) = (false, wv70) := by exact xf3.trans (vL_bad (opP_45 mi60) pv70)
                      have hG := ke_weak (b1 := 0) (b2 := 241) (g1 := wv70) (g2 := wv70) (e1 := 1) (e2 := 6) hG (Int.le_refl _) (Int.le_refl _) (Int.le_refl _) (Int.le_refl _) (by decide) (by decide)
                      exact sg_iret2 X hr hlk hS trivial (fun t ht hW => (Or.inr ⟨_, spr, ((And.intro w1v70 w2v70)).1, ((And.intro w1v70 w2v70)).2, sg_post hb hK hC hG hS ht hW⟩)) dX12_sum_85
                    · have i84 : wv70 = ((-1) : Int) := vq_eq c82 xf81 (by decide +kernel)
                      exact ((iv_no (a := 0) (b := (-1)) (iv_eqm c82 yf81 (iv_c (-1) (a := (-1)) (b := (-1)) (by decide +kernel)) (by decide +kernel)) (by decide +kernel))).elim
                  · exact ((c77 (iv_one (iv_c 0 (a := 0) (b := 0) (by decide +kernel)) (iv_c 0 (a := 0) (b := 0) (by decide +kernel)) (by decide +kernel)))).elim
              · have i64 : vE (vC (sgU2 P) (sgL2 P) (vX (sgU2 P) (sgL2 P) a3)) = (43 : Int) := vq_eq c62 xf61 (by decide +kernel)
                have mi64 : vC (sgU2 P) (sgL2 P) (vX (sgU2 P) (sgL2 P) a3) = (43 : Int) := vE_eq i64 (by decide)
                refine lv_iconst (v := 1) X.1 X.2.1 dX12_sum_40 (by decide +kernel) ?_
                refine lv_goto (tgt := 45) X.1 X.2.1 dX12_sum_41 (by decide) ?_
                refine lv_istore_n (lv' := [(2, .int 1), (0, .ref a0), (1, .int z3_1)]) X.1 X.2.1 dX12_sum_45 rfl hl (by decide) rfl (fun ls hl => ?_)
                refine lv_aload_n X.1 X.2.1 dX12_sum_46 rfl (lv_at hl 1 rfl) ?_
                refine lv_dup X.1 X.2.1 dX12_sum_47 rfl ?_
                refine gf_X12_10e X hK hG h0 wl_6_188 dX12_sum_48 (fun f85 hf85 => ?_)
                have xf85 : f85.toInt = (vX (sgU2 P) (sgL2 P) a3) := vq_iv hf85
                have yf85 : iv 0 240 f85 := vq_240 hl0 b9 xf85
                refine lv_iconst (v := 1) X.1 X.2.1 dX12_sum_51 (by decide +kernel) ?_
                refine lv_iadd X.1 X.2.1 dX12_sum_52 ?_
                refine lv_topi (fun f86 ef86 => ?_)
                have xf86 : f86.toInt = ((vX (sgU2 P) (sgL2 P) a3) + 1) := sg_exadd ef86 yf85 (iv_c 1 (a := 1) (b := 1) (by decide +kernel)) (by decide +kernel) xf85 (by decide +kernel)
                refine pf_X12_10E (b1 := ((vX (sgU2 P) (sgL2 P) a3) + 1)) (b2 := ((vX (sgU2 P) (sgL2 P) a3) + 1)) X hK hG hS h0 wl_6_188 (vq_of (lo := ((vX (sgU2 P) (sgL2 P) a3) + 1)) (hi := ((vX (sgU2 P) (sgL2 P) a3) + 1)) xf86 ⟨Int.le_refl _, Int.le_refl _⟩) dX12_sum_53 (fun H locs hG hS => ?_)
                have l87 := (vC_lt (b := sgU2 P) (n := sgL2 P) (a := (vX (sgU2 P) (sgL2 P) a3)) (by rw [mi60]; decide)).2
                have b88 := vq_bd1 b9 l87
                have pb88 : a + 2 ≤ ((vX (sgU2 P) (sgL2 P) a3) + 1) := vq_pg pb9 (m := 1) (Int.le_refl _) (by decide)
                refine lv_aload_n X.1 X.2.1 dX12_sum_56 rfl (lv_at hl 1 rfl) ?_
                refine ca_X12_term_e1 X hK hG hC hS hb a0 h0 hl0 b88 hby wl_7_237 hl.1 (rest := []) rfl (Nat.le_of_ble_eq_true rfl) ⟨Nat.le_of_ble_eq_true rfl, Nat.le_of_ble_eq_true rfl⟩ ⟨Nat.le_of_ble_eq_true rfl, Nat.le_of_ble_eq_true rfl⟩ dX12_sum_57 (fun f89 tf89 H locs htf89 hf89 hWf89 hS => ?_)
                rcases hWf89 with ⟨av90, pv90, gav90, gbv90, hBf89⟩ | ⟨wv90, pv90, w1v90, w2v90, hBf89⟩
                · have hG := hBf89.2.2.2
                  rw [htf89] at hG
                  have bv90 := vq_bd2 (k := 1) b88 (by decide) gav90 gbv90
                  have p2v90 : a + 3 ≤ av90 := vq_pg pb88 gav90 (by decide)
                  obtain ⟨g91, eg91⟩ : ∃ y : Int64, y = (f89 : Int32).toInt64 := ⟨_, rfl⟩
                  refine lv_i2l (v := g91) X.1 X.2.1 dX12_sum_60 eg91.symm ?_
                  refine lv_lstore_n (lv' := [(3, .long g91), (2, .int 1), (0, .ref a0), (1, .int z3_1)]) X.1 X.2.1 dX12_sum_61 rfl hl (by decide) rfl (fun ls hl => ?_)
                  refine lv_iload_n X.1 X.2.1 dX12_sum_62 rfl (lv_at hl 1 rfl) ?_
                  refine lv_if_eq (tgt := 73) X.1 X.2.1 dX12_sum_63 (by decide) (fun c92 => ?_) (fun c92 => ?_)
                  · exact ((iv_no (a := 1) (b := 0) (iv_eqm c92 (iv_c 1 (a := 1) (b := 1) (by decide +kernel)) (iv_c 0 (a := 0) (b := 0) (by decide +kernel)) (by decide +kernel)) (by decide +kernel))).elim
                  · refine lv_iload_n X.1 X.2.1 dX12_sum_66 rfl (lv_at hl 3 rfl) ?_
                    obtain ⟨g93, eg93⟩ : ∃ y : Int64, y = (z3_1 : Int32).toInt64 := ⟨_, rfl⟩
                    refine lv_i2l (v := g93) X.1 X.2.1 dX12_sum_67 eg93.symm ?_
                    refine lv_lload_n X.1 X.2.1 dX12_sum_68 rfl (lv_at hl 0 rfl) ?_
                    refine lv_ladd X.1 X.2.1 dX12_sum_69 ?_
                    refine lv_topl (fun g94 eg94 => ?_)
                    refine lv_goto (tgt := 77) X.1 X.2.1 dX12_sum_70 (by decide) ?_
                    refine ca_X12_within X hK (ke_toKT hG (by decide) (by decide) (by decide) (by decide)) hC (fun _ h => h) hS hb g94 wl_8_9 hl.1 (rest := []) rfl (Nat.le_of_ble_eq_true rfl) ⟨Nat.le_of_ble_eq_true rfl, Nat.le_of_ble_eq_true rfl⟩ ⟨Nat.le_of_ble_eq_true rfl, Nat.le_of_ble_eq_true rfl⟩ dX12_sum_77 (fun f95 locs hf95 hS => ?_)
                    refine lv_istore_n (lv' := [(1, .int f95), (3, .long g91), (2, .int 1), (0, .ref a0)]) X.1 X.2.1 dX12_sum_80 rfl hl (by decide) rfl (fun ls hl => ?_)
                    refine lv_goto (tgt := 5) X.1 X.2.1 dX12_sum_81 (by decide) ?_
                    exact ih3 H _ _ f95 (av90) (bv90).1 (bv90).2 (vq_pgw p2v90 (by decide)) hG hS (lv_sub hl [3, 0] rfl) (xf3.trans (vL_step (opP_43 mi64) pv90 (vq_l2 gav90 (vX_ge (sgU2 P) (sgL2 P) av90).1) (vC_lt (b := sgU2 P) (n := sgL2 P) (by rw [mi60]; decide)).2)) (by omega)
                · have hG := hBf89.2.2.2
                  rw [htf89] at hG
                  obtain ⟨g96, eg96⟩ : ∃ y : Int64, y = (f89 : Int32).toInt64 := ⟨_, rfl⟩
                  refine lv_i2l (v := g96) X.1 X.2.1 dX12_sum_60 eg96.symm ?_
                  refine lv_lstore_n (lv' := [(3, .long g96), (2, .int 1), (0, .ref a0), (1, .int z3_1)]) X.1 X.2.1 dX12_sum_61 rfl hl (by decide) rfl (fun ls hl => ?_)
                  refine lv_iload_n X.1 X.2.1 dX12_sum_62 rfl (lv_at hl 1 rfl) ?_
                  refine lv_if_eq (tgt := 73) X.1 X.2.1 dX12_sum_63 (by decide) (fun c97 => ?_) (fun c97 => ?_)
                  · exact ((iv_no (a := 1) (b := 0) (iv_eqm c97 (iv_c 1 (a := 1) (b := 1) (by decide +kernel)) (iv_c 0 (a := 0) (b := 0) (by decide +kernel)) (by decide +kernel)) (by decide +kernel))).elim
                  · refine lv_iload_n X.1 X.2.1 dX12_sum_66 rfl (lv_at hl 3 rfl) ?_
                    obtain ⟨g98, eg98⟩ : ∃ y : Int64, y = (z3_1 : Int32).toInt64 := ⟨_, rfl⟩
                    refine lv_i2l (v := g98) X.1 X.2.1 dX12_sum_67 eg98.symm ?_
                    refine lv_lload_n X.1 X.2.1 dX12_sum_68 rfl (lv_at hl 0 rfl) ?_
                    refine lv_ladd X.1 X.2.1 dX12_sum_69 ?_
                    refine lv_topl (fun g99 eg99 => ?_)
                    refine lv_goto (tgt := 77) X.1 X.2.1 dX12_sum_70 (by decide) ?_
                    refine ca_X12_within X hK (ke_toKT hG (vq_bwlo (And.intro w1v90 w2v90)) (vq_bwhi (And.intro w1v90 w2v90)) (by decide) (by decide)) hC (fun _ h => h) hS hb g99 wl_8_9 hl.1 (rest := []) rfl (Nat.le_of_ble_eq_true rfl) ⟨Nat.le_of_ble_eq_true rfl, Nat.le_of_ble_eq_true rfl⟩ ⟨Nat.le_of_ble_eq_true rfl, Nat.le_of_ble_eq_true rfl⟩ dX12_sum_77 (fun f100 locs hf100 hS => ?_)
                    refine lv_istore_n (lv' := [(1, .int f100), (3, .long g96), (2, .int 1), (0, .ref a0)]) X.1 X.2.1 dX12_sum_80 rfl hl (by decide) rfl (fun ls hl => ?_)
                    refine lv_goto (tgt := 5) X.1 X.2.1 dX12_sum_81 (by decide) ?_
                    refine lv_aload_n X.1 X.2.1 dX12_sum_5 rfl (lv_at hl 3 rfl) ?_
                    refine gf_X12_11e X hK hG h0 wl_6_189 dX12_sum_6 (fun f101 hf101 => ?_)
                    have xf101 : f101.toInt = wv90 := vq_iv hf101
                    have yf101 : iv 0 240 f101 := vq_of xf101 (And.intro w1v90 w2v90)
                    refine lv_iconst (v := (-1)) X.1 X.2.1 dX12_sum_9 (by decide +kernel) ?_
                    refine lv_icmp_ne (tgt := 84) X.1 X.2.1 dX12_sum_10 (by decide) (fun c102 => ?_) (fun c102 => ?_)
                    · have i103 : (wv90 = ((-1) : Int)) = False := vq_ne c102 xf101 (by decide +kernel)
                      refine lv_iload_n X.1 X.2.1 dX12_sum_84 rfl (lv_at hl 0 rfl) ?_
                      have spr : vSum (sgU2 P) (sgL2 P) 5 (vX (sgU2 P) (sgL2 P) a) = (false, wv90) := by exact xf3.trans (vL_bad (opP_43 mi64) pv90)
                      have hG := ke_weak (b1 := 0) (b2 := 241) (g1 := wv90) (g2 := wv90) (e1 := 1) (e2 := 6) hG (Int.le_refl _) (Int.le_refl _) (Int.le_refl _) (Int.le_refl _) (by decide) (by decide)
                      exact sg_iret2 X hr hlk hS trivial (fun t ht hW => (Or.inr ⟨_, spr, ((And.intro w1v90 w2v90)).1, ((And.intro w1v90 w2v90)).2, sg_post hb hK hC hG hS ht hW⟩)) dX12_sum_85
                    · have i104 : wv90 = ((-1) : Int) := vq_eq c102 xf101 (by decide +kernel)
                      exact ((iv_no (a := 0) (b := (-1)) (iv_eqm c102 yf101 (iv_c (-1) (a := (-1)) (b := (-1)) (by decide +kernel)) (by decide +kernel)) (by decide +kernel))).elim
    exact B3_5 _ H _ _ f1 (av2) (bv2).1 (bv2).2 (vq_pgw p2v2 (by decide)) hG hS (lv_sub hl [1, 0] rfl) (by rw [vSum_eq]; simp only [pv2, cond_true, cond_false, vB_t, vB_f, if_true, if_false, eq_self, not_true_eq_false, not_false_eq_true, Int.reduceEq, Int.reduceLT, or_false, false_or, or_true, true_or]) (Nat.le_refl _)
  · have hG := hBf1.2.2.2
    rw [htf1] at hG
    refine lv_istore_n (lv' := [(1, .int f1), (0, .ref a0)]) X.1 X.2.1 dX12_sum_4 rfl hl (by decide) rfl (fun ls hl => ?_)
    refine lv_aload_n X.1 X.2.1 dX12_sum_5 rfl (lv_at hl 1 rfl) ?_
    refine gf_X12_11e X hK hG h0 wl_6_189 dX12_sum_6 (fun f105 hf105 => ?_)
    have xf105 : f105.toInt = wv2 := vq_iv hf105
    have yf105 : iv 0 240 f105 := vq_of xf105 (And.intro w1v2 w2v2)
    refine lv_iconst (v := (-1)) X.1 X.2.1 dX12_sum_9 (by decide +kernel) ?_
    refine lv_icmp_ne (tgt := 84) X.1 X.2.1 dX12_sum_10 (by decide) (fun c106 => ?_) (fun c106 => ?_)
    · have i107 : (wv2 = ((-1) : Int)) = False := vq_ne c106 xf105 (by decide +kernel)
      refine lv_iload_n X.1 X.2.1 dX12_sum_84 rfl (lv_at hl 0 rfl) ?_
      have spr : vSum (sgU2 P) (sgL2 P) 5 (vX (sgU2 P) (sgL2 P) a) = (false, wv2) := by rw [vSum_eq]; simp only [pv2, i107, cond_true, cond_false, vB_t, vB_f, if_true, if_false, eq_self, not_true_eq_false, not_false_eq_true, Int.reduceEq, Int.reduceLT, or_false, false_or, or_true, true_or]
      have hG := ke_weak (b1 := 0) (b2 := 241) (g1 := wv2) (g2 := wv2) (e1 := 1) (e2 := 6) hG (Int.le_refl _) (Int.le_refl _) (Int.le_refl _) (Int.le_refl _) (by decide) (by decide)
      exact sg_iret2 X hr hlk hS trivial (fun t ht hW => (Or.inr ⟨_, spr, ((And.intro w1v2 w2v2)).1, ((And.intro w1v2 w2v2)).2, sg_post hb hK hC hG hS ht hW⟩)) dX12_sum_85
    · have i108 : wv2 = ((-1) : Int) := vq_eq c106 xf105 (by decide +kernel)
      exact ((iv_no (a := 0) (b := (-1)) (iv_eqm c106 yf105 (iv_c (-1) (a := (-1)) (b := (-1)) (by decide +kernel)) (by decide +kernel)) (by decide +kernel))).elim

theorem ca_X12_sum_e1  {a : Int} {z : sgZt}  (X : CallFix p m c cc nL s args sg_tbl own) (hK : va_K D vwCl tys s) (hG : sgG (KE a a (-1) (-1) 1 1 z P) D vwCl (fun q : Nat => base ≤ q) tys ad ks H) (hC : sgC base s) (hS : va_S (fun q : Nat => base ≤ q) s.heap H locs) (hb : base ≤ s.heap.size) (a0 : Nat) (h0 : isK ad ks 12 a0) (hl0 : 0 ≤ sgL2 P ∧ sgL2 P ≤ 240) (hav : 0 ≤ a ∧ a ≤ sgL2 P) (hby : sgBy2 P) (hl : Cond.methodLink own index yX12_sum ∈ sg_tbl) (hsize : ls.size = nL) (hst : st0 = [].reverse ++ .ref a0 :: rest) (hW : (rest.map fun v => v.category).sum ≤ 8) (hR : 23 ≤ R.frames ∧ 533 ≤ R.locals) (hf : cells ≤ R.cells ∧ slots ≤ R.slots) (hdg : decode cc pc = .ok (.invokevirtual index, 3)) (kk : ∀ (r : Int32) (t : State) (H1 : Heap) (locs1 : List Loc), t.heap = H1 → (fun r : Int32 => True) r → ((∃ a1 : Int, vSum (sgU2 P) (sgL2 P) 5 (vX (sgU2 P) (sgL2 P) a) = (true, vX (sgU2 P) (sgL2 P) a1) ∧ a + 1 ≤ a1 ∧ a1 ≤ sgL2 P ∧ sgB (KE a1 a1 (-1) (-1) 1 1 z P) D vwCl base tys ad ks t) ∨ (∃ w : Int, vSum (sgU2 P) (sgL2 P) 5 (vX (sgU2 P) (sgL2 P) a) = (false, w) ∧ 0 ≤ w ∧ w ≤ 240 ∧ sgB (KE 0 241 w w 1 6 z P) D vwCl base tys ad ks t)) → va_S (fun q : Nat => base ≤ q) s.heap H1 locs1 → W p l e R s m args below meth c H1 locs1 cells slots Q (F0 m (pc + 3) ls (.int r :: rest))) : W p l e R s m args below meth c H locs cells slots Q (F0 m pc ls st0) :=
  sg_callV2i X hK hG hC hS hb (m_X12_sum_e1 l a0 h0 hl0 hav hby) h0 (k := 12) (ci := 12) rfl (C := RX12) (T := TX12) (N := 53) rfl wl_7_236 wl_1_13 wl_7_235 wl_0_64 (n := 0) (by decide +kernel) rfl rfl rfl hl hsize hst hW hR hf hdg kk

set_option maxHeartbeats 8000000 in
set_option maxRecDepth 100000 in
theorem m_X12_compares_e1_0 (l : Launch) {D : va_G} {base : Nat} {tys : List (ClassId × FieldType)} {ad ks : List Nat} {P : sgPm}{a : Int} {z : sgZt}  (a0 : Nat) (h0 : isK ad ks 12 a0) (x1 : Int32) (h1 : iv 0 0 x1) (x2 : Int32) (hl0 : 0 ≤ sgL2 P ∧ sgL2 P ≤ 240) (hav : 0 ≤ a ∧ a ≤ sgL2 P) (hby : sgBy2 P) : Met l yX12_compares (Cond.code yX12_compares cX12_compares 6 (some .boolean) :: sg_tbl) ({ frames := 23, cells := 0, slots := 0, locals := 533 }) (va_Pc [.ref a0, .int x1, .int x2] (sgB (KE a a (-1) (-1) 1 1 z P) D vwCl base tys ad ks)) (va_Qi (fun r (u : Int32) => u = r ∧ (fun r : Int32 => iv 0 1 r) r) (fun u t => (∃ a1 : Int, vB (vSum (sgU2 P) (sgL2 P) 5 (vX (sgU2 P) (sgL2 P) a)) (vCmp (sgU2 P) (sgL2 P) 5) = (true, vX (sgU2 P) (sgL2 P) a1) ∧ a + 1 ≤ a1 ∧ a1 ≤ sgL2 P ∧ sgB (KE a1 a1 (-1) (-1) 1 1 z P) D vwCl base tys ad ks t) ∨ (∃ w : Int, vB (vSum (sgU2 P) (sgL2 P) 5 (vX (sgU2 P) (sgL2 P) a)) (vCmp (sgU2 P) (sgL2 P) 5) = (false, w) ∧ 0 ≤ w ∧ w ≤ 240 ∧ sgB (KE 0 241 w w 1 6 z P) D vwCl base tys ad ks t)) (fun q : Nat => base ≤ q)) 0 0 (fun q : Nat => base ≤ q) := by
  refine sg_ofW (by decide +kernel) (Nat.le_of_ble_eq_true rfl) (fun p e s m below meth c X hr hlk hb hK hC hG ls hl => ?_)
  have hS : va_S (fun q : Nat => base ≤ q) s.heap s.heap [] := va_S.rf
  have hl : lv_has ls 6 [(0, .ref a0), (1, .int x1), (2, .int x2)] := hl
  refine lv_iload_n X.1 X.2.1 dX12_compares_0 rfl (lv_at hl 1 rfl) ?_
  refine lv_if_eq (tgt := 8) X.1 X.2.1 dX12_compares_1 (by decide) (fun c1 => ?_) (fun c1 => ?_)
  · have i2 : x1.toInt = (0 : Int) := vq_eq c1 rfl (by decide +kernel)
    refine lv_aload_n X.1 X.2.1 dX12_compares_8 rfl (lv_at hl 0 rfl) ?_
    refine ca_X12_sum_e1 X hK hG hC hS hb a0 h0 hl0 hav hby wl_7_233 hl.1 (rest := []) rfl (Nat.le_of_ble_eq_true rfl) ⟨Nat.le_of_ble_eq_true rfl, Nat.le_of_ble_eq_true rfl⟩ ⟨Nat.le_of_ble_eq_true rfl, Nat.le_of_ble_eq_true rfl⟩ dX12_compares_9 (fun f4 tf4 H locs htf4 hf4 hWf4 hS => ?_)
    rcases hWf4 with ⟨av5, pv5, gav5, gbv5, hBf4⟩ | ⟨wv5, pv5, w1v5, w2v5, hBf4⟩
    · have hG := hBf4.2.2.2
      rw [htf4] at hG
      have bv5 := vq_bd2 (k := 1) hav (by decide) gav5 gbv5
      have p2v5 : a + 1 ≤ av5 := vq_pg (vq_pg0 a) gav5 (by decide)
      refine lv_istore_n (lv' := [(3, .int f4), (0, .ref a0), (1, .int x1), (2, .int x2)]) X.1 X.2.1 dX12_compares_12 rfl hl (by decide) rfl (fun ls hl => ?_)
      refine lv_aload_n X.1 X.2.1 dX12_compares_13 rfl (lv_at hl 1 rfl) ?_
      refine gf_X12_11e X hK hG h0 wl_6_189 dX12_compares_14 (fun f6 hf6 => ?_)
      refine lv_iconst (v := (-1)) X.1 X.2.1 dX12_compares_17 (by decide +kernel) ?_
      refine lv_icmp_eq (tgt := 23) X.1 X.2.1 dX12_compares_18 (by decide) (fun c7 => ?_) (fun c7 => ?_)
      · have i8 : ((-1) : Int) = ((-1) : Int) := vq_eq c7 (vq_iv hf6) (by decide +kernel)
        refine lv_aload_n X.1 X.2.1 dX12_compares_23 rfl (lv_at hl 1 rfl) ?_
        refine ca_X12_look_e X hK hG hC hS hb a0 h0 hl0 bv5 hby wl_7_137 hl.1 (rest := []) rfl (Nat.le_of_ble_eq_true rfl) ⟨Nat.le_of_ble_eq_true rfl, Nat.le_of_ble_eq_true rfl⟩ ⟨Nat.le_of_ble_eq_true rfl, Nat.le_of_ble_eq_true rfl⟩ dX12_compares_24 (fun f10 tf10 H locs htf10 hf10 hWf10 hS => ?_)
        have hBf10 := hWf10.2
        have xf10 := hWf10.1
        have hG := hBf10.2.2.2
        rw [htf10] at hG
        have b11 := vq_bdL (b := sgU2 P) bv5
        have eb11 : av5 ≤ vX (sgU2 P) (sgL2 P) av5 := (vX_ge (sgU2 P) (sgL2 P) av5).1
        have pb11 : a + 1 ≤ vX (sgU2 P) (sgL2 P) av5 := Int.le_trans p2v5 (vX_ge (sgU2 P) (sgL2 P) av5).1
        have yf10 : iv (-1) 255 f10 := vq_lk xf10 (vC_by2 hby _)
        refine lv_istore (lv' := [(4, .int f10), (3, .int f4), (0, .ref a0), (1, .int x1), (2, .int x2)]) X.1 X.2.1 dX12_compares_27 hl (by decide) rfl (fun ls hl => ?_)
        refine lv_iload X.1 X.2.1 dX12_compares_29 (lv_at hl 0 rfl) ?_
        refine ca_X12_isSign_e X hK (ke_toKT hG (by decide) (by decide) (by decide) (by decide)) hC (fun _ h => h) hS hb f10 wl_8_20 hl.1 (rest := []) rfl (Nat.le_of_ble_eq_true rfl) ⟨Nat.le_of_ble_eq_true rfl, Nat.le_of_ble_eq_true rfl⟩ ⟨Nat.le_of_ble_eq_true rfl, Nat.le_of_ble_eq_true rfl⟩ dX12_compares_31 (fun f12 locs hf12 hS => ?_)
        refine lv_if_ne (tgt := 42) X.1 X.2.1 dX12_compares_34 (by decide) (fun c13 => ?_) (fun c13 => ?_)
        · have j14 := vq_says1 hf12 c13
          have k15 : (vCm (vC (sgU2 P) (sgL2 P) (vX (sgU2 P) (sgL2 P) av5)) = (0 : Int)) = False := by rw [xf10, vCm_E] at j14; exact j14
          refine lv_aload_n X.1 X.2.1 dX12_compares_42 rfl (lv_at hl 2 rfl) ?_
          refine lv_dup X.1 X.2.1 dX12_compares_43 rfl ?_
          refine gf_X12_10e X hK hG h0 wl_6_188 dX12_compares_44 (fun f18 hf18 => ?_)
          have xf18 : f18.toInt = (vX (sgU2 P) (sgL2 P) av5) := vq_iv hf18
          have yf18 : iv 0 240 f18 := vq_240 hl0 b11 xf18
          refine lv_iconst (v := 1) X.1 X.2.1 dX12_compares_47 (by decide +kernel) ?_
          refine lv_iadd X.1 X.2.1 dX12_compares_48 ?_
          refine lv_topi (fun f19 ef19 => ?_)
          have xf19 : f19.toInt = ((vX (sgU2 P) (sgL2 P) av5) + 1) := sg_exadd ef19 yf18 (iv_c 1 (a := 1) (b := 1) (by decide +kernel)) (by decide +kernel) xf18 (by decide +kernel)
          refine pf_X12_10E (b1 := ((vX (sgU2 P) (sgL2 P) av5) + 1)) (b2 := ((vX (sgU2 P) (sgL2 P) av5) + 1)) X hK hG hS h0 wl_6_188 (vq_of (lo := ((vX (sgU2 P) (sgL2 P) av5) + 1)) (hi := ((vX (sgU2 P) (sgL2 P) av5) + 1)) xf19 ⟨Int.le_refl _, Int.le_refl _⟩) dX12_compares_49 (fun H locs hG hS => ?_)
          have l20 := (vC_lt (b := sgU2 P) (n := sgL2 P) (a := (vX (sgU2 P) (sgL2 P) av5)) (vCm_ne' k15)).2
          have b21 := vq_bd1 b11 l20
          have pb21 : a + 2 ≤ ((vX (sgU2 P) (sgL2 P) av5) + 1) := vq_pg pb11 (m := 1) (Int.le_refl _) (by decide)
          refine lv_aload_n X.1 X.2.1 dX12_compares_52 rfl (lv_at hl 2 rfl) ?_
          refine ca_X12_sum_e1 X hK hG hC hS hb a0 h0 hl0 b21 hby wl_7_233 hl.1 (rest := []) rfl (Nat.le_of_ble_eq_true rfl) ⟨Nat.le_of_ble_eq_true rfl, Nat.le_of_ble_eq_true rfl⟩ ⟨Nat.le_of_ble_eq_true rfl, Nat.le_of_ble_eq_true rfl⟩ dX12_compares_53 (fun f22 tf22 H locs htf22 hf22 hWf22 hS => ?_)
          rcases hWf22 with ⟨av23, pv23, gav23, gbv23, hBf22⟩ | ⟨wv23, pv23, w1v23, w2v23, hBf22⟩
          · have hG := hBf22.2.2.2
            rw [htf22] at hG
            have bv23 := vq_bd2 (k := 1) b21 (by decide) gav23 gbv23
            have p2v23 : a + 3 ≤ av23 := vq_pg pb21 gav23 (by decide)
            refine lv_istore (lv' := [(5, .int f22), (4, .int f10), (3, .int f4), (0, .ref a0), (1, .int x1), (2, .int x2)]) X.1 X.2.1 dX12_compares_56 hl (by decide) rfl (fun ls hl => ?_)
            refine lv_iload X.1 X.2.1 dX12_compares_58 (lv_at hl 1 rfl) ?_
            refine lv_bipush (v := 61) X.1 X.2.1 dX12_compares_60 (by decide +kernel) ?_
            refine lv_icmp_ne (tgt := 79) X.1 X.2.1 dX12_compares_62 (by decide) (fun c24 => ?_) (fun c24 => ?_)
            · have i25 : (vE (vC (sgU2 P) (sgL2 P) (vX (sgU2 P) (sgL2 P) av5)) = (61 : Int)) = False := vq_ne c24 xf10 (by decide +kernel)
              have mi25 : (vC (sgU2 P) (sgL2 P) (vX (sgU2 P) (sgL2 P) av5) = (61 : Int)) = False := vE_ne i25 (by decide)
              refine lv_iload X.1 X.2.1 dX12_compares_79 (lv_at hl 1 rfl) ?_
              refine lv_bipush (v := 60) X.1 X.2.1 dX12_compares_81 (by decide +kernel) ?_
              refine lv_icmp_ne (tgt := 100) X.1 X.2.1 dX12_compares_83 (by decide) (fun c27 => ?_) (fun c27 => ?_)
              · have i28 : (vE (vC (sgU2 P) (sgL2 P) (vX (sgU2 P) (sgL2 P) av5)) = (60 : Int)) = False := vq_ne c27 xf10 (by decide +kernel)
                have mi28 : (vC (sgU2 P) (sgL2 P) (vX (sgU2 P) (sgL2 P) av5) = (60 : Int)) = False := vE_ne i28 (by decide)
                refine lv_iload_n X.1 X.2.1 dX12_compares_100 rfl (lv_at hl 2 rfl) ?_
                refine lv_iload X.1 X.2.1 dX12_compares_101 (lv_at hl 0 rfl) ?_
                refine lv_icmp_le (tgt := 110) X.1 X.2.1 dX12_compares_103 (by decide) (fun c30 => ?_) (fun c30 => ?_)
                · refine lv_iconst (v := 0) X.1 X.2.1 dX12_compares_110 (by decide +kernel) ?_
                  have spr : vB (vSum (sgU2 P) (sgL2 P) 5 (vX (sgU2 P) (sgL2 P) a)) (vCmp (sgU2 P) (sgL2 P) 5) = (true, vX (sgU2 P) (sgL2 P) av23) := by simp only [vCmp, pv5, k15, pv23, cond_true, cond_false, vB_t, vB_f, if_true, if_false, eq_self, not_true_eq_false, not_false_eq_true, Int.reduceEq, Int.reduceLT, or_false, false_or, or_true, true_or]
                  exact sg_zret2 X hr (sg_zn (iv_of (iv_c 0 (a := 0) (b := 0) (by decide +kernel)) (a' := 0) (b' := 1) (by decide +kernel))) hlk hS (iv_of (iv_c 0 (a := 0) (b := 0) (by decide +kernel)) (a' := 0) (b' := 1) (by decide +kernel)) (fun t ht hW => (Or.inl ⟨_, spr, vq_pgw p2v23 (by decide), (bv23).2, sg_post hb hK hC hG hS ht hW⟩)) dX12_compares_111
                · refine lv_iconst (v := 1) X.1 X.2.1 dX12_compares_106 (by decide +kernel) ?_
                  refine lv_goto (tgt := 111) X.1 X.2.1 dX12_compares_107 (by decide) ?_
                  have spr : vB (vSum (sgU2 P) (sgL2 P) 5 (vX (sgU2 P) (sgL2 P) a)) (vCmp (sgU2 P) (sgL2 P) 5) = (true, vX (sgU2 P) (sgL2 P) av23) := by simp only [vCmp, pv5, k15, pv23, cond_true, cond_false, vB_t, vB_f, if_true, if_false, eq_self, not_true_eq_false, not_false_eq_true, Int.reduceEq, Int.reduceLT, or_false, false_or, or_true, true_or]
                  exact sg_zret2 X hr (sg_zn (iv_of (iv_c 1 (a := 1) (b := 1) (by decide +kernel)) (a' := 0) (b' := 1) (by decide +kernel))) hlk hS (iv_of (iv_c 1 (a := 1) (b := 1) (by decide +kernel)) (a' := 0) (b' := 1) (by decide +kernel)) (fun t ht hW => (Or.inl ⟨_, spr, vq_pgw p2v23 (by decide), (bv23).2, sg_post hb hK hC hG hS ht hW⟩)) dX12_compares_111
              · have i29 : vE (vC (sgU2 P) (sgL2 P) (vX (sgU2 P) (sgL2 P) av5)) = (60 : Int) := vq_eq c27 xf10 (by decide +kernel)
                have mi29 : vC (sgU2 P) (sgL2 P) (vX (sgU2 P) (sgL2 P) av5) = (60 : Int) := vE_eq i29 (by decide)
                refine lv_iload_n X.1 X.2.1 dX12_compares_86 rfl (lv_at hl 2 rfl) ?_
                refine lv_iload X.1 X.2.1 dX12_compares_87 (lv_at hl 0 rfl) ?_
                refine lv_icmp_ge (tgt := 96) X.1 X.2.1 dX12_compares_89 (by decide) (fun c31 => ?_) (fun c31 => ?_)
                · refine lv_iconst (v := 0) X.1 X.2.1 dX12_compares_96 (by decide +kernel) ?_
                  refine lv_goto (tgt := 111) X.1 X.2.1 dX12_compares_97 (by decide) ?_
                  have spr : vB (vSum (sgU2 P) (sgL2 P) 5 (vX (sgU2 P) (sgL2 P) a)) (vCmp (sgU2 P) (sgL2 P) 5) = (true, vX (sgU2 P) (sgL2 P) av23) := by simp only [vCmp, pv5, k15, pv23, cond_true, cond_false, vB_t, vB_f, if_true, if_false, eq_self, not_true_eq_false, not_false_eq_true, Int.reduceEq, Int.reduceLT, or_false, false_or, or_true, true_or]
                  exact sg_zret2 X hr (sg_zn (iv_of (iv_c 0 (a := 0) (b := 0) (by decide +kernel)) (a' := 0) (b' := 1) (by decide +kernel))) hlk hS (iv_of (iv_c 0 (a := 0) (b := 0) (by decide +kernel)) (a' := 0) (b' := 1) (by decide +kernel)) (fun t ht hW => (Or.inl ⟨_, spr, vq_pgw p2v23 (by decide), (bv23).2, sg_post hb hK hC hG hS ht hW⟩)) dX12_compares_111
                · refine lv_iconst (v := 1) X.1 X.2.1 dX12_compares_92 (by decide +kernel) ?_
                  refine lv_goto (tgt := 111) X.1 X.2.1 dX12_compares_93 (by decide) ?_
                  have spr : vB (vSum (sgU2 P) (sgL2 P) 5 (vX (sgU2 P) (sgL2 P) a)) (vCmp (sgU2 P) (sgL2 P) 5) = (true, vX (sgU2 P) (sgL2 P) av23) := by simp only [vCmp, pv5, k15, pv23, cond_true, cond_false, vB_t, vB_f, if_true, if_false, eq_self, not_true_eq_false, not_false_eq_true, Int.reduceEq, Int.reduceLT, or_false, false_or, or_true, true_or]
                  exact sg_zret2 X hr (sg_zn (iv_of (iv_c 1 (a := 1) (b := 1) (by decide +kernel)) (a' := 0) (b' := 1) (by decide +kernel))) hlk hS (iv_of (iv_c 1 (a := 1) (b := 1) (by decide +kernel)) (a' := 0) (b' := 1) (by decide +kernel)) (fun t ht hW => (Or.inl ⟨_, spr, vq_pgw p2v23 (by decide), (bv23).2, sg_post hb hK hC hG hS ht hW⟩)) dX12_compares_111
            · have i26 : vE (vC (sgU2 P) (sgL2 P) (vX (sgU2 P) (sgL2 P) av5)) = (61 : Int) := vq_eq c24 xf10 (by decide +kernel)
              have mi26 : vC (sgU2 P) (sgL2 P) (vX (sgU2 P) (sgL2 P) av5) = (61 : Int) := vE_eq i26 (by decide)
              refine lv_iload_n X.1 X.2.1 dX12_compares_65 rfl (lv_at hl 2 rfl) ?_
              refine lv_iload X.1 X.2.1 dX12_compares_66 (lv_at hl 0 rfl) ?_
              refine lv_icmp_ne (tgt := 75) X.1 X.2.1 dX12_compares_68 (by decide) (fun c32 => ?_) (fun c32 => ?_)
              · refine lv_iconst (v := 0) X.1 X.2.1 dX12_compares_75 (by decide +kernel) ?_
                refine lv_goto (tgt := 111) X.1 X.2.1 dX12_compares_76 (by decide) ?_
                have spr : vB (vSum (sgU2 P) (sgL2 P) 5 (vX (sgU2 P) (sgL2 P) a)) (vCmp (sgU2 P) (sgL2 P) 5) = (true, vX (sgU2 P) (sgL2 P) av23) := by simp only [vCmp, pv5, k15, pv23, cond_true, cond_false, vB_t, vB_f, if_true, if_false, eq_self, not_true_eq_false, not_false_eq_true, Int.reduceEq, Int.reduceLT, or_false, false_or, or_true, true_or]
                exact sg_zret2 X hr (sg_zn (iv_of (iv_c 0 (a := 0) (b := 0) (by decide +kernel)) (a' := 0) (b' := 1) (by decide +kernel))) hlk hS (iv_of (iv_c 0 (a := 0) (b := 0) (by decide +kernel)) (a' := 0) (b' := 1) (by decide +kernel)) (fun t ht hW => (Or.inl ⟨_, spr, vq_pgw p2v23 (by decide), (bv23).2, sg_post hb hK hC hG hS ht hW⟩)) dX12_compares_111
              · refine lv_iconst (v := 1) X.1 X.2.1 dX12_compares_71 (by decide +kernel) ?_
                refine lv_goto (tgt := 111) X.1 X.2.1 dX12_compares_72 (by decide) ?_
                have spr : vB (vSum (sgU2 P) (sgL2 P) 5 (vX (sgU2 P) (sgL2 P) a)) (vCmp (sgU2 P) (sgL2 P) 5) = (true, vX (sgU2 P) (sgL2 P) av23) := by simp only [vCmp, pv5, k15, pv23, cond_true, cond_false, vB_t, vB_f, if_true, if_false, eq_self, not_true_eq_false, not_false_eq_true, Int.reduceEq, Int.reduceLT, or_false, false_or, or_true, true_or]
                exact sg_zret2 X hr (sg_zn (iv_of (iv_c 1 (a := 1) (b := 1) (by decide +kernel)) (a' := 0) (b' := 1) (by decide +kernel))) hlk hS (iv_of (iv_c 1 (a := 1) (b := 1) (by decide +kernel)) (a' := 0) (b' := 1) (by decide +kernel)) (fun t ht hW => (Or.inl ⟨_, spr, vq_pgw p2v23 (by decide), (bv23).2, sg_post hb hK hC hG hS ht hW⟩)) dX12_compares_111
          · have hG := hBf22.2.2.2
            rw [htf22] at hG
            refine lv_istore (lv' := [(5, .int f22), (4, .int f10), (3, .int f4), (0, .ref a0), (1, .int x1), (2, .int x2)]) X.1 X.2.1 dX12_compares_56 hl (by decide) rfl (fun ls hl => ?_)
            refine lv_iload X.1 X.2.1 dX12_compares_58 (lv_at hl 1 rfl) ?_
            refine lv_bipush (v := 61) X.1 X.2.1 dX12_compares_60 (by decide +kernel) ?_
            refine lv_icmp_ne (tgt := 79) X.1 X.2.1 dX12_compares_62 (by decide) (fun c33 => ?_) (fun c33 => ?_)
            · have i34 : (vE (vC (sgU2 P) (sgL2 P) (vX (sgU2 P) (sgL2 P) av5)) = (61 : Int)) = False := vq_ne c33 xf10 (by decide +kernel)
              have mi34 : (vC (sgU2 P) (sgL2 P) (vX (sgU2 P) (sgL2 P) av5) = (61 : Int)) = False := vE_ne i34 (by decide)
              refine lv_iload X.1 X.2.1 dX12_compares_79 (lv_at hl 1 rfl) ?_
              refine lv_bipush (v := 60) X.1 X.2.1 dX12_compares_81 (by decide +kernel) ?_
              refine lv_icmp_ne (tgt := 100) X.1 X.2.1 dX12_compares_83 (by decide) (fun c36 => ?_) (fun c36 => ?_)
              · have i37 : (vE (vC (sgU2 P) (sgL2 P) (vX (sgU2 P) (sgL2 P) av5)) = (60 : Int)) = False := vq_ne c36 xf10 (by decide +kernel)
                have mi37 : (vC (sgU2 P) (sgL2 P) (vX (sgU2 P) (sgL2 P) av5) = (60 : Int)) = False := vE_ne i37 (by decide)
                refine lv_iload_n X.1 X.2.1 dX12_compares_100 rfl (lv_at hl 2 rfl) ?_
                refine lv_iload X.1 X.2.1 dX12_compares_101 (lv_at hl 0 rfl) ?_
                refine lv_icmp_le (tgt := 110) X.1 X.2.1 dX12_compares_103 (by decide) (fun c39 => ?_) (fun c39 => ?_)
                · refine lv_iconst (v := 0) X.1 X.2.1 dX12_compares_110 (by decide +kernel) ?_
                  have spr : vB (vSum (sgU2 P) (sgL2 P) 5 (vX (sgU2 P) (sgL2 P) a)) (vCmp (sgU2 P) (sgL2 P) 5) = (false, wv23) := by simp only [vCmp, pv5, k15, pv23, cond_true, cond_false, vB_t, vB_f, if_true, if_false, eq_self, not_true_eq_false, not_false_eq_true, Int.reduceEq, Int.reduceLT, or_false, false_or, or_true, true_or]
                  have hG := ke_weak (b1 := 0) (b2 := 241) (g1 := wv23) (g2 := wv23) (e1 := 1) (e2 := 6) hG (Int.le_refl _) (Int.le_refl _) (Int.le_refl _) (Int.le_refl _) (by decide) (by decide)
                  exact sg_zret2 X hr (sg_zn (iv_of (iv_c 0 (a := 0) (b := 0) (by decide +kernel)) (a' := 0) (b' := 1) (by decide +kernel))) hlk hS (iv_of (iv_c 0 (a := 0) (b := 0) (by decide +kernel)) (a' := 0) (b' := 1) (by decide +kernel)) (fun t ht hW => (Or.inr ⟨_, spr, ((And.intro w1v23 w2v23)).1, ((And.intro w1v23 w2v23)).2, sg_post hb hK hC hG hS ht hW⟩)) dX12_compares_111
                · refine lv_iconst (v := 1) X.1 X.2.1 dX12_compares_106 (by decide +kernel) ?_
                  refine lv_goto (tgt := 111) X.1 X.2.1 dX12_compares_107 (by decide) ?_
                  have spr : vB (vSum (sgU2 P) (sgL2 P) 5 (vX (sgU2 P) (sgL2 P) a)) (vCmp (sgU2 P) (sgL2 P) 5) = (false, wv23) := by simp only [vCmp, pv5, k15, pv23, cond_true, cond_false, vB_t, vB_f, if_true, if_false, eq_self, not_true_eq_false, not_false_eq_true, Int.reduceEq, Int.reduceLT, or_false, false_or, or_true, true_or]
                  have hG := ke_weak (b1 := 0) (b2 := 241) (g1 := wv23) (g2 := wv23) (e1 := 1) (e2 := 6) hG (Int.le_refl _) (Int.le_refl _) (Int.le_refl _) (Int.le_refl _) (by decide) (by decide)
                  exact sg_zret2 X hr (sg_zn (iv_of (iv_c 1 (a := 1) (b := 1) (by decide +kernel)) (a' := 0) (b' := 1) (by decide +kernel))) hlk hS (iv_of (iv_c 1 (a := 1) (b := 1) (by decide +kernel)) (a' := 0) (b' := 1) (by decide +kernel)) (fun t ht hW => (Or.inr ⟨_, spr, ((And.intro w1v23 w2v23)).1, ((And.intro w1v23 w2v23)).2, sg_post hb hK hC hG hS ht hW⟩)) dX12_compares_111
              · have i38 : vE (vC (sgU2 P) (sgL2 P) (vX (sgU2 P) (sgL2 P) av5)) = (60 : Int) := vq_eq c36 xf10 (by decide +kernel)
                have mi38 : vC (sgU2 P) (sgL2 P) (vX (sgU2 P) (sgL2 P) av5) = (60 : Int) := vE_eq i38 (by decide)
                refine lv_iload_n X.1 X.2.1 dX12_compares_86 rfl (lv_at hl 2 rfl) ?_
                refine lv_iload X.1 X.2.1 dX12_compares_87 (lv_at hl 0 rfl) ?_
                refine lv_icmp_ge (tgt := 96) X.1 X.2.1 dX12_compares_89 (by decide) (fun c40 => ?_) (fun c40 => ?_)
                · refine lv_iconst (v := 0) X.1 X.2.1 dX12_compares_96 (by decide +kernel) ?_
                  refine lv_goto (tgt := 111) X.1 X.2.1 dX12_compares_97 (by decide) ?_
                  have spr : vB (vSum (sgU2 P) (sgL2 P) 5 (vX (sgU2 P) (sgL2 P) a)) (vCmp (sgU2 P) (sgL2 P) 5) = (false, wv23) := by simp only [vCmp, pv5, k15, pv23, cond_true, cond_false, vB_t, vB_f, if_true, if_false, eq_self, not_true_eq_false, not_false_eq_true, Int.reduceEq, Int.reduceLT, or_false, false_or, or_true, true_or]
                  have hG := ke_weak (b1 := 0) (b2 := 241) (g1 := wv23) (g2 := wv23) (e1 := 1) (e2 := 6) hG (Int.le_refl _) (Int.le_refl _) (Int.le_refl _) (Int.le_refl _) (by decide) (by decide)
                  exact sg_zret2 X hr (sg_zn (iv_of (iv_c 0 (a := 0) (b := 0) (by decide +kernel)) (a' := 0) (b' := 1) (by decide +kernel))) hlk hS (iv_of (iv_c 0 (a := 0) (b := 0) (by decide +kernel)) (a' := 0) (b' := 1) (by decide +kernel)) (fun t ht hW => (Or.inr ⟨_, spr, ((And.intro w1v23 w2v23)).1, ((And.intro w1v23 w2v23)).2, sg_post hb hK hC hG hS ht hW⟩)) dX12_compares_111
                · refine lv_iconst (v := 1) X.1 X.2.1 dX12_compares_92 (by decide +kernel) ?_
                  refine lv_goto (tgt := 111) X.1 X.2.1 dX12_compares_93 (by decide) ?_
                  have spr : vB (vSum (sgU2 P) (sgL2 P) 5 (vX (sgU2 P) (sgL2 P) a)) (vCmp (sgU2 P) (sgL2 P) 5) = (false, wv23) := by simp only [vCmp, pv5, k15, pv23, cond_true, cond_false, vB_t, vB_f, if_true, if_false, eq_self, not_true_eq_false, not_false_eq_true, Int.reduceEq, Int.reduceLT, or_false, false_or, or_true, true_or]
                  have hG := ke_weak (b1 := 0) (b2 := 241) (g1 := wv23) (g2 := wv23) (e1 := 1) (e2 := 6) hG (Int.le_refl _) (Int.le_refl _) (Int.le_refl _) (Int.le_refl _) (by decide) (by decide)
                  exact sg_zret2 X hr (sg_zn (iv_of (iv_c 1 (a := 1) (b := 1) (by decide +kernel)) (a' := 0) (b' := 1) (by decide +kernel))) hlk hS (iv_of (iv_c 1 (a := 1) (b := 1) (by decide +kernel)) (a' := 0) (b' := 1) (by decide +kernel)) (fun t ht hW => (Or.inr ⟨_, spr, ((And.intro w1v23 w2v23)).1, ((And.intro w1v23 w2v23)).2, sg_post hb hK hC hG hS ht hW⟩)) dX12_compares_111
            · have i35 : vE (vC (sgU2 P) (sgL2 P) (vX (sgU2 P) (sgL2 P) av5)) = (61 : Int) := vq_eq c33 xf10 (by decide +kernel)
              have mi35 : vC (sgU2 P) (sgL2 P) (vX (sgU2 P) (sgL2 P) av5) = (61 : Int) := vE_eq i35 (by decide)
              refine lv_iload_n X.1 X.2.1 dX12_compares_65 rfl (lv_at hl 2 rfl) ?_
              refine lv_iload X.1 X.2.1 dX12_compares_66 (lv_at hl 0 rfl) ?_
              refine lv_icmp_ne (tgt := 75) X.1 X.2.1 dX12_compares_68 (by decide) (fun c41 => ?_) (fun c41 => ?_)
              · refine lv_iconst (v := 0) X.1 X.2.1 dX12_compares_75 (by decide +kernel) ?_
                refine lv_goto (tgt := 111) X.1 X.2.1 dX12_compares_76 (by decide) ?_
                have spr : vB (vSum (sgU2 P) (sgL2 P) 5 (vX (sgU2 P) (sgL2 P) a)) (vCmp (sgU2 P) (sgL2 P) 5) = (false, wv23) := by simp only [vCmp, pv5, k15, pv23, cond_true, cond_false, vB_t, vB_f, if_true, if_false, eq_self, not_true_eq_false, not_false_eq_true, Int.reduceEq, Int.reduceLT, or_false, false_or, or_true, true_or]
                have hG := ke_weak (b1 := 0) (b2 := 241) (g1 := wv23) (g2 := wv23) (e1 := 1) (e2 := 6) hG (Int.le_refl _) (Int.le_refl _) (Int.le_refl _) (Int.le_refl _) (by decide) (by decide)
                exact sg_zret2 X hr (sg_zn (iv_of (iv_c 0 (a := 0) (b := 0) (by decide +kernel)) (a' := 0) (b' := 1) (by decide +kernel))) hlk hS (iv_of (iv_c 0 (a := 0) (b := 0) (by decide +kernel)) (a' := 0) (b' := 1) (by decide +kernel)) (fun t ht hW => (Or.inr ⟨_, spr, ((And.intro w1v23 w2v23)).1, ((And.intro w1v23 w2v23)).2, sg_post hb hK hC hG hS ht hW⟩)) dX12_compares_111
              · refine lv_iconst (v := 1) X.1 X.2.1 dX12_compares_71 (by decide +kernel) ?_
                refine lv_goto (tgt := 111) X.1 X.2.1 dX12_compares_72 (by decide) ?_
                have spr : vB (vSum (sgU2 P) (sgL2 P) 5 (vX (sgU2 P) (sgL2 P) a)) (vCmp (sgU2 P) (sgL2 P) 5) = (false, wv23) := by simp only [vCmp, pv5, k15, pv23, cond_true, cond_false, vB_t, vB_f, if_true, if_false, eq_self, not_true_eq_false, not_false_eq_true, Int.reduceEq, Int.reduceLT, or_false, false_or, or_true, true_or]
                have hG := ke_weak (b1 := 0) (b2 := 241) (g1 := wv23) (g2 := wv23) (e1 := 1) (e2 := 6) hG (Int.le_refl _) (Int.le_refl _) (Int.le_refl _) (Int.le_refl _) (by decide) (by decide)
                exact sg_zret2 X hr (sg_zn (iv_of (iv_c 1 (a := 1) (b := 1) (by decide +kernel)) (a' := 0) (b' := 1) (by decide +kernel))) hlk hS (iv_of (iv_c 1 (a := 1) (b := 1) (by decide +kernel)) (a' := 0) (b' := 1) (by decide +kernel)) (fun t ht hW => (Or.inr ⟨_, spr, ((And.intro w1v23 w2v23)).1, ((And.intro w1v23 w2v23)).2, sg_post hb hK hC hG hS ht hW⟩)) dX12_compares_111
        · have j16 := vq_says0 hf12 c13
          have k17 : vCm (vC (sgU2 P) (sgL2 P) (vX (sgU2 P) (sgL2 P) av5)) = (0 : Int) := by rw [xf10, vCm_E] at j16; exact j16
          refine lv_aload_n X.1 X.2.1 dX12_compares_37 rfl (lv_at hl 2 rfl) ?_
          refine ca_X12_fails_e X hK hG hC hS hb a0 h0 hl0 b11 wl_7_141 hl.1 (rest := []) rfl (Nat.le_of_ble_eq_true rfl) ⟨Nat.le_of_ble_eq_true rfl, Nat.le_of_ble_eq_true rfl⟩ ⟨Nat.le_of_ble_eq_true rfl, Nat.le_of_ble_eq_true rfl⟩ dX12_compares_38 (fun f42 tf42 H locs htf42 hf42 hWf42 hS => ?_)
          have hG := hWf42.2.2.2
          rw [htf42] at hG
          obtain rfl : f42 = 0 := sg_is0 hf42
          have spr : vB (vSum (sgU2 P) (sgL2 P) 5 (vX (sgU2 P) (sgL2 P) a)) (vCmp (sgU2 P) (sgL2 P) 5) = (false, (vX (sgU2 P) (sgL2 P) av5)) := by simp only [vCmp, pv5, k17, cond_true, cond_false, vB_t, vB_f, if_true, if_false, eq_self, not_true_eq_false, not_false_eq_true, Int.reduceEq, Int.reduceLT, or_false, false_or, or_true, true_or]
          have hG := ke_weak (b1 := 0) (b2 := 241) (g1 := (vX (sgU2 P) (sgL2 P) av5)) (g2 := (vX (sgU2 P) (sgL2 P) av5)) (e1 := 1) (e2 := 6) hG (b11).1 (Int.le_trans (b11).2 (Int.le_trans hl0.2 (by decide))) (Int.le_refl _) (Int.le_refl _) (by decide) (by decide)
          exact sg_zret2 X hr (sg_zn (iv_of (iv_c 0 (a := 0) (b := 0) (by decide +kernel)) (a' := 0) (b' := 1) (by decide +kernel))) hlk hS (iv_of (iv_c 0 (a := 0) (b := 0) (by decide +kernel)) (a' := 0) (b' := 1) (by decide +kernel)) (fun t ht hW => (Or.inr ⟨_, spr, ((vq_bw b11 hl0)).1, ((vq_bw b11 hl0)).2, sg_post hb hK hC hG hS ht hW⟩)) dX12_compares_41
      · have i9 : (((-1) : Int) = ((-1) : Int)) = False := vq_ne c7 (vq_iv hf6) (by decide +kernel)
        exact ((c7 (iv_one hf6 (iv_c (-1) (a := (-1)) (b := (-1)) (by decide +kernel)) (by decide +kernel)))).elim
    · have hG := hBf4.2.2.2
      rw [htf4] at hG
      refine lv_istore_n (lv' := [(3, .int f4), (0, .ref a0), (1, .int x1), (2, .int x2)]) X.1 X.2.1 dX12_compares_12 rfl hl (by decide) rfl (fun ls hl => ?_)
      refine lv_aload_n X.1 X.2.1 dX12_compares_13 rfl (lv_at hl 1 rfl) ?_
      refine gf_X12_11e X hK hG h0 wl_6_189 dX12_compares_14 (fun f43 hf43 => ?_)
      have xf43 : f43.toInt = wv5 := vq_iv hf43
      have yf43 : iv 0 240 f43 := vq_of xf43 (And.intro w1v5 w2v5)
      refine lv_iconst (v := (-1)) X.1 X.2.1 dX12_compares_17 (by decide +kernel) ?_
      refine lv_icmp_eq (tgt := 23) X.1 X.2.1 dX12_compares_18 (by decide) (fun c44 => ?_) (fun c44 => ?_)
      · have i45 : wv5 = ((-1) : Int) := vq_eq c44 xf43 (by decide +kernel)
        exact ((iv_no (a := 0) (b := (-1)) (iv_eqm c44 yf43 (iv_c (-1) (a := (-1)) (b := (-1)) (by decide +kernel)) (by decide +kernel)) (by decide +kernel))).elim
      · have i46 : (wv5 = ((-1) : Int)) = False := vq_ne c44 xf43 (by decide +kernel)
        refine lv_iconst (v := 0) X.1 X.2.1 dX12_compares_21 (by decide +kernel) ?_
        have spr : vB (vSum (sgU2 P) (sgL2 P) 5 (vX (sgU2 P) (sgL2 P) a)) (vCmp (sgU2 P) (sgL2 P) 5) = (false, wv5) := by simp only [vCmp, pv5, cond_true, cond_false, vB_t, vB_f, if_true, if_false, eq_self, not_true_eq_false, not_false_eq_true, Int.reduceEq, Int.reduceLT, or_false, false_or, or_true, true_or]
        have hG := ke_weak (b1 := 0) (b2 := 241) (g1 := wv5) (g2 := wv5) (e1 := 1) (e2 := 6) hG (Int.le_refl _) (Int.le_refl _) (Int.le_refl _) (Int.le_refl _) (by decide) (by decide)
        exact sg_zret2 X hr (sg_zn (iv_of (iv_c 0 (a := 0) (b := 0) (by decide +kernel)) (a' := 0) (b' := 1) (by decide +kernel))) hlk hS (iv_of (iv_c 0 (a := 0) (b := 0) (by decide +kernel)) (a' := 0) (b' := 1) (by decide +kernel)) (fun t ht hW => (Or.inr ⟨_, spr, ((And.intro w1v5 w2v5)).1, ((And.intro w1v5 w2v5)).2, sg_post hb hK hC hG hS ht hW⟩)) dX12_compares_22
  · have i3 : (x1.toInt = (0 : Int)) = False := vq_ne c1 rfl (by decide +kernel)
    exact ((c1 (iv_one h1 (iv_c 0 (a := 0) (b := 0) (by decide +kernel)) (by decide +kernel)))).elim

theorem ca_X12_compares_e1_0  {a : Int} {z : sgZt}  (X : CallFix p m c cc nL s args sg_tbl own) (hK : va_K D vwCl tys s) (hG : sgG (KE a a (-1) (-1) 1 1 z P) D vwCl (fun q : Nat => base ≤ q) tys ad ks H) (hC : sgC base s) (hS : va_S (fun q : Nat => base ≤ q) s.heap H locs) (hb : base ≤ s.heap.size) (a0 : Nat) (h0 : isK ad ks 12 a0) (x1 : Int32) (h1 : iv 0 0 x1) (x2 : Int32) (hl0 : 0 ≤ sgL2 P ∧ sgL2 P ≤ 240) (hav : 0 ≤ a ∧ a ≤ sgL2 P) (hby : sgBy2 P) (hl : Cond.methodLink own index yX12_compares ∈ sg_tbl) (hsize : ls.size = nL) (hst : st0 = [.int x1, .int x2].reverse ++ .ref a0 :: rest) (hW : (rest.map fun v => v.category).sum ≤ 8) (hR : 24 ≤ R.frames ∧ 558 ≤ R.locals) (hf : cells ≤ R.cells ∧ slots ≤ R.slots) (hdg : decode cc pc = .ok (.invokevirtual index, 3)) (kk : ∀ (r : Int32) (t : State) (H1 : Heap) (locs1 : List Loc), t.heap = H1 → (fun r : Int32 => iv 0 1 r) r → ((∃ a1 : Int, vB (vSum (sgU2 P) (sgL2 P) 5 (vX (sgU2 P) (sgL2 P) a)) (vCmp (sgU2 P) (sgL2 P) 5) = (true, vX (sgU2 P) (sgL2 P) a1) ∧ a + 1 ≤ a1 ∧ a1 ≤ sgL2 P ∧ sgB (KE a1 a1 (-1) (-1) 1 1 z P) D vwCl base tys ad ks t) ∨ (∃ w : Int, vB (vSum (sgU2 P) (sgL2 P) 5 (vX (sgU2 P) (sgL2 P) a)) (vCmp (sgU2 P) (sgL2 P) 5) = (false, w) ∧ 0 ≤ w ∧ w ≤ 240 ∧ sgB (KE 0 241 w w 1 6 z P) D vwCl base tys ad ks t)) → va_S (fun q : Nat => base ≤ q) s.heap H1 locs1 → W p l e R s m args below meth c H1 locs1 cells slots Q (F0 m (pc + 3) ls (.int r :: rest))) : W p l e R s m args below meth c H locs cells slots Q (F0 m pc ls st0) :=
  sg_callV2i X hK hG hC hS hb (m_X12_compares_e1_0 l a0 h0 x1 h1 x2 hl0 hav hby) h0 (k := 12) (ci := 12) rfl (C := RX12) (T := TX12) (N := 53) rfl wl_7_232 wl_1_13 wl_7_231 wl_0_63 (n := 2) (by decide +kernel) rfl rfl rfl hl hsize hst hW hR hf hdg kk

set_option maxHeartbeats 8000000 in
set_option maxRecDepth 100000 in
theorem m_X12_compares_e1_1 (l : Launch) {D : va_G} {base : Nat} {tys : List (ClassId × FieldType)} {ad ks : List Nat} {P : sgPm}{a : Int} {z : sgZt}  (a0 : Nat) (h0 : isK ad ks 12 a0) (x1 : Int32) (h1 : iv 1 1 x1) (x2 : Int32) (hl0 : 0 ≤ sgL2 P ∧ sgL2 P ≤ 240) (hav : 0 ≤ a ∧ a ≤ sgL2 P) (hby : sgBy2 P) : Met l yX12_compares (Cond.code yX12_compares cX12_compares 6 (some .boolean) :: sg_tbl) ({ frames := 23, cells := 0, slots := 0, locals := 533 }) (va_Pc [.ref a0, .int x1, .int x2] (sgB (KE a a (-1) (-1) 1 1 z P) D vwCl base tys ad ks)) (va_Qi (fun r (u : Int32) => u = r ∧ (fun r : Int32 => iv 0 1 r) r) (fun u t => (∃ a1 : Int, vCmp (sgU2 P) (sgL2 P) 5 (vX (sgU2 P) (sgL2 P) a) = (true, vX (sgU2 P) (sgL2 P) a1) ∧ a + 1 ≤ a1 ∧ a1 ≤ sgL2 P ∧ sgB (KE a1 a1 (-1) (-1) 1 1 z P) D vwCl base tys ad ks t) ∨ (∃ w : Int, vCmp (sgU2 P) (sgL2 P) 5 (vX (sgU2 P) (sgL2 P) a) = (false, w) ∧ 0 ≤ w ∧ w ≤ 240 ∧ sgB (KE 0 241 w w 1 6 z P) D vwCl base tys ad ks t)) (fun q : Nat => base ≤ q)) 0 0 (fun q : Nat => base ≤ q) := by
  refine sg_ofW (by decide +kernel) (Nat.le_of_ble_eq_true rfl) (fun p e s m below meth c X hr hlk hb hK hC hG ls hl => ?_)
  have hS : va_S (fun q : Nat => base ≤ q) s.heap s.heap [] := va_S.rf
  have hl : lv_has ls 6 [(0, .ref a0), (1, .int x1), (2, .int x2)] := hl
  refine lv_iload_n X.1 X.2.1 dX12_compares_0 rfl (lv_at hl 1 rfl) ?_
  refine lv_if_eq (tgt := 8) X.1 X.2.1 dX12_compares_1 (by decide) (fun c1 => ?_) (fun c1 => ?_)
  · have i2 : x1.toInt = (0 : Int) := vq_eq c1 rfl (by decide +kernel)
    exact ((iv_no (a := 1) (b := 0) (iv_eqm c1 h1 (iv_c 0 (a := 0) (b := 0) (by decide +kernel)) (by decide +kernel)) (by decide +kernel))).elim
  · have i3 : (x1.toInt = (0 : Int)) = False := vq_ne c1 rfl (by decide +kernel)
    refine lv_iload_n X.1 X.2.1 dX12_compares_4 rfl (lv_at hl 2 rfl) ?_
    refine lv_goto (tgt := 12) X.1 X.2.1 dX12_compares_5 (by decide) ?_
    refine lv_istore_n (lv' := [(3, .int x2), (0, .ref a0), (1, .int x1), (2, .int x2)]) X.1 X.2.1 dX12_compares_12 rfl hl (by decide) rfl (fun ls hl => ?_)
    refine lv_aload_n X.1 X.2.1 dX12_compares_13 rfl (lv_at hl 1 rfl) ?_
    refine gf_X12_11e X hK hG h0 wl_6_189 dX12_compares_14 (fun f4 hf4 => ?_)
    refine lv_iconst (v := (-1)) X.1 X.2.1 dX12_compares_17 (by decide +kernel) ?_
    refine lv_icmp_eq (tgt := 23) X.1 X.2.1 dX12_compares_18 (by decide) (fun c5 => ?_) (fun c5 => ?_)
    · have i6 : ((-1) : Int) = ((-1) : Int) := vq_eq c5 (vq_iv hf4) (by decide +kernel)
      refine lv_aload_n X.1 X.2.1 dX12_compares_23 rfl (lv_at hl 1 rfl) ?_
      refine ca_X12_look_e X hK hG hC hS hb a0 h0 hl0 hav hby wl_7_137 hl.1 (rest := []) rfl (Nat.le_of_ble_eq_true rfl) ⟨Nat.le_of_ble_eq_true rfl, Nat.le_of_ble_eq_true rfl⟩ ⟨Nat.le_of_ble_eq_true rfl, Nat.le_of_ble_eq_true rfl⟩ dX12_compares_24 (fun f8 tf8 H locs htf8 hf8 hWf8 hS => ?_)
      have hBf8 := hWf8.2
      have xf8 := hWf8.1
      have hG := hBf8.2.2.2
      rw [htf8] at hG
      have b9 := vq_bdL (b := sgU2 P) hav
      have eb9 : a ≤ vX (sgU2 P) (sgL2 P) a := (vX_ge (sgU2 P) (sgL2 P) a).1
      have pb9 : a + 0 ≤ vX (sgU2 P) (sgL2 P) a := Int.le_trans (vq_pg0 a) (vX_ge (sgU2 P) (sgL2 P) a).1
      have yf8 : iv (-1) 255 f8 := vq_lk xf8 (vC_by2 hby _)
      refine lv_istore (lv' := [(4, .int f8), (3, .int x2), (0, .ref a0), (1, .int x1), (2, .int x2)]) X.1 X.2.1 dX12_compares_27 hl (by decide) rfl (fun ls hl => ?_)
      refine lv_iload X.1 X.2.1 dX12_compares_29 (lv_at hl 0 rfl) ?_
      refine ca_X12_isSign_e X hK (ke_toKT hG (by decide) (by decide) (by decide) (by decide)) hC (fun _ h => h) hS hb f8 wl_8_20 hl.1 (rest := []) rfl (Nat.le_of_ble_eq_true rfl) ⟨Nat.le_of_ble_eq_true rfl, Nat.le_of_ble_eq_true rfl⟩ ⟨Nat.le_of_ble_eq_true rfl, Nat.le_of_ble_eq_true rfl⟩ dX12_compares_31 (fun f10 locs hf10 hS => ?_)
      refine lv_if_ne (tgt := 42) X.1 X.2.1 dX12_compares_34 (by decide) (fun c11 => ?_) (fun c11 => ?_)
      · have j12 := vq_says1 hf10 c11
        have k13 : (vCm (vC (sgU2 P) (sgL2 P) (vX (sgU2 P) (sgL2 P) a)) = (0 : Int)) = False := by rw [xf8, vCm_E] at j12; exact j12
        refine lv_aload_n X.1 X.2.1 dX12_compares_42 rfl (lv_at hl 2 rfl) ?_
        refine lv_dup X.1 X.2.1 dX12_compares_43 rfl ?_
        refine gf_X12_10e X hK hG h0 wl_6_188 dX12_compares_44 (fun f16 hf16 => ?_)
        have xf16 : f16.toInt = (vX (sgU2 P) (sgL2 P) a) := vq_iv hf16
        have yf16 : iv 0 240 f16 := vq_240 hl0 b9 xf16
        refine lv_iconst (v := 1) X.1 X.2.1 dX12_compares_47 (by decide +kernel) ?_
        refine lv_iadd X.1 X.2.1 dX12_compares_48 ?_
        refine lv_topi (fun f17 ef17 => ?_)
        have xf17 : f17.toInt = ((vX (sgU2 P) (sgL2 P) a) + 1) := sg_exadd ef17 yf16 (iv_c 1 (a := 1) (b := 1) (by decide +kernel)) (by decide +kernel) xf16 (by decide +kernel)
        refine pf_X12_10E (b1 := ((vX (sgU2 P) (sgL2 P) a) + 1)) (b2 := ((vX (sgU2 P) (sgL2 P) a) + 1)) X hK hG hS h0 wl_6_188 (vq_of (lo := ((vX (sgU2 P) (sgL2 P) a) + 1)) (hi := ((vX (sgU2 P) (sgL2 P) a) + 1)) xf17 ⟨Int.le_refl _, Int.le_refl _⟩) dX12_compares_49 (fun H locs hG hS => ?_)
        have l18 := (vC_lt (b := sgU2 P) (n := sgL2 P) (a := (vX (sgU2 P) (sgL2 P) a)) (vCm_ne' k13)).2
        have b19 := vq_bd1 b9 l18
        have pb19 : a + 1 ≤ ((vX (sgU2 P) (sgL2 P) a) + 1) := vq_pg pb9 (m := 1) (Int.le_refl _) (by decide)
        refine lv_aload_n X.1 X.2.1 dX12_compares_52 rfl (lv_at hl 2 rfl) ?_
        refine ca_X12_sum_e1 X hK hG hC hS hb a0 h0 hl0 b19 hby wl_7_233 hl.1 (rest := []) rfl (Nat.le_of_ble_eq_true rfl) ⟨Nat.le_of_ble_eq_true rfl, Nat.le_of_ble_eq_true rfl⟩ ⟨Nat.le_of_ble_eq_true rfl, Nat.le_of_ble_eq_true rfl⟩ dX12_compares_53 (fun f20 tf20 H locs htf20 hf20 hWf20 hS => ?_)
        rcases hWf20 with ⟨av21, pv21, gav21, gbv21, hBf20⟩ | ⟨wv21, pv21, w1v21, w2v21, hBf20⟩
        · have hG := hBf20.2.2.2
          rw [htf20] at hG
          have bv21 := vq_bd2 (k := 1) b19 (by decide) gav21 gbv21
          have p2v21 : a + 2 ≤ av21 := vq_pg pb19 gav21 (by decide)
          refine lv_istore (lv' := [(5, .int f20), (4, .int f8), (3, .int x2), (0, .ref a0), (1, .int x1), (2, .int x2)]) X.1 X.2.1 dX12_compares_56 hl (by decide) rfl (fun ls hl => ?_)
          refine lv_iload X.1 X.2.1 dX12_compares_58 (lv_at hl 1 rfl) ?_
          refine lv_bipush (v := 61) X.1 X.2.1 dX12_compares_60 (by decide +kernel) ?_
          refine lv_icmp_ne (tgt := 79) X.1 X.2.1 dX12_compares_62 (by decide) (fun c22 => ?_) (fun c22 => ?_)
          · have i23 : (vE (vC (sgU2 P) (sgL2 P) (vX (sgU2 P) (sgL2 P) a)) = (61 : Int)) = False := vq_ne c22 xf8 (by decide +kernel)
            have mi23 : (vC (sgU2 P) (sgL2 P) (vX (sgU2 P) (sgL2 P) a) = (61 : Int)) = False := vE_ne i23 (by decide)
            refine lv_iload X.1 X.2.1 dX12_compares_79 (lv_at hl 1 rfl) ?_
            refine lv_bipush (v := 60) X.1 X.2.1 dX12_compares_81 (by decide +kernel) ?_
            refine lv_icmp_ne (tgt := 100) X.1 X.2.1 dX12_compares_83 (by decide) (fun c25 => ?_) (fun c25 => ?_)
            · have i26 : (vE (vC (sgU2 P) (sgL2 P) (vX (sgU2 P) (sgL2 P) a)) = (60 : Int)) = False := vq_ne c25 xf8 (by decide +kernel)
              have mi26 : (vC (sgU2 P) (sgL2 P) (vX (sgU2 P) (sgL2 P) a) = (60 : Int)) = False := vE_ne i26 (by decide)
              refine lv_iload_n X.1 X.2.1 dX12_compares_100 rfl (lv_at hl 2 rfl) ?_
              refine lv_iload X.1 X.2.1 dX12_compares_101 (lv_at hl 0 rfl) ?_
              refine lv_icmp_le (tgt := 110) X.1 X.2.1 dX12_compares_103 (by decide) (fun c28 => ?_) (fun c28 => ?_)
              · refine lv_iconst (v := 0) X.1 X.2.1 dX12_compares_110 (by decide +kernel) ?_
                have spr : vCmp (sgU2 P) (sgL2 P) 5 (vX (sgU2 P) (sgL2 P) a) = (true, vX (sgU2 P) (sgL2 P) av21) := by simp only [vCmp, k13, pv21, cond_true, cond_false, vB_t, vB_f, if_true, if_false, eq_self, not_true_eq_false, not_false_eq_true, Int.reduceEq, Int.reduceLT, or_false, false_or, or_true, true_or]
                exact sg_zret2 X hr (sg_zn (iv_of (iv_c 0 (a := 0) (b := 0) (by decide +kernel)) (a' := 0) (b' := 1) (by decide +kernel))) hlk hS (iv_of (iv_c 0 (a := 0) (b := 0) (by decide +kernel)) (a' := 0) (b' := 1) (by decide +kernel)) (fun t ht hW => (Or.inl ⟨_, spr, vq_pgw p2v21 (by decide), (bv21).2, sg_post hb hK hC hG hS ht hW⟩)) dX12_compares_111
              · refine lv_iconst (v := 1) X.1 X.2.1 dX12_compares_106 (by decide +kernel) ?_
                refine lv_goto (tgt := 111) X.1 X.2.1 dX12_compares_107 (by decide) ?_
                have spr : vCmp (sgU2 P) (sgL2 P) 5 (vX (sgU2 P) (sgL2 P) a) = (true, vX (sgU2 P) (sgL2 P) av21) := by simp only [vCmp, k13, pv21, cond_true, cond_false, vB_t, vB_f, if_true, if_false, eq_self, not_true_eq_false, not_false_eq_true, Int.reduceEq, Int.reduceLT, or_false, false_or, or_true, true_or]
                exact sg_zret2 X hr (sg_zn (iv_of (iv_c 1 (a := 1) (b := 1) (by decide +kernel)) (a' := 0) (b' := 1) (by decide +kernel))) hlk hS (iv_of (iv_c 1 (a := 1) (b := 1) (by decide +kernel)) (a' := 0) (b' := 1) (by decide +kernel)) (fun t ht hW => (Or.inl ⟨_, spr, vq_pgw p2v21 (by decide), (bv21).2, sg_post hb hK hC hG hS ht hW⟩)) dX12_compares_111
            · have i27 : vE (vC (sgU2 P) (sgL2 P) (vX (sgU2 P) (sgL2 P) a)) = (60 : Int) := vq_eq c25 xf8 (by decide +kernel)
              have mi27 : vC (sgU2 P) (sgL2 P) (vX (sgU2 P) (sgL2 P) a) = (60 : Int) := vE_eq i27 (by decide)
              refine lv_iload_n X.1 X.2.1 dX12_compares_86 rfl (lv_at hl 2 rfl) ?_
              refine lv_iload X.1 X.2.1 dX12_compares_87 (lv_at hl 0 rfl) ?_
              refine lv_icmp_ge (tgt := 96) X.1 X.2.1 dX12_compares_89 (by decide) (fun c29 => ?_) (fun c29 => ?_)
              · refine lv_iconst (v := 0) X.1 X.2.1 dX12_compares_96 (by decide +kernel) ?_
                refine lv_goto (tgt := 111) X.1 X.2.1 dX12_compares_97 (by decide) ?_
                have spr : vCmp (sgU2 P) (sgL2 P) 5 (vX (sgU2 P) (sgL2 P) a) = (true, vX (sgU2 P) (sgL2 P) av21) := by simp only [vCmp, k13, pv21, cond_true, cond_false, vB_t, vB_f, if_true, if_false, eq_self, not_true_eq_false, not_false_eq_true, Int.reduceEq, Int.reduceLT, or_false, false_or, or_true, true_or]
                exact sg_zret2 X hr (sg_zn (iv_of (iv_c 0 (a := 0) (b := 0) (by decide +kernel)) (a' := 0) (b' := 1) (by decide +kernel))) hlk hS (iv_of (iv_c 0 (a := 0) (b := 0) (by decide +kernel)) (a' := 0) (b' := 1) (by decide +kernel)) (fun t ht hW => (Or.inl ⟨_, spr, vq_pgw p2v21 (by decide), (bv21).2, sg_post hb hK hC hG hS ht hW⟩)) dX12_compares_111
              · refine lv_iconst (v := 1) X.1 X.2.1 dX12_compares_92 (by decide +kernel) ?_
                refine lv_goto (tgt := 111) X.1 X.2.1 dX12_compares_93 (by decide) ?_
                have spr : vCmp (sgU2 P) (sgL2 P) 5 (vX (sgU2 P) (sgL2 P) a) = (true, vX (sgU2 P) (sgL2 P) av21) := by simp only [vCmp, k13, pv21, cond_true, cond_false, vB_t, vB_f, if_true, if_false, eq_self, not_true_eq_false, not_false_eq_true, Int.reduceEq, Int.reduceLT, or_false, false_or, or_true, true_or]
                exact sg_zret2 X hr (sg_zn (iv_of (iv_c 1 (a := 1) (b := 1) (by decide +kernel)) (a' := 0) (b' := 1) (by decide +kernel))) hlk hS (iv_of (iv_c 1 (a := 1) (b := 1) (by decide +kernel)) (a' := 0) (b' := 1) (by decide +kernel)) (fun t ht hW => (Or.inl ⟨_, spr, vq_pgw p2v21 (by decide), (bv21).2, sg_post hb hK hC hG hS ht hW⟩)) dX12_compares_111
          · have i24 : vE (vC (sgU2 P) (sgL2 P) (vX (sgU2 P) (sgL2 P) a)) = (61 : Int) := vq_eq c22 xf8 (by decide +kernel)
            have mi24 : vC (sgU2 P) (sgL2 P) (vX (sgU2 P) (sgL2 P) a) = (61 : Int) := vE_eq i24 (by decide)
            refine lv_iload_n X.1 X.2.1 dX12_compares_65 rfl (lv_at hl 2 rfl) ?_
            refine lv_iload X.1 X.2.1 dX12_compares_66 (lv_at hl 0 rfl) ?_
            refine lv_icmp_ne (tgt := 75) X.1 X.2.1 dX12_compares_68 (by decide) (fun c30 => ?_) (fun c30 => ?_)
            · refine lv_iconst (v := 0) X.1 X.2.1 dX12_compares_75 (by decide +kernel) ?_
              refine lv_goto (tgt := 111) X.1 X.2.1 dX12_compares_76 (by decide) ?_
              have spr : vCmp (sgU2 P) (sgL2 P) 5 (vX (sgU2 P) (sgL2 P) a) = (true, vX (sgU2 P) (sgL2 P) av21) := by simp only [vCmp, k13, pv21, cond_true, cond_false, vB_t, vB_f, if_true, if_false, eq_self, not_true_eq_false, not_false_eq_true, Int.reduceEq, Int.reduceLT, or_false, false_or, or_true, true_or]
              exact sg_zret2 X hr (sg_zn (iv_of (iv_c 0 (a := 0) (b := 0) (by decide +kernel)) (a' := 0) (b' := 1) (by decide +kernel))) hlk hS (iv_of (iv_c 0 (a := 0) (b := 0) (by decide +kernel)) (a' := 0) (b' := 1) (by decide +kernel)) (fun t ht hW => (Or.inl ⟨_, spr, vq_pgw p2v21 (by decide), (bv21).2, sg_post hb hK hC hG hS ht hW⟩)) dX12_compares_111
            · refine lv_iconst (v := 1) X.1 X.2.1 dX12_compares_71 (by decide +kernel) ?_
              refine lv_goto (tgt := 111) X.1 X.2.1 dX12_compares_72 (by decide) ?_
              have spr : vCmp (sgU2 P) (sgL2 P) 5 (vX (sgU2 P) (sgL2 P) a) = (true, vX (sgU2 P) (sgL2 P) av21) := by simp only [vCmp, k13, pv21, cond_true, cond_false, vB_t, vB_f, if_true, if_false, eq_self, not_true_eq_false, not_false_eq_true, Int.reduceEq, Int.reduceLT, or_false, false_or, or_true, true_or]
              exact sg_zret2 X hr (sg_zn (iv_of (iv_c 1 (a := 1) (b := 1) (by decide +kernel)) (a' := 0) (b' := 1) (by decide +kernel))) hlk hS (iv_of (iv_c 1 (a := 1) (b := 1) (by decide +kernel)) (a' := 0) (b' := 1) (by decide +kernel)) (fun t ht hW => (Or.inl ⟨_, spr, vq_pgw p2v21 (by decide), (bv21).2, sg_post hb hK hC hG hS ht hW⟩)) dX12_compares_111
        · have hG := hBf20.2.2.2
          rw [htf20] at hG
          refine lv_istore (lv' := [(5, .int f20), (4, .int f8), (3, .int x2), (0, .ref a0), (1, .int x1), (2, .int x2)]) X.1 X.2.1 dX12_compares_56 hl (by decide) rfl (fun ls hl => ?_)
          refine lv_iload X.1 X.2.1 dX12_compares_58 (lv_at hl 1 rfl) ?_
          refine lv_bipush (v := 61) X.1 X.2.1 dX12_compares_60 (by decide +kernel) ?_
          refine lv_icmp_ne (tgt := 79) X.1 X.2.1 dX12_compares_62 (by decide) (fun c31 => ?_) (fun c31 => ?_)
          · have i32 : (vE (vC (sgU2 P) (sgL2 P) (vX (sgU2 P) (sgL2 P) a)) = (61 : Int)) = False := vq_ne c31 xf8 (by decide +kernel)
            have mi32 : (vC (sgU2 P) (sgL2 P) (vX (sgU2 P) (sgL2 P) a) = (61 : Int)) = False := vE_ne i32 (by decide)
            refine lv_iload X.1 X.2.1 dX12_compares_79 (lv_at hl 1 rfl) ?_
            refine lv_bipush (v := 60) X.1 X.2.1 dX12_compares_81 (by decide +kernel) ?_
            refine lv_icmp_ne (tgt := 100) X.1 X.2.1 dX12_compares_83 (by decide) (fun c34 => ?_) (fun c34 => ?_)
            · have i35 : (vE (vC (sgU2 P) (sgL2 P) (vX (sgU2 P) (sgL2 P) a)) = (60 : Int)) = False := vq_ne c34 xf8 (by decide +kernel)
              have mi35 : (vC (sgU2 P) (sgL2 P) (vX (sgU2 P) (sgL2 P) a) = (60 : Int)) = False := vE_ne i35 (by decide)
              refine lv_iload_n X.1 X.2.1 dX12_compares_100 rfl (lv_at hl 2 rfl) ?_
              refine lv_iload X.1 X.2.1 dX12_compares_101 (lv_at hl 0 rfl) ?_
              refine lv_icmp_le (tgt := 110) X.1 X.2.1 dX12_compares_103 (by decide) (fun c37 => ?_) (fun c37 => ?_)
              · refine lv_iconst (v := 0) X.1 X.2.1 dX12_compares_110 (by decide +kernel) ?_
                have spr : vCmp (sgU2 P) (sgL2 P) 5 (vX (sgU2 P) (sgL2 P) a) = (false, wv21) := by simp only [vCmp, k13, pv21, cond_true, cond_false, vB_t, vB_f, if_true, if_false, eq_self, not_true_eq_false, not_false_eq_true, Int.reduceEq, Int.reduceLT, or_false, false_or, or_true, true_or]
                have hG := ke_weak (b1 := 0) (b2 := 241) (g1 := wv21) (g2 := wv21) (e1 := 1) (e2 := 6) hG (Int.le_refl _) (Int.le_refl _) (Int.le_refl _) (Int.le_refl _) (by decide) (by decide)
                exact sg_zret2 X hr (sg_zn (iv_of (iv_c 0 (a := 0) (b := 0) (by decide +kernel)) (a' := 0) (b' := 1) (by decide +kernel))) hlk hS (iv_of (iv_c 0 (a := 0) (b := 0) (by decide +kernel)) (a' := 0) (b' := 1) (by decide +kernel)) (fun t ht hW => (Or.inr ⟨_, spr, ((And.intro w1v21 w2v21)).1, ((And.intro w1v21 w2v21)).2, sg_post hb hK hC hG hS ht hW⟩)) dX12_compares_111
              · refine lv_iconst (v := 1) X.1 X.2.1 dX12_compares_106 (by decide +kernel) ?_
                refine lv_goto (tgt := 111) X.1 X.2.1 dX12_compares_107 (by decide) ?_
                have spr : vCmp (sgU2 P) (sgL2 P) 5 (vX (sgU2 P) (sgL2 P) a) = (false, wv21) := by simp only [vCmp, k13, pv21, cond_true, cond_false, vB_t, vB_f, if_true, if_false, eq_self, not_true_eq_false, not_false_eq_true, Int.reduceEq, Int.reduceLT, or_false, false_or, or_true, true_or]
                have hG := ke_weak (b1 := 0) (b2 := 241) (g1 := wv21) (g2 := wv21) (e1 := 1) (e2 := 6) hG (Int.le_refl _) (Int.le_refl _) (Int.le_refl _) (Int.le_refl _) (by decide) (by decide)
                exact sg_zret2 X hr (sg_zn (iv_of (iv_c 1 (a := 1) (b := 1) (by decide +kernel)) (a' := 0) (b' := 1) (by decide +kernel))) hlk hS (iv_of (iv_c 1 (a := 1) (b := 1) (by decide +kernel)) (a' := 0) (b' := 1) (by decide +kernel)) (fun t ht hW => (Or.inr ⟨_, spr, ((And.intro w1v21 w2v21)).1, ((And.intro w1v21 w2v21)).2, sg_post hb hK hC hG hS ht hW⟩)) dX12_compares_111
            · have i36 : vE (vC (sgU2 P) (sgL2 P) (vX (sgU2 P) (sgL2 P) a)) = (60 : Int) := vq_eq c34 xf8 (by decide +kernel)
              have mi36 : vC (sgU2 P) (sgL2 P) (vX (sgU2 P) (sgL2 P) a) = (60 : Int) := vE_eq i36 (by decide)
              refine lv_iload_n X.1 X.2.1 dX12_compares_86 rfl (lv_at hl 2 rfl) ?_
              refine lv_iload X.1 X.2.1 dX12_compares_87 (lv_at hl 0 rfl) ?_
              refine lv_icmp_ge (tgt := 96) X.1 X.2.1 dX12_compares_89 (by decide) (fun c38 => ?_) (fun c38 => ?_)
              · refine lv_iconst (v := 0) X.1 X.2.1 dX12_compares_96 (by decide +kernel) ?_
                refine lv_goto (tgt := 111) X.1 X.2.1 dX12_compares_97 (by decide) ?_
                have spr : vCmp (sgU2 P) (sgL2 P) 5 (vX (sgU2 P) (sgL2 P) a) = (false, wv21) := by simp only [vCmp, k13, pv21, cond_true, cond_false, vB_t, vB_f, if_true, if_false, eq_self, not_true_eq_false, not_false_eq_true, Int.reduceEq, Int.reduceLT, or_false, false_or, or_true, true_or]
                have hG := ke_weak (b1 := 0) (b2 := 241) (g1 := wv21) (g2 := wv21) (e1 := 1) (e2 := 6) hG (Int.le_refl _) (Int.le_refl _) (Int.le_refl _) (Int.le_refl _) (by decide) (by decide)
                exact sg_zret2 X hr (sg_zn (iv_of (iv_c 0 (a := 0) (b := 0) (by decide +kernel)) (a' := 0) (b' := 1) (by decide +kernel))) hlk hS (iv_of (iv_c 0 (a := 0) (b := 0) (by decide +kernel)) (a' := 0) (b' := 1) (by decide +kernel)) (fun t ht hW => (Or.inr ⟨_, spr, ((And.intro w1v21 w2v21)).1, ((And.intro w1v21 w2v21)).2, sg_post hb hK hC hG hS ht hW⟩)) dX12_compares_111
              · refine lv_iconst (v := 1) X.1 X.2.1 dX12_compares_92 (by decide +kernel) ?_
                refine lv_goto (tgt := 111) X.1 X.2.1 dX12_compares_93 (by decide) ?_
                have spr : vCmp (sgU2 P) (sgL2 P) 5 (vX (sgU2 P) (sgL2 P) a) = (false, wv21) := by simp only [vCmp, k13, pv21, cond_true, cond_false, vB_t, vB_f, if_true, if_false, eq_self, not_true_eq_false, not_false_eq_true, Int.reduceEq, Int.reduceLT, or_false, false_or, or_true, true_or]
                have hG := ke_weak (b1 := 0) (b2 := 241) (g1 := wv21) (g2 := wv21) (e1 := 1) (e2 := 6) hG (Int.le_refl _) (Int.le_refl _) (Int.le_refl _) (Int.le_refl _) (by decide) (by decide)
                exact sg_zret2 X hr (sg_zn (iv_of (iv_c 1 (a := 1) (b := 1) (by decide +kernel)) (a' := 0) (b' := 1) (by decide +kernel))) hlk hS (iv_of (iv_c 1 (a := 1) (b := 1) (by decide +kernel)) (a' := 0) (b' := 1) (by decide +kernel)) (fun t ht hW => (Or.inr ⟨_, spr, ((And.intro w1v21 w2v21)).1, ((And.intro w1v21 w2v21)).2, sg_post hb hK hC hG hS ht hW⟩)) dX12_compares_111
          · have i33 : vE (vC (sgU2 P) (sgL2 P) (vX (sgU2 P) (sgL2 P) a)) = (61 : Int) := vq_eq c31 xf8 (by decide +kernel)
            have mi33 : vC (sgU2 P) (sgL2 P) (vX (sgU2 P) (sgL2 P) a) = (61 : Int) := vE_eq i33 (by decide)
            refine lv_iload_n X.1 X.2.1 dX12_compares_65 rfl (lv_at hl 2 rfl) ?_
            refine lv_iload X.1 X.2.1 dX12_compares_66 (lv_at hl 0 rfl) ?_
            refine lv_icmp_ne (tgt := 75) X.1 X.2.1 dX12_compares_68 (by decide) (fun c39 => ?_) (fun c39 => ?_)
            · refine lv_iconst (v := 0) X.1 X.2.1 dX12_compares_75 (by decide +kernel) ?_
              refine lv_goto (tgt := 111) X.1 X.2.1 dX12_compares_76 (by decide) ?_
              have spr : vCmp (sgU2 P) (sgL2 P) 5 (vX (sgU2 P) (sgL2 P) a) = (false, wv21) := by simp only [vCmp, k13, pv21, cond_true, cond_false, vB_t, vB_f, if_true, if_false, eq_self, not_true_eq_false, not_false_eq_true, Int.reduceEq, Int.reduceLT, or_false, false_or, or_true, true_or]
              have hG := ke_weak (b1 := 0) (b2 := 241) (g1 := wv21) (g2 := wv21) (e1 := 1) (e2 := 6) hG (Int.le_refl _) (Int.le_refl _) (Int.le_refl _) (Int.le_refl _) (by decide) (by decide)
              exact sg_zret2 X hr (sg_zn (iv_of (iv_c 0 (a := 0) (b := 0) (by decide +kernel)) (a' := 0) (b' := 1) (by decide +kernel))) hlk hS (iv_of (iv_c 0 (a := 0) (b := 0) (by decide +kernel)) (a' := 0) (b' := 1) (by decide +kernel)) (fun t ht hW => (Or.inr ⟨_, spr, ((And.intro w1v21 w2v21)).1, ((And.intro w1v21 w2v21)).2, sg_post hb hK hC hG hS ht hW⟩)) dX12_compares_111
            · refine lv_iconst (v := 1) X.1 X.2.1 dX12_compares_71 (by decide +kernel) ?_
              refine lv_goto (tgt := 111) X.1 X.2.1 dX12_compares_72 (by decide) ?_
              have spr : vCmp (sgU2 P) (sgL2 P) 5 (vX (sgU2 P) (sgL2 P) a) = (false, wv21) := by simp only [vCmp, k13, pv21, cond_true, cond_false, vB_t, vB_f, if_true, if_false, eq_self, not_true_eq_false, not_false_eq_true, Int.reduceEq, Int.reduceLT, or_false, false_or, or_true, true_or]
              have hG := ke_weak (b1 := 0) (b2 := 241) (g1 := wv21) (g2 := wv21) (e1 := 1) (e2 := 6) hG (Int.le_refl _) (Int.le_refl _) (Int.le_refl _) (Int.le_refl _) (by decide) (by decide)
              exact sg_zret2 X hr (sg_zn (iv_of (iv_c 1 (a := 1) (b := 1) (by decide +kernel)) (a' := 0) (b' := 1) (by decide +kernel))) hlk hS (iv_of (iv_c 1 (a := 1) (b := 1) (by decide +kernel)) (a' := 0) (b' := 1) (by decide +kernel)) (fun t ht hW => (Or.inr ⟨_, spr, ((And.intro w1v21 w2v21)).1, ((And.intro w1v21 w2v21)).2, sg_post hb hK hC hG hS ht hW⟩)) dX12_compares_111
      · have j14 := vq_says0 hf10 c11
        have k15 : vCm (vC (sgU2 P) (sgL2 P) (vX (sgU2 P) (sgL2 P) a)) = (0 : Int) := by rw [xf8, vCm_E] at j14; exact j14
        refine lv_aload_n X.1 X.2.1 dX12_compares_37 rfl (lv_at hl 2 rfl) ?_
        refine ca_X12_fails_e X hK hG hC hS hb a0 h0 hl0 b9 wl_7_141 hl.1 (rest := []) rfl (Nat.le_of_ble_eq_true rfl) ⟨Nat.le_of_ble_eq_true rfl, Nat.le_of_ble_eq_true rfl⟩ ⟨Nat.le_of_ble_eq_true rfl, Nat.le_of_ble_eq_true rfl⟩ dX12_compares_38 (fun f40 tf40 H locs htf40 hf40 hWf40 hS => ?_)
        have hG := hWf40.2.2.2
        rw [htf40] at hG
        obtain rfl : f40 = 0 := sg_is0 hf40
        have spr : vCmp (sgU2 P) (sgL2 P) 5 (vX (sgU2 P) (sgL2 P) a) = (false, (vX (sgU2 P) (sgL2 P) a)) := by simp only [vCmp, k15, cond_true, cond_false, vB_t, vB_f, if_true, if_false, eq_self, not_true_eq_false, not_false_eq_true, Int.reduceEq, Int.reduceLT, or_false, false_or, or_true, true_or]
        have hG := ke_weak (b1 := 0) (b2 := 241) (g1 := (vX (sgU2 P) (sgL2 P) a)) (g2 := (vX (sgU2 P) (sgL2 P) a)) (e1 := 1) (e2 := 6) hG (b9).1 (Int.le_trans (b9).2 (Int.le_trans hl0.2 (by decide))) (Int.le_refl _) (Int.le_refl _) (by decide) (by decide)
        exact sg_zret2 X hr (sg_zn (iv_of (iv_c 0 (a := 0) (b := 0) (by decide +kernel)) (a' := 0) (b' := 1) (by decide +kernel))) hlk hS (iv_of (iv_c 0 (a := 0) (b := 0) (by decide +kernel)) (a' := 0) (b' := 1) (by decide +kernel)) (fun t ht hW => (Or.inr ⟨_, spr, ((vq_bw b9 hl0)).1, ((vq_bw b9 hl0)).2, sg_post hb hK hC hG hS ht hW⟩)) dX12_compares_41
    · have i7 : (((-1) : Int) = ((-1) : Int)) = False := vq_ne c5 (vq_iv hf4) (by decide +kernel)
      exact ((c5 (iv_one hf4 (iv_c (-1) (a := (-1)) (b := (-1)) (by decide +kernel)) (by decide +kernel)))).elim

theorem ca_X12_compares_e1_1  {a : Int} {z : sgZt}  (X : CallFix p m c cc nL s args sg_tbl own) (hK : va_K D vwCl tys s) (hG : sgG (KE a a (-1) (-1) 1 1 z P) D vwCl (fun q : Nat => base ≤ q) tys ad ks H) (hC : sgC base s) (hS : va_S (fun q : Nat => base ≤ q) s.heap H locs) (hb : base ≤ s.heap.size) (a0 : Nat) (h0 : isK ad ks 12 a0) (x1 : Int32) (h1 : iv 1 1 x1) (x2 : Int32) (hl0 : 0 ≤ sgL2 P ∧ sgL2 P ≤ 240) (hav : 0 ≤ a ∧ a ≤ sgL2 P) (hby : sgBy2 P) (hl : Cond.methodLink own index yX12_compares ∈ sg_tbl) (hsize : ls.size = nL) (hst : st0 = [.int x1, .int x2].reverse ++ .ref a0 :: rest) (hW : (rest.map fun v => v.category).sum ≤ 8) (hR : 24 ≤ R.frames ∧ 558 ≤ R.locals) (hf : cells ≤ R.cells ∧ slots ≤ R.slots) (hdg : decode cc pc = .ok (.invokevirtual index, 3)) (kk : ∀ (r : Int32) (t : State) (H1 : Heap) (locs1 : List Loc), t.heap = H1 → (fun r : Int32 => iv 0 1 r) r → ((∃ a1 : Int, vCmp (sgU2 P) (sgL2 P) 5 (vX (sgU2 P) (sgL2 P) a) = (true, vX (sgU2 P) (sgL2 P) a1) ∧ a + 1 ≤ a1 ∧ a1 ≤ sgL2 P ∧ sgB (KE a1 a1 (-1) (-1) 1 1 z P) D vwCl base tys ad ks t) ∨ (∃ w : Int, vCmp (sgU2 P) (sgL2 P) 5 (vX (sgU2 P) (sgL2 P) a) = (false, w) ∧ 0 ≤ w ∧ w ≤ 240 ∧ sgB (KE 0 241 w w 1 6 z P) D vwCl base tys ad ks t)) → va_S (fun q : Nat => base ≤ q) s.heap H1 locs1 → W p l e R s m args below meth c H1 locs1 cells slots Q (F0 m (pc + 3) ls (.int r :: rest))) : W p l e R s m args below meth c H locs cells slots Q (F0 m pc ls st0) :=
  sg_callV2i X hK hG hC hS hb (m_X12_compares_e1_1 l a0 h0 x1 h1 x2 hl0 hav hby) h0 (k := 12) (ci := 12) rfl (C := RX12) (T := TX12) (N := 53) rfl wl_7_232 wl_1_13 wl_7_231 wl_0_63 (n := 2) (by decide +kernel) rfl rfl rfl hl hsize hst hW hR hf hdg kk

set_option maxHeartbeats 8000000 in
set_option maxRecDepth 100000 in
theorem m_X12_unit_e1 (l : Launch) {D : va_G} {base : Nat} {tys : List (ClassId × FieldType)} {ad ks : List Nat} {P : sgPm}{a : Int} {z : sgZt}  (a0 : Nat) (h0 : isK ad ks 12 a0) (hl0 : 0 ≤ sgL2 P ∧ sgL2 P ≤ 240) (hav : 0 ≤ a ∧ a ≤ sgL2 P) (hby : sgBy2 P) : Met l yX12_unit (Cond.code yX12_unit cX12_unit 3 (some .boolean) :: sg_tbl) ({ frames := 24, cells := 0, slots := 0, locals := 558 }) (va_Pc [.ref a0] (sgB (KE a a (-1) (-1) 1 1 z P) D vwCl base tys ad ks)) (va_Qi (fun r (u : Int32) => u = r ∧ (fun r : Int32 => iv 0 1 r) r) (fun u t => (∃ a1 : Int, vUn (sgU2 P) (sgL2 P) 5 (vX (sgU2 P) (sgL2 P) a) = (true, vX (sgU2 P) (sgL2 P) a1) ∧ a + 1 ≤ a1 ∧ a1 ≤ sgL2 P ∧ sgB (KE a1 a1 (-1) (-1) 1 1 z P) D vwCl base tys ad ks t) ∨ (∃ w : Int, vUn (sgU2 P) (sgL2 P) 5 (vX (sgU2 P) (sgL2 P) a) = (false, w) ∧ 0 ≤ w ∧ w ≤ 240 ∧ sgB (KE 0 241 w w 1 6 z P) D vwCl base tys ad ks t)) (fun q : Nat => base ≤ q)) 0 0 (fun q : Nat => base ≤ q) := by
  refine sg_ofW (by decide +kernel) (Nat.le_of_ble_eq_true rfl) (fun p e s m below meth c X hr hlk hb hK hC hG ls hl => ?_)
  have hS : va_S (fun q : Nat => base ≤ q) s.heap s.heap [] := va_S.rf
  have hl : lv_has ls 3 [(0, .ref a0)] := hl
  refine lv_aload_n X.1 X.2.1 dX12_unit_0 rfl (lv_at hl 0 rfl) ?_
  refine ca_X12_look_e X hK hG hC hS hb a0 h0 hl0 hav hby wl_7_137 hl.1 (rest := []) rfl (Nat.le_of_ble_eq_true rfl) ⟨Nat.le_of_ble_eq_true rfl, Nat.le_of_ble_eq_true rfl⟩ ⟨Nat.le_of_ble_eq_true rfl, Nat.le_of_ble_eq_true rfl⟩ dX12_unit_1 (fun f1 tf1 H locs htf1 hf1 hWf1 hS => ?_)
  have hBf1 := hWf1.2
  have xf1 := hWf1.1
  have hG := hBf1.2.2.2
  rw [htf1] at hG
  have b2 := vq_bdL (b := sgU2 P) hav
  have eb2 : a ≤ vX (sgU2 P) (sgL2 P) a := (vX_ge (sgU2 P) (sgL2 P) a).1
  have pb2 : a + 0 ≤ vX (sgU2 P) (sgL2 P) a := Int.le_trans (vq_pg0 a) (vX_ge (sgU2 P) (sgL2 P) a).1
  have yf1 : iv (-1) 255 f1 := vq_lk xf1 (vC_by2 hby _)
  refine lv_istore_n (lv' := [(1, .int f1), (0, .ref a0)]) X.1 X.2.1 dX12_unit_4 rfl hl (by decide) rfl (fun ls hl => ?_)
  refine lv_iload_n X.1 X.2.1 dX12_unit_5 rfl (lv_at hl 0 rfl) ?_
  refine lv_bipush (v := 33) X.1 X.2.1 dX12_unit_6 (by decide +kernel) ?_
  refine lv_icmp_ne (tgt := 45) X.1 X.2.1 dX12_unit_8 (by decide) (fun c3 => ?_) (fun c3 => ?_)
  · have i4 : (vE (vC (sgU2 P) (sgL2 P) (vX (sgU2 P) (sgL2 P) a)) = (33 : Int)) = False := vq_ne c3 xf1 (by decide +kernel)
    have mi4 : (vC (sgU2 P) (sgL2 P) (vX (sgU2 P) (sgL2 P) a) = (33 : Int)) = False := vE_ne i4 (by decide)
    refine lv_iload_n X.1 X.2.1 dX12_unit_45 rfl (lv_at hl 0 rfl) ?_
    refine lv_bipush (v := 40) X.1 X.2.1 dX12_unit_46 (by decide +kernel) ?_
    refine lv_icmp_ne (tgt := 90) X.1 X.2.1 dX12_unit_48 (by decide) (fun c6 => ?_) (fun c6 => ?_)
    · have i7 : (vE (vC (sgU2 P) (sgL2 P) (vX (sgU2 P) (sgL2 P) a)) = (40 : Int)) = False := vq_ne c6 xf1 (by decide +kernel)
      have mi7 : (vC (sgU2 P) (sgL2 P) (vX (sgU2 P) (sgL2 P) a) = (40 : Int)) = False := vE_ne i7 (by decide)
      refine lv_aload_n X.1 X.2.1 dX12_unit_90 rfl (lv_at hl 1 rfl) ?_
      refine lv_iconst (v := 0) X.1 X.2.1 dX12_unit_91 (by decide +kernel) ?_
      refine lv_iconst (v := 0) X.1 X.2.1 dX12_unit_92 (by decide +kernel) ?_
      refine ca_X12_compares_e1_0 X hK hG hC hS hb a0 h0 0 (iv_c 0 (a := 0) (b := 0) (by decide +kernel)) 0 hl0 b2 hby wl_7_229 hl.1 (rest := []) rfl (Nat.le_of_ble_eq_true rfl) ⟨Nat.le_of_ble_eq_true rfl, Nat.le_of_ble_eq_true rfl⟩ ⟨Nat.le_of_ble_eq_true rfl, Nat.le_of_ble_eq_true rfl⟩ dX12_unit_93 (fun f9 tf9 H locs htf9 hf9 hWf9 hS => ?_)
      rcases hWf9 with ⟨av10, pv10, gav10, gbv10, hBf9⟩ | ⟨wv10, pv10, w1v10, w2v10, hBf9⟩
      · have hG := hBf9.2.2.2
        rw [htf9] at hG
        rw [vX_idem] at pv10
        have bv10 := vq_bd2 (k := 1) b2 (by decide) gav10 gbv10
        have p2v10 : a + 1 ≤ av10 := vq_pg pb2 gav10 (by decide)
        have spr : vUn (sgU2 P) (sgL2 P) 5 (vX (sgU2 P) (sgL2 P) a) = (true, vX (sgU2 P) (sgL2 P) av10) := by rw [vUn_5, if_neg (of_eq_false mi4), if_neg (of_eq_false mi7)]; exact pv10
        exact sg_zret2 X hr (sg_zn hf9) hlk hS hf9 (fun t ht hW => (Or.inl ⟨_, spr, vq_pgw p2v10 (by decide), (bv10).2, sg_post hb hK hC hG hS ht hW⟩)) dX12_unit_96
      · have hG := hBf9.2.2.2
        rw [htf9] at hG
        rw [vX_idem] at pv10
        have spr : vUn (sgU2 P) (sgL2 P) 5 (vX (sgU2 P) (sgL2 P) a) = (false, wv10) := by rw [vUn_5, if_neg (of_eq_false mi4), if_neg (of_eq_false mi7)]; exact pv10
        have hG := ke_weak (b1 := 0) (b2 := 241) (g1 := wv10) (g2 := wv10) (e1 := 1) (e2 := 6) hG (Int.le_refl _) (Int.le_refl _) (Int.le_refl _) (Int.le_refl _) (by decide) (by decide)
        exact sg_zret2 X hr (sg_zn hf9) hlk hS hf9 (fun t ht hW => (Or.inr ⟨_, spr, ((And.intro w1v10 w2v10)).1, ((And.intro w1v10 w2v10)).2, sg_post hb hK hC hG hS ht hW⟩)) dX12_unit_96
    · have i8 : vE (vC (sgU2 P) (sgL2 P) (vX (sgU2 P) (sgL2 P) a)) = (40 : Int) := vq_eq c6 xf1 (by decide +kernel)
      have mi8 : vC (sgU2 P) (sgL2 P) (vX (sgU2 P) (sgL2 P) a) = (40 : Int) := vE_eq i8 (by decide)
      refine lv_aload_n X.1 X.2.1 dX12_unit_51 rfl (lv_at hl 1 rfl) ?_
      have l11 := (vC_lt (b := sgU2 P) (n := sgL2 P) (a := (vX (sgU2 P) (sgL2 P) a)) (by rw [mi8]; decide)).2
      refine ca_X12_goesIn_e1 X hK hG hC hS hb a0 h0 hl0 (And.intro (b2).1 l11) wl_8_5 hl.1 (rest := []) rfl (Nat.le_of_ble_eq_true rfl) ⟨Nat.le_of_ble_eq_true rfl, Nat.le_of_ble_eq_true rfl⟩ ⟨Nat.le_of_ble_eq_true rfl, Nat.le_of_ble_eq_true rfl⟩ dX12_unit_52 (fun f12 tf12 H locs htf12 hf12 hWf12 hS => ?_)
      have hG := hWf12.2.2.2
      rw [htf12] at hG
      obtain rfl : f12 = 1 := Int32.toInt_inj.mp (vq_iv hf12)
      have b13 := vq_bd1 b2 l11
      have pb13 : a + 1 ≤ ((vX (sgU2 P) (sgL2 P) a) + 1) := vq_pg pb2 (m := 1) (Int.le_refl _) (by decide)
      refine lv_if_ne (tgt := 60) X.1 X.2.1 dX12_unit_55 (by decide) (fun c14 => ?_) (fun c14 => ?_)
      · refine lv_aload_n X.1 X.2.1 dX12_unit_60 rfl (lv_at hl 1 rfl) ?_
        refine lv_iconst (v := 0) X.1 X.2.1 dX12_unit_61 (by decide +kernel) ?_
        refine lv_iconst (v := 0) X.1 X.2.1 dX12_unit_62 (by decide +kernel) ?_
        refine ca_X12_condition_e2_0 X hK hG hC hS hb a0 h0 0 (iv_c 0 (a := 0) (b := 0) (by decide +kernel)) 0 hl0 b13 hby wl_7_221 hl.1 (rest := []) rfl (Nat.le_of_ble_eq_true rfl) ⟨Nat.le_of_ble_eq_true rfl, Nat.le_of_ble_eq_true rfl⟩ ⟨Nat.le_of_ble_eq_true rfl, Nat.le_of_ble_eq_true rfl⟩ dX12_unit_63 (fun f15 tf15 H locs htf15 hf15 hWf15 hS => ?_)
        rcases hWf15 with ⟨av16, pv16, gav16, gbv16, hBf15⟩ | ⟨wv16, pv16, w1v16, w2v16, hBf15⟩
        · have hG := hBf15.2.2.2
          rw [htf15] at hG
          have bv16 := vq_bd2 (k := 1) b13 (by decide) gav16 gbv16
          have p2v16 : a + 2 ≤ av16 := vq_pg pb13 gav16 (by decide)
          refine lv_istore_n (lv' := [(2, .int f15), (1, .int f1), (0, .ref a0)]) X.1 X.2.1 dX12_unit_66 rfl hl (by decide) rfl (fun ls hl => ?_)
          refine lv_aload_n X.1 X.2.1 dX12_unit_67 rfl (lv_at hl 2 rfl) ?_
          refine lv_bipush (v := 41) X.1 X.2.1 dX12_unit_68 (by decide +kernel) ?_
          refine ca_X12_takes_e X hK hG hC hS hb a0 h0 41 hl0 bv16 hby (by omega) (show (41 : Int32).toInt = 41 ∧ (0 : Int) < 41 from by decide +kernel) wl_7_217 hl.1 (rest := []) rfl (Nat.le_of_ble_eq_true rfl) ⟨Nat.le_of_ble_eq_true rfl, Nat.le_of_ble_eq_true rfl⟩ ⟨Nat.le_of_ble_eq_true rfl, Nat.le_of_ble_eq_true rfl⟩ dX12_unit_70 (fun f17 tf17 H locs htf17 hf17 hWf17 hS => ?_)
          rcases hWf17 with ⟨rfl, av18, pv18, gav18, gbv18, hBf17⟩ | ⟨rfl, wv18, pv18, w1v18, w2v18, hBf17⟩
          · have hG := hBf17.2.2.2
            rw [htf17] at hG
            have bv18 := vq_bd2 (k := 1) bv16 (by decide) gav18 gbv18
            have p2v18 : a + 3 ≤ av18 := vq_pg p2v16 gav18 (by decide)
            refine lv_if_ne (tgt := 78) X.1 X.2.1 dX12_unit_73 (by decide) (fun c19 => ?_) (fun c19 => ?_)
            · refine lv_aload_n X.1 X.2.1 dX12_unit_78 rfl (lv_at hl 2 rfl) ?_
              refine lv_dup X.1 X.2.1 dX12_unit_79 rfl ?_
              refine gf_X12_12e X hK hG h0 wl_6_190 dX12_unit_80 (fun f20 hf20 => ?_)
              refine lv_iconst (v := 1) X.1 X.2.1 dX12_unit_83 (by decide +kernel) ?_
              refine lv_isub X.1 X.2.1 dX12_unit_84 ?_
              refine lv_topi (fun f21 ef21 => ?_)
              refine pf_X12_12E (b1 := 1) (b2 := 1) X hK hG hS h0 wl_6_190 (iv_sub (a' := 1) (b' := 1) ef21 hf20 (iv_c 1 (a := 1) (b := 1) (by decide +kernel)) (by decide +kernel)) dX12_unit_85 (fun H locs hG hS => ?_)
              refine lv_iload_n X.1 X.2.1 dX12_unit_88 rfl (lv_at hl 0 rfl) ?_
              have spr : vUn (sgU2 P) (sgL2 P) 5 (vX (sgU2 P) (sgL2 P) a) = (true, vX (sgU2 P) (sgL2 P) av18) := by simp only [vUn_5, i4, mi4, i8, mi8, pv16, pv18, cond_true, cond_false, vB_t, vB_f, if_true, if_false, eq_self, not_true_eq_false, not_false_eq_true, Int.reduceEq, Int.reduceLT, or_false, false_or, or_true, true_or]
              exact sg_zret2 X hr (sg_zn hf15) hlk hS hf15 (fun t ht hW => (Or.inl ⟨_, spr, vq_pgw p2v18 (by decide), (bv18).2, sg_post hb hK hC hG hS ht hW⟩)) dX12_unit_89
            · exact ((iv_no (a := 1) (b := 0) (iv_eqm c19 (iv_c 1 (a := 1) (b := 1) (by decide +kernel)) (iv_c 0 (a := 0) (b := 0) (by decide +kernel)) (by decide +kernel)) (by decide +kernel))).elim
          · have hG := hBf17.2.2.2
            rw [htf17] at hG
            refine lv_if_ne (tgt := 78) X.1 X.2.1 dX12_unit_73 (by decide) (fun c22 => ?_) (fun c22 => ?_)
            · exact ((c22 (iv_one (iv_c 0 (a := 0) (b := 0) (by decide +kernel)) (iv_c 0 (a := 0) (b := 0) (by decide +kernel)) (by decide +kernel)))).elim
            · refine lv_iconst (v := 0) X.1 X.2.1 dX12_unit_76 (by decide +kernel) ?_
              have spr : vUn (sgU2 P) (sgL2 P) 5 (vX (sgU2 P) (sgL2 P) a) = (false, wv18) := by simp only [vUn_5, i4, mi4, i8, mi8, pv16, pv18, cond_true, cond_false, vB_t, vB_f, if_true, if_false, eq_self, not_true_eq_false, not_false_eq_true, Int.reduceEq, Int.reduceLT, or_false, false_or, or_true, true_or]
              have hG := ke_weak (b1 := 0) (b2 := 241) (g1 := wv18) (g2 := wv18) (e1 := 1) (e2 := 6) hG (Int.le_refl _) (Int.le_refl _) (Int.le_refl _) (Int.le_refl _) (by decide) (by decide)
              exact sg_zret2 X hr (sg_zn (iv_of (iv_c 0 (a := 0) (b := 0) (by decide +kernel)) (a' := 0) (b' := 1) (by decide +kernel))) hlk hS (iv_of (iv_c 0 (a := 0) (b := 0) (by decide +kernel)) (a' := 0) (b' := 1) (by decide +kernel)) (fun t ht hW => (Or.inr ⟨_, spr, ((And.intro w1v18 w2v18)).1, ((And.intro w1v18 w2v18)).2, sg_post hb hK hC hG hS ht hW⟩)) dX12_unit_77
        · have hG := hBf15.2.2.2
          rw [htf15] at hG
          refine lv_istore_n (lv' := [(2, .int f15), (1, .int f1), (0, .ref a0)]) X.1 X.2.1 dX12_unit_66 rfl hl (by decide) rfl (fun ls hl => ?_)
          refine lv_aload_n X.1 X.2.1 dX12_unit_67 rfl (lv_at hl 2 rfl) ?_
          refine lv_bipush (v := 41) X.1 X.2.1 dX12_unit_68 (by decide +kernel) ?_
          refine ca_X12_takes_eb X hK hG hC hS hb a0 h0 41 (And.intro w1v16 w2v16) wl_7_217 hl.1 (rest := []) rfl (Nat.le_of_ble_eq_true rfl) ⟨Nat.le_of_ble_eq_true rfl, Nat.le_of_ble_eq_true rfl⟩ ⟨Nat.le_of_ble_eq_true rfl, Nat.le_of_ble_eq_true rfl⟩ dX12_unit_70 (fun f23 tf23 H locs htf23 hf23 hWf23 hS => ?_)
          have hG := hWf23.2.2.2
          rw [htf23] at hG
          obtain rfl : f23 = 0 := sg_is0 hf23
          refine lv_if_ne (tgt := 78) X.1 X.2.1 dX12_unit_73 (by decide) (fun c24 => ?_) (fun c24 => ?_)
          · exact ((c24 (iv_one (iv_c 0 (a := 0) (b := 0) (by decide +kernel)) (iv_c 0 (a := 0) (b := 0) (by decide +kernel)) (by decide +kernel)))).elim
          · refine lv_iconst (v := 0) X.1 X.2.1 dX12_unit_76 (by decide +kernel) ?_
            have spr : vUn (sgU2 P) (sgL2 P) 5 (vX (sgU2 P) (sgL2 P) a) = (false, wv16) := by simp only [vUn_5, i4, mi4, i8, mi8, pv16, cond_true, cond_false, vB_t, vB_f, if_true, if_false, eq_self, not_true_eq_false, not_false_eq_true, Int.reduceEq, Int.reduceLT, or_false, false_or, or_true, true_or]
            have hG := ke_weak (b1 := 0) (b2 := 241) (g1 := wv16) (g2 := wv16) (e1 := 1) (e2 := 6) hG (Int.le_refl _) (Int.le_refl _) (Int.le_refl _) (Int.le_refl _) (by decide) (by decide)
            exact sg_zret2 X hr (sg_zn (iv_of (iv_c 0 (a := 0) (b := 0) (by decide +kernel)) (a' := 0) (b' := 1) (by decide +kernel))) hlk hS (iv_of (iv_c 0 (a := 0) (b := 0) (by decide +kernel)) (a' := 0) (b' := 1) (by decide +kernel)) (fun t ht hW => (Or.inr ⟨_, spr, ((And.intro w1v16 w2v16)).1, ((And.intro w1v16 w2v16)).2, sg_post hb hK hC hG hS ht hW⟩)) dX12_unit_77
      · exact ((iv_no (a := 1) (b := 0) (iv_eqm c14 (iv_c 1 (a := 1) (b := 1) (by decide +kernel)) (iv_c 0 (a := 0) (b := 0) (by decide +kernel)) (by decide +kernel)) (by decide +kernel))).elim
  · have i5 : vE (vC (sgU2 P) (sgL2 P) (vX (sgU2 P) (sgL2 P) a)) = (33 : Int) := vq_eq c3 xf1 (by decide +kernel)
    have mi5 : vC (sgU2 P) (sgL2 P) (vX (sgU2 P) (sgL2 P) a) = (33 : Int) := vE_eq i5 (by decide)
    refine lv_aload_n X.1 X.2.1 dX12_unit_11 rfl (lv_at hl 1 rfl) ?_
    have l25 := (vC_lt (b := sgU2 P) (n := sgL2 P) (a := (vX (sgU2 P) (sgL2 P) a)) (by rw [mi5]; decide)).2
    refine ca_X12_goesIn_e1 X hK hG hC hS hb a0 h0 hl0 (And.intro (b2).1 l25) wl_8_5 hl.1 (rest := []) rfl (Nat.le_of_ble_eq_true rfl) ⟨Nat.le_of_ble_eq_true rfl, Nat.le_of_ble_eq_true rfl⟩ ⟨Nat.le_of_ble_eq_true rfl, Nat.le_of_ble_eq_true rfl⟩ dX12_unit_12 (fun f26 tf26 H locs htf26 hf26 hWf26 hS => ?_)
    have hG := hWf26.2.2.2
    rw [htf26] at hG
    obtain rfl : f26 = 1 := Int32.toInt_inj.mp (vq_iv hf26)
    have b27 := vq_bd1 b2 l25
    have pb27 : a + 1 ≤ ((vX (sgU2 P) (sgL2 P) a) + 1) := vq_pg pb2 (m := 1) (Int.le_refl _) (by decide)
    refine lv_if_ne (tgt := 20) X.1 X.2.1 dX12_unit_15 (by decide) (fun c28 => ?_) (fun c28 => ?_)
    · refine lv_aload_n X.1 X.2.1 dX12_unit_20 rfl (lv_at hl 1 rfl) ?_
      refine ca_X12_unit_e2 X hK hG hC hS hb a0 h0 hl0 b27 hby wl_8_23 hl.1 (rest := []) rfl (Nat.le_of_ble_eq_true rfl) ⟨Nat.le_of_ble_eq_true rfl, Nat.le_of_ble_eq_true rfl⟩ ⟨Nat.le_of_ble_eq_true rfl, Nat.le_of_ble_eq_true rfl⟩ dX12_unit_21 (fun f29 tf29 H locs htf29 hf29 hWf29 hS => ?_)
      rcases hWf29 with ⟨av30, pv30, gav30, gbv30, hBf29⟩ | ⟨wv30, pv30, w1v30, w2v30, hBf29⟩
      · have hG := hBf29.2.2.2
        rw [htf29] at hG
        have bv30 := vq_bd2 (k := 1) b27 (by decide) gav30 gbv30
        have p2v30 : a + 2 ≤ av30 := vq_pg pb27 gav30 (by decide)
        refine lv_istore_n (lv' := [(2, .int f29), (1, .int f1), (0, .ref a0)]) X.1 X.2.1 dX12_unit_24 rfl hl (by decide) rfl (fun ls hl => ?_)
        refine lv_aload_n X.1 X.2.1 dX12_unit_25 rfl (lv_at hl 2 rfl) ?_
        refine lv_dup X.1 X.2.1 dX12_unit_26 rfl ?_
        refine gf_X12_12e X hK hG h0 wl_6_190 dX12_unit_27 (fun f31 hf31 => ?_)
        refine lv_iconst (v := 1) X.1 X.2.1 dX12_unit_30 (by decide +kernel) ?_
        refine lv_isub X.1 X.2.1 dX12_unit_31 ?_
        refine lv_topi (fun f32 ef32 => ?_)
        refine pf_X12_12E (b1 := 1) (b2 := 1) X hK hG hS h0 wl_6_190 (iv_sub (a' := 1) (b' := 1) ef32 hf31 (iv_c 1 (a := 1) (b := 1) (by decide +kernel)) (by decide +kernel)) dX12_unit_32 (fun H locs hG hS => ?_)
        refine lv_iload_n X.1 X.2.1 dX12_unit_35 rfl (lv_at hl 0 rfl) ?_
        refine lv_if_ne (tgt := 43) X.1 X.2.1 dX12_unit_36 (by decide) (fun c33 => ?_) (fun c33 => ?_)
        · refine lv_iconst (v := 0) X.1 X.2.1 dX12_unit_43 (by decide +kernel) ?_
          have spr : vUn (sgU2 P) (sgL2 P) 5 (vX (sgU2 P) (sgL2 P) a) = (true, vX (sgU2 P) (sgL2 P) av30) := by simp only [vUn_5, i5, mi5, pv30, cond_true, cond_false, vB_t, vB_f, if_true, if_false, eq_self, not_true_eq_false, not_false_eq_true, Int.reduceEq, Int.reduceLT, or_false, false_or, or_true, true_or]
          exact sg_zret2 X hr (sg_zn (iv_of (iv_c 0 (a := 0) (b := 0) (by decide +kernel)) (a' := 0) (b' := 1) (by decide +kernel))) hlk hS (iv_of (iv_c 0 (a := 0) (b := 0) (by decide +kernel)) (a' := 0) (b' := 1) (by decide +kernel)) (fun t ht hW => (Or.inl ⟨_, spr, vq_pgw p2v30 (by decide), (bv30).2, sg_post hb hK hC hG hS ht hW⟩)) dX12_unit_44
        · refine lv_iconst (v := 1) X.1 X.2.1 dX12_unit_39 (by decide +kernel) ?_
          refine lv_goto (tgt := 44) X.1 X.2.1 dX12_unit_40 (by decide) ?_
          have spr : vUn (sgU2 P) (sgL2 P) 5 (vX (sgU2 P) (sgL2 P) a) = (true, vX (sgU2 P) (sgL2 P) av30) := by simp only [vUn_5, i5, mi5, pv30, cond_true, cond_false, vB_t, vB_f, if_true, if_false, eq_self, not_true_eq_false, not_false_eq_true, Int.reduceEq, Int.reduceLT, or_false, false_or, or_true, true_or]
          exact sg_zret2 X hr (sg_zn (iv_of (iv_c 1 (a := 1) (b := 1) (by decide +kernel)) (a' := 0) (b' := 1) (by decide +kernel))) hlk hS (iv_of (iv_c 1 (a := 1) (b := 1) (by decide +kernel)) (a' := 0) (b' := 1) (by decide +kernel)) (fun t ht hW => (Or.inl ⟨_, spr, vq_pgw p2v30 (by decide), (bv30).2, sg_post hb hK hC hG hS ht hW⟩)) dX12_unit_44
      · have hG := hBf29.2.2.2
        rw [htf29] at hG
        refine lv_istore_n (lv' := [(2, .int f29), (1, .int f1), (0, .ref a0)]) X.1 X.2.1 dX12_unit_24 rfl hl (by decide) rfl (fun ls hl => ?_)
        refine lv_aload_n X.1 X.2.1 dX12_unit_25 rfl (lv_at hl 2 rfl) ?_
        refine lv_dup X.1 X.2.1 dX12_unit_26 rfl ?_
        refine gf_X12_12e X hK hG h0 wl_6_190 dX12_unit_27 (fun f34 hf34 => ?_)
        refine lv_iconst (v := 1) X.1 X.2.1 dX12_unit_30 (by decide +kernel) ?_
        refine lv_isub X.1 X.2.1 dX12_unit_31 ?_
        refine lv_topi (fun f35 ef35 => ?_)
        refine pf_X12_12E (b1 := 1) (b2 := 5) X hK hG hS h0 wl_6_190 (iv_sub (a' := 1) (b' := 5) ef35 hf34 (iv_c 1 (a := 1) (b := 1) (by decide +kernel)) (by decide +kernel)) dX12_unit_32 (fun H locs hG hS => ?_)
        refine lv_iload_n X.1 X.2.1 dX12_unit_35 rfl (lv_at hl 0 rfl) ?_
        refine lv_if_ne (tgt := 43) X.1 X.2.1 dX12_unit_36 (by decide) (fun c36 => ?_) (fun c36 => ?_)
        · refine lv_iconst (v := 0) X.1 X.2.1 dX12_unit_43 (by decide +kernel) ?_
          have spr : vUn (sgU2 P) (sgL2 P) 5 (vX (sgU2 P) (sgL2 P) a) = (false, wv30) := by simp only [vUn_5, i5, mi5, pv30, cond_true, cond_false, vB_t, vB_f, if_true, if_false, eq_self, not_true_eq_false, not_false_eq_true, Int.reduceEq, Int.reduceLT, or_false, false_or, or_true, true_or]
          have hG := ke_weak (b1 := 0) (b2 := 241) (g1 := wv30) (g2 := wv30) (e1 := 1) (e2 := 6) hG (Int.le_refl _) (Int.le_refl _) (Int.le_refl _) (Int.le_refl _) (by decide) (by decide)
          exact sg_zret2 X hr (sg_zn (iv_of (iv_c 0 (a := 0) (b := 0) (by decide +kernel)) (a' := 0) (b' := 1) (by decide +kernel))) hlk hS (iv_of (iv_c 0 (a := 0) (b := 0) (by decide +kernel)) (a' := 0) (b' := 1) (by decide +kernel)) (fun t ht hW => (Or.inr ⟨_, spr, ((And.intro w1v30 w2v30)).1, ((And.intro w1v30 w2v30)).2, sg_post hb hK hC hG hS ht hW⟩)) dX12_unit_44
        · refine lv_iconst (v := 1) X.1 X.2.1 dX12_unit_39 (by decide +kernel) ?_
          refine lv_goto (tgt := 44) X.1 X.2.1 dX12_unit_40 (by decide) ?_
          have spr : vUn (sgU2 P) (sgL2 P) 5 (vX (sgU2 P) (sgL2 P) a) = (false, wv30) := by simp only [vUn_5, i5, mi5, pv30, cond_true, cond_false, vB_t, vB_f, if_true, if_false, eq_self, not_true_eq_false, not_false_eq_true, Int.reduceEq, Int.reduceLT, or_false, false_or, or_true, true_or]
          have hG := ke_weak (b1 := 0) (b2 := 241) (g1 := wv30) (g2 := wv30) (e1 := 1) (e2 := 6) hG (Int.le_refl _) (Int.le_refl _) (Int.le_refl _) (Int.le_refl _) (by decide) (by decide)
          exact sg_zret2 X hr (sg_zn (iv_of (iv_c 1 (a := 1) (b := 1) (by decide +kernel)) (a' := 0) (b' := 1) (by decide +kernel))) hlk hS (iv_of (iv_c 1 (a := 1) (b := 1) (by decide +kernel)) (a' := 0) (b' := 1) (by decide +kernel)) (fun t ht hW => (Or.inr ⟨_, spr, ((And.intro w1v30 w2v30)).1, ((And.intro w1v30 w2v30)).2, sg_post hb hK hC hG hS ht hW⟩)) dX12_unit_44
    · exact ((iv_no (a := 1) (b := 0) (iv_eqm c28 (iv_c 1 (a := 1) (b := 1) (by decide +kernel)) (iv_c 0 (a := 0) (b := 0) (by decide +kernel)) (by decide +kernel)) (by decide +kernel))).elim

theorem ca_X12_unit_e1  {a : Int} {z : sgZt}  (X : CallFix p m c cc nL s args sg_tbl own) (hK : va_K D vwCl tys s) (hG : sgG (KE a a (-1) (-1) 1 1 z P) D vwCl (fun q : Nat => base ≤ q) tys ad ks H) (hC : sgC base s) (hS : va_S (fun q : Nat => base ≤ q) s.heap H locs) (hb : base ≤ s.heap.size) (a0 : Nat) (h0 : isK ad ks 12 a0) (hl0 : 0 ≤ sgL2 P ∧ sgL2 P ≤ 240) (hav : 0 ≤ a ∧ a ≤ sgL2 P) (hby : sgBy2 P) (hl : Cond.methodLink own index yX12_unit ∈ sg_tbl) (hsize : ls.size = nL) (hst : st0 = [].reverse ++ .ref a0 :: rest) (hW : (rest.map fun v => v.category).sum ≤ 8) (hR : 25 ≤ R.frames ∧ 580 ≤ R.locals) (hf : cells ≤ R.cells ∧ slots ≤ R.slots) (hdg : decode cc pc = .ok (.invokevirtual index, 3)) (kk : ∀ (r : Int32) (t : State) (H1 : Heap) (locs1 : List Loc), t.heap = H1 → (fun r : Int32 => iv 0 1 r) r → ((∃ a1 : Int, vUn (sgU2 P) (sgL2 P) 5 (vX (sgU2 P) (sgL2 P) a) = (true, vX (sgU2 P) (sgL2 P) a1) ∧ a + 1 ≤ a1 ∧ a1 ≤ sgL2 P ∧ sgB (KE a1 a1 (-1) (-1) 1 1 z P) D vwCl base tys ad ks t) ∨ (∃ w : Int, vUn (sgU2 P) (sgL2 P) 5 (vX (sgU2 P) (sgL2 P) a) = (false, w) ∧ 0 ≤ w ∧ w ≤ 240 ∧ sgB (KE 0 241 w w 1 6 z P) D vwCl base tys ad ks t)) → va_S (fun q : Nat => base ≤ q) s.heap H1 locs1 → W p l e R s m args below meth c H1 locs1 cells slots Q (F0 m (pc + 3) ls (.int r :: rest))) : W p l e R s m args below meth c H locs cells slots Q (F0 m pc ls st0) :=
  sg_callV2i X hK hG hC hS hb (m_X12_unit_e1 l a0 h0 hl0 hav hby) h0 (k := 12) (ci := 12) rfl (C := RX12) (T := TX12) (N := 53) rfl wl_8_26 wl_1_13 wl_8_25 wl_0_68 (n := 0) (by decide +kernel) rfl rfl rfl hl hsize hst hW hR hf hdg kk

set_option maxHeartbeats 8000000 in
set_option maxRecDepth 100000 in
theorem m_X12_part_e1_0 (l : Launch) {D : va_G} {base : Nat} {tys : List (ClassId × FieldType)} {ad ks : List Nat} {P : sgPm}{a : Int} {z : sgZt}  (a0 : Nat) (h0 : isK ad ks 12 a0) (x1 : Int32) (h1 : iv 0 0 x1) (x2 : Int32) (hl0 : 0 ≤ sgL2 P ∧ sgL2 P ≤ 240) (hav : 0 ≤ a ∧ a ≤ sgL2 P) (hby : sgBy2 P) : Met l yX12_part (Cond.code yX12_part cX12_part 5 (some .boolean) :: sg_tbl) ({ frames := 25, cells := 0, slots := 0, locals := 580 }) (va_Pc [.ref a0, .int x1, .int x2] (sgB (KE a a (-1) (-1) 1 1 z P) D vwCl base tys ad ks)) (va_Qi (fun r (u : Int32) => u = r ∧ (fun r : Int32 => iv 0 1 r) r) (fun u t => (∃ a1 : Int, vPa (sgU2 P) (sgL2 P) 5 (vX (sgU2 P) (sgL2 P) a) = (true, vX (sgU2 P) (sgL2 P) a1) ∧ a + 1 ≤ a1 ∧ a1 ≤ sgL2 P ∧ sgB (KE a1 a1 (-1) (-1) 1 1 z P) D vwCl base tys ad ks t) ∨ (∃ w : Int, vPa (sgU2 P) (sgL2 P) 5 (vX (sgU2 P) (sgL2 P) a) = (false, w) ∧ 0 ≤ w ∧ w ≤ 240 ∧ sgB (KE 0 241 w w 1 6 z P) D vwCl base tys ad ks t)) (fun q : Nat => base ≤ q)) 0 0 (fun q : Nat => base ≤ q) := by
  refine sg_ofW (by decide +kernel) (Nat.le_of_ble_eq_true rfl) (fun p e s m below meth c X hr hlk hb hK hC hG ls hl => ?_)
  have hS : va_S (fun q : Nat => base ≤ q) s.heap s.heap [] := va_S.rf
  have hl : lv_has ls 5 [(0, .ref a0), (1, .int x1), (2, .int x2)] := hl
  refine lv_iload_n X.1 X.2.1 dX12_part_0 rfl (lv_at hl 1 rfl) ?_
  refine lv_if_eq (tgt := 13) X.1 X.2.1 dX12_part_1 (by decide) (fun c1 => ?_) (fun c1 => ?_)
  · have i2 : x1.toInt = (0 : Int) := vq_eq c1 rfl (by decide +kernel)
    refine lv_aload_n X.1 X.2.1 dX12_part_13 rfl (lv_at hl 0 rfl) ?_
    refine ca_X12_unit_e1 X hK hG hC hS hb a0 h0 hl0 hav hby wl_8_23 hl.1 (rest := []) rfl (Nat.le_of_ble_eq_true rfl) ⟨Nat.le_of_ble_eq_true rfl, Nat.le_of_ble_eq_true rfl⟩ ⟨Nat.le_of_ble_eq_true rfl, Nat.le_of_ble_eq_true rfl⟩ dX12_part_14 (fun f4 tf4 H locs htf4 hf4 hWf4 hS => ?_)
    rcases hWf4 with ⟨av5, pv5, gav5, gbv5, hBf4⟩ | ⟨wv5, pv5, w1v5, w2v5, hBf4⟩
    · have hG := hBf4.2.2.2
      rw [htf4] at hG
      have bv5 := vq_bd2 (k := 1) hav (by decide) gav5 gbv5
      have p2v5 : a + 1 ≤ av5 := vq_pg (vq_pg0 a) gav5 (by decide)
      refine lv_istore_n (lv' := [(3, .int f4), (0, .ref a0), (1, .int x1), (2, .int x2)]) X.1 X.2.1 dX12_part_17 rfl hl (by decide) rfl (fun ls hl => ?_)
      have B6_18 : ∀ (N : Nat) (H : Heap) (locs : List Loc) (ls : Array Slot) (z6_3 : Int32) (a6 : Int), 0 ≤ a6 → a6 ≤ sgL2 P → a + 1 ≤ a6 → sgG (KE a6 a6 (-1) (-1) 1 1 z P) D vwCl (fun q : Nat => base ≤ q) tys ad ks H → va_S (fun q : Nat => base ≤ q) s.heap H locs → lv_has ls 5 [(0, .ref a0), (3, .int z6_3)] → iv 0 1 z6_3 → vPa (sgU2 P) (sgL2 P) 5 (vX (sgU2 P) (sgL2 P) a) = vL (vUn (sgU2 P) (sgL2 P) 5) op38 (sgU2 P) (sgL2 P) (vX (sgU2 P) (sgL2 P) a6) → (242 - a6).toNat ≤ N → W p l e (headSpec (Cond.code yX12_part cX12_part 5 (some .boolean) :: sg_tbl) ({ frames := 25, cells := 0, slots := 0, locals := 580 })).room s m #[.ref a0, .int x1, .int x2] below meth c H locs 0 0 (MQ below (va_Qi (fun r (u : Int32) => u = r ∧ (fun r : Int32 => iv 0 1 r) r) (fun u t => (∃ a1 : Int, vPa (sgU2 P) (sgL2 P) 5 (vX (sgU2 P) (sgL2 P) a) = (true, vX (sgU2 P) (sgL2 P) a1) ∧ a + 1 ≤ a1 ∧ a1 ≤ sgL2 P ∧ sgB (KE a1 a1 (-1) (-1) 1 1 z P) D vwCl base tys ad ks t) ∨ (∃ w : Int, vPa (sgU2 P) (sgL2 P) 5 (vX (sgU2 P) (sgL2 P) a) = (false, w) ∧ 0 ≤ w ∧ w ≤ 240 ∧ sgB (KE 0 241 w w 1 6 z P) D vwCl base tys ad ks t)) (fun q : Nat => base ≤ q)) #[.ref a0, .int x1, .int x2] s 0 0 (fun q : Nat => base ≤ q)) (F0 m 18 ls []) := by
        intro N; induction N with
        | zero =>
          intro H locs ls z6_3 a6 jl6 jm6 jk6 hG hS hl hz6_3 xf6 hN
          exact absurd hN (by have := jm6; omega)
        | succ N ih6 =>
          intro H locs ls z6_3 a6 jl6 jm6 jk6 hG hS hl hz6_3 xf6 hN6
          refine lv_aload_n X.1 X.2.1 dX12_part_18 rfl (lv_at hl 0 rfl) ?_
          refine gf_X12_11e X hK hG h0 wl_6_189 dX12_part_19 (fun f7 hf7 => ?_)
          refine lv_iconst (v := (-1)) X.1 X.2.1 dX12_part_22 (by decide +kernel) ?_
          refine lv_icmp_ne (tgt := 69) X.1 X.2.1 dX12_part_23 (by decide) (fun c8 => ?_) (fun c8 => ?_)
          · have i9 : (((-1) : Int) = ((-1) : Int)) = False := vq_ne c8 (vq_iv hf7) (by decide +kernel)
            exact ((c8 (iv_one hf7 (iv_c (-1) (a := (-1)) (b := (-1)) (by decide +kernel)) (by decide +kernel)))).elim
          · have i10 : ((-1) : Int) = ((-1) : Int) := vq_eq c8 (vq_iv hf7) (by decide +kernel)
            refine lv_aload_n X.1 X.2.1 dX12_part_26 rfl (lv_at hl 0 rfl) ?_
            refine ca_X12_look_e X hK hG hC hS hb a0 h0 hl0 (And.intro jl6 jm6) hby wl_7_137 hl.1 (rest := []) rfl (Nat.le_of_ble_eq_true rfl) ⟨Nat.le_of_ble_eq_true rfl, Nat.le_of_ble_eq_true rfl⟩ ⟨Nat.le_of_ble_eq_true rfl, Nat.le_of_ble_eq_true rfl⟩ dX12_part_27 (fun f11 tf11 H locs htf11 hf11 hWf11 hS => ?_)
            have hBf11 := hWf11.2
            have xf11 := hWf11.1
            have hG := hBf11.2.2.2
            rw [htf11] at hG
            have b12 := vq_bdL (b := sgU2 P) (And.intro jl6 jm6)
            have eb12 : a6 ≤ vX (sgU2 P) (sgL2 P) a6 := (vX_ge (sgU2 P) (sgL2 P) a6).1
            have pb12 : a + 1 ≤ vX (sgU2 P) (sgL2 P) a6 := Int.le_trans jk6 (vX_ge (sgU2 P) (sgL2 P) a6).1
            have yf11 : iv (-1) 255 f11 := vq_lk xf11 (vC_by2 hby _)
            refine lv_bipush (v := 38) X.1 X.2.1 dX12_part_30 (by decide +kernel) ?_
            refine lv_icmp_ne (tgt := 69) X.1 X.2.1 dX12_part_32 (by decide) (fun c13 => ?_) (fun c13 => ?_)
            · have i14 : (vE (vC (sgU2 P) (sgL2 P) (vX (sgU2 P) (sgL2 P) a6)) = (38 : Int)) = False := vq_ne c13 xf11 (by decide +kernel)
              have mi14 : (vC (sgU2 P) (sgL2 P) (vX (sgU2 P) (sgL2 P) a6) = (38 : Int)) = False := vE_ne i14 (by decide)
              refine lv_iload_n X.1 X.2.1 dX12_part_69 rfl (lv_at hl 1 rfl) ?_
              have spr : vPa (sgU2 P) (sgL2 P) 5 (vX (sgU2 P) (sgL2 P) a) = (true, vX (sgU2 P) (sgL2 P) (vX (sgU2 P) (sgL2 P) a6)) := by rw [vX_idem]; exact xf6.trans (vL_stop (op38_no mi14))
              exact sg_zret2 X hr (sg_zn hz6_3) hlk hS hz6_3 (fun t ht hW => (Or.inl ⟨_, spr, vq_pgw pb12 (by decide), (b12).2, sg_post hb hK hC hG hS ht hW⟩)) dX12_part_70
            · have i15 : vE (vC (sgU2 P) (sgL2 P) (vX (sgU2 P) (sgL2 P) a6)) = (38 : Int) := vq_eq c13 xf11 (by decide +kernel)
              have mi15 : vC (sgU2 P) (sgL2 P) (vX (sgU2 P) (sgL2 P) a6) = (38 : Int) := vE_eq i15 (by decide)
              refine lv_aload_n X.1 X.2.1 dX12_part_35 rfl (lv_at hl 0 rfl) ?_
              refine lv_dup X.1 X.2.1 dX12_part_36 rfl ?_
              refine gf_X12_10e X hK hG h0 wl_6_188 dX12_part_37 (fun f16 hf16 => ?_)
              have xf16 : f16.toInt = (vX (sgU2 P) (sgL2 P) a6) := vq_iv hf16
              have yf16 : iv 0 240 f16 := vq_240 hl0 b12 xf16
              refine lv_iconst (v := 1) X.1 X.2.1 dX12_part_40 (by decide +kernel) ?_
              refine lv_iadd X.1 X.2.1 dX12_part_41 ?_
              refine lv_topi (fun f17 ef17 => ?_)
              have xf17 : f17.toInt = ((vX (sgU2 P) (sgL2 P) a6) + 1) := sg_exadd ef17 yf16 (iv_c 1 (a := 1) (b := 1) (by decide +kernel)) (by decide +kernel) xf16 (by decide +kernel)
              refine pf_X12_10E (b1 := ((vX (sgU2 P) (sgL2 P) a6) + 1)) (b2 := ((vX (sgU2 P) (sgL2 P) a6) + 1)) X hK hG hS h0 wl_6_188 (vq_of (lo := ((vX (sgU2 P) (sgL2 P) a6) + 1)) (hi := ((vX (sgU2 P) (sgL2 P) a6) + 1)) xf17 ⟨Int.le_refl _, Int.le_refl _⟩) dX12_part_42 (fun H locs hG hS => ?_)
              have l18 := (vC_lt (b := sgU2 P) (n := sgL2 P) (a := (vX (sgU2 P) (sgL2 P) a6)) (by rw [mi15]; decide)).2
              have b19 := vq_bd1 b12 l18
              have pb19 : a + 2 ≤ ((vX (sgU2 P) (sgL2 P) a6) + 1) := vq_pg pb12 (m := 1) (Int.le_refl _) (by decide)
              refine lv_aload_n X.1 X.2.1 dX12_part_45 rfl (lv_at hl 0 rfl) ?_
              refine ca_X12_unit_e1 X hK hG hC hS hb a0 h0 hl0 b19 hby wl_8_23 hl.1 (rest := []) rfl (Nat.le_of_ble_eq_true rfl) ⟨Nat.le_of_ble_eq_true rfl, Nat.le_of_ble_eq_true rfl⟩ ⟨Nat.le_of_ble_eq_true rfl, Nat.le_of_ble_eq_true rfl⟩ dX12_part_46 (fun f20 tf20 H locs htf20 hf20 hWf20 hS => ?_)
              rcases hWf20 with ⟨av21, pv21, gav21, gbv21, hBf20⟩ | ⟨wv21, pv21, w1v21, w2v21, hBf20⟩
              · have hG := hBf20.2.2.2
                rw [htf20] at hG
                have bv21 := vq_bd2 (k := 1) b19 (by decide) gav21 gbv21
                have p2v21 : a + 3 ≤ av21 := vq_pg pb19 gav21 (by decide)
                refine lv_istore (lv' := [(4, .int f20), (0, .ref a0), (3, .int z6_3)]) X.1 X.2.1 dX12_part_49 hl (by decide) rfl (fun ls hl => ?_)
                refine lv_iload_n X.1 X.2.1 dX12_part_51 rfl (lv_at hl 2 rfl) ?_
                refine lv_if_eq (tgt := 64) X.1 X.2.1 dX12_part_52 (by decide) (fun c22 => ?_) (fun c22 => ?_)
                · have i23 : z6_3.toInt = (0 : Int) := vq_eq c22 rfl (by decide +kernel)
                  refine lv_iconst (v := 0) X.1 X.2.1 dX12_part_64 (by decide +kernel) ?_
                  refine lv_istore_n (lv' := [(3, .int 0), (4, .int f20), (0, .ref a0)]) X.1 X.2.1 dX12_part_65 rfl hl (by decide) rfl (fun ls hl => ?_)
                  refine lv_goto (tgt := 18) X.1 X.2.1 dX12_part_66 (by decide) ?_
                  exact ih6 H _ _ 0 (av21) (bv21).1 (bv21).2 (vq_pgw p2v21 (by decide)) hG hS (lv_sub hl [2, 0] rfl) (iv_of (iv_c 0 (a := 0) (b := 0) (by decide +kernel)) (a' := 0) (b' := 1) (by decide +kernel)) (xf6.trans (vL_step (op38_38 mi15) pv21 (vq_l2 gav21 (vX_ge (sgU2 P) (sgL2 P) av21).1) (vC_lt (b := sgU2 P) (n := sgL2 P) (by rw [mi15]; decide)).2)) (by omega)
                · have i24 : (z6_3.toInt = (0 : Int)) = False := vq_ne c22 rfl (by decide +kernel)
                  refine lv_iload X.1 X.2.1 dX12_part_55 (lv_at hl 0 rfl) ?_
                  refine lv_if_eq (tgt := 64) X.1 X.2.1 dX12_part_57 (by decide) (fun c25 => ?_) (fun c25 => ?_)
                  · refine lv_iconst (v := 0) X.1 X.2.1 dX12_part_64 (by decide +kernel) ?_
                    refine lv_istore_n (lv' := [(3, .int 0), (4, .int f20), (0, .ref a0)]) X.1 X.2.1 dX12_part_65 rfl hl (by decide) rfl (fun ls hl => ?_)
                    refine lv_goto (tgt := 18) X.1 X.2.1 dX12_part_66 (by decide) ?_
                    exact ih6 H _ _ 0 (av21) (bv21).1 (bv21).2 (vq_pgw p2v21 (by decide)) hG hS (lv_sub hl [2, 0] rfl) (iv_of (iv_c 0 (a := 0) (b := 0) (by decide +kernel)) (a' := 0) (b' := 1) (by decide +kernel)) (xf6.trans (vL_step (op38_38 mi15) pv21 (vq_l2 gav21 (vX_ge (sgU2 P) (sgL2 P) av21).1) (vC_lt (b := sgU2 P) (n := sgL2 P) (by rw [mi15]; decide)).2)) (by omega)
                  · refine lv_iconst (v := 1) X.1 X.2.1 dX12_part_60 (by decide +kernel) ?_
                    refine lv_goto (tgt := 65) X.1 X.2.1 dX12_part_61 (by decide) ?_
                    refine lv_istore_n (lv' := [(3, .int 1), (4, .int f20), (0, .ref a0)]) X.1 X.2.1 dX12_part_65 rfl hl (by decide) rfl (fun ls hl => ?_)
                    refine lv_goto (tgt := 18) X.1 X.2.1 dX12_part_66 (by decide) ?_
                    exact ih6 H _ _ 1 (av21) (bv21).1 (bv21).2 (vq_pgw p2v21 (by decide)) hG hS (lv_sub hl [2, 0] rfl) (iv_of (iv_c 1 (a := 1) (b := 1) (by decide +kernel)) (a' := 0) (b' := 1) (by decide +kernel)) (xf6.trans (vL_step (op38_38 mi15) pv21 (vq_l2 gav21 (vX_ge (sgU2 P) (sgL2 P) av21).1) (vC_lt (b := sgU2 P) (n := sgL2 P) (by rw [mi15]; decide)).2)) (by omega)
              · have hG := hBf20.2.2.2
                rw [htf20] at hG
                refine lv_istore (lv' := [(4, .int f20), (0, .ref a0), (3, .int z6_3)]) X.1 X.2.1 dX12_part_49 hl (by decide) rfl (fun ls hl => ?_)
                refine lv_iload_n X.1 X.2.1 dX12_part_51 rfl (lv_at hl 2 rfl) ?_
                refine lv_if_eq (tgt := 64) X.1 X.2.1 dX12_part_52 (by decide) (fun c26 => ?_) (fun c26 => ?_)
                · have i27 : z6_3.toInt = (0 : Int) := vq_eq c26 rfl (by decide +kernel)
                  refine lv_iconst (v := 0) X.1 X.2.1 dX12_part_64 (by decide +kernel) ?_
                  refine lv_istore_n (lv' := [(3, .int 0), (4, .int f20), (0, .ref a0)]) X.1 X.2.1 dX12_part_65 rfl hl (by decide) rfl (fun ls hl => ?_)
                  refine lv_goto (tgt := 18) X.1 X.2.1 dX12_part_66 (by decide) ?_
                  refine lv_aload_n X.1 X.2.1 dX12_part_18 rfl (lv_at hl 2 rfl) ?_
                  refine gf_X12_11e X hK hG h0 wl_6_189 dX12_part_19 (fun f29 hf29 => ?_)
                  have xf29 : f29.toInt = wv21 := vq_iv hf29
                  have yf29 : iv 0 240 f29 := vq_of xf29 (And.intro w1v21 w2v21)
                  refine lv_iconst (v := (-1)) X.1 X.2.1 dX12_part_22 (by decide +kernel) ?_
                  refine lv_icmp_ne (tgt := 69) X.1 X.2.1 dX12_part_23 (by decide) (fun c30 => ?_) (fun c30 => ?_)
                  · have i31 : (wv21 = ((-1) : Int)) = False := vq_ne c30 xf29 (by decide +kernel)
                    refine lv_iload_n X.1 X.2.1 dX12_part_69 rfl (lv_at hl 0 rfl) ?_
                    have spr : vPa (sgU2 P) (sgL2 P) 5 (vX (sgU2 P) (sgL2 P) a) = (false, wv21) := by exact xf6.trans (vL_bad (op38_38 mi15) pv21)
                    have hG := ke_weak (b1 := 0) (b2 := 241) (g1 := wv21) (g2 := wv21) (e1 := 1) (e2 := 6) hG (Int.le_refl _) (Int.le_refl _) (Int.le_refl _) (Int.le_refl _) (by decide) (by decide)
                    exact sg_zret2 X hr (sg_zn (iv_of (iv_c 0 (a := 0) (b := 0) (by decide +kernel)) (a' := 0) (b' := 1) (by decide +kernel))) hlk hS (iv_of (iv_c 0 (a := 0) (b := 0) (by decide +kernel)) (a' := 0) (b' := 1) (by decide +kernel)) (fun t ht hW => (Or.inr ⟨_, spr, ((And.intro w1v21 w2v21)).1, ((And.intro w1v21 w2v21)).2, sg_post hb hK hC hG hS ht hW⟩)) dX12_part_70
                  · have i32 : wv21 = ((-1) : Int) := vq_eq c30 xf29 (by decide +kernel)
                    exact ((iv_no (a := 0) (b := (-1)) (iv_eqm c30 yf29 (iv_c (-1) (a := (-1)) (b := (-1)) (by decide +kernel)) (by decide +kernel)) (by decide +kernel))).elim
                · have i28 : (z6_3.toInt = (0 : Int)) = False := vq_ne c26 rfl (by decide +kernel)
                  refine lv_iload X.1 X.2.1 dX12_part_55 (lv_at hl 0 rfl) ?_
                  refine lv_if_eq (tgt := 64) X.1 X.2.1 dX12_part_57 (by decide) (fun c33 => ?_) (fun c33 => ?_)
                  · refine lv_iconst (v := 0) X.1 X.2.1 dX12_part_64 (by decide +kernel) ?_
                    refine lv_istore_n (lv' := [(3, .int 0), (4, .int f20), (0, .ref a0)]) X.1 X.2.1 dX12_part_65 rfl hl (by decide) rfl (fun ls hl => ?_)
                    refine lv_goto (tgt := 18) X.1 X.2.1 dX12_part_66 (by decide) ?_
                    refine lv_aload_n X.1 X.2.1 dX12_part_18 rfl (lv_at hl 2 rfl) ?_
                    refine gf_X12_11e X hK hG h0 wl_6_189 dX12_part_19 (fun f34 hf34 => ?_)
                    have xf34 : f34.toInt = wv21 := vq_iv hf34
                    have yf34 : iv 0 240 f34 := vq_of xf34 (And.intro w1v21 w2v21)
                    refine lv_iconst (v := (-1)) X.1 X.2.1 dX12_part_22 (by decide +kernel) ?_
                    refine lv_icmp_ne (tgt := 69) X.1 X.2.1 dX12_part_23 (by decide) (fun c35 => ?_) (fun c35 => ?_)
                    · have i36 : (wv21 = ((-1) : Int)) = False := vq_ne c35 xf34 (by decide +kernel)
                      refine lv_iload_n X.1 X.2.1 dX12_part_69 rfl (lv_at hl 0 rfl) ?_
                      have spr : vPa (sgU2 P) (sgL2 P) 5 (vX (sgU2 P) (sgL2 P) a) = (false, wv21) := by exact xf6.trans (vL_bad (op38_38 mi15) pv21)
                      have hG := ke_weak (b1 := 0) (b2 := 241) (g1 := wv21) (g2 := wv21) (e1 := 1) (e2 := 6) hG (Int.le_refl _) (Int.le_refl _) (Int.le_refl _) (Int.le_refl _) (by decide) (by decide)
                      exact sg_zret2 X hr (sg_zn (iv_of (iv_c 0 (a := 0) (b := 0) (by decide +kernel)) (a' := 0) (b' := 1) (by decide +kernel))) hlk hS (iv_of (iv_c 0 (a := 0) (b := 0) (by decide +kernel)) (a' := 0) (b' := 1) (by decide +kernel)) (fun t ht hW => (Or.inr ⟨_, spr, ((And.intro w1v21 w2v21)).1, ((And.intro w1v21 w2v21)).2, sg_post hb hK hC hG hS ht hW⟩)) dX12_part_70
                    · have i37 : wv21 = ((-1) : Int) := vq_eq c35 xf34 (by decide +kernel)
                      exact ((iv_no (a := 0) (b := (-1)) (iv_eqm c35 yf34 (iv_c (-1) (a := (-1)) (b := (-1)) (by decide +kernel)) (by decide +kernel)) (by decide +kernel))).elim
                  · refine lv_iconst (v := 1) X.1 X.2.1 dX12_part_60 (by decide +kernel) ?_
                    refine lv_goto (tgt := 65) X.1 X.2.1 dX12_part_61 (by decide) ?_
                    refine lv_istore_n (lv' := [(3, .int 1), (4, .int f20), (0, .ref a0)]) X.1 X.2.1 dX12_part_65 rfl hl (by decide) rfl (fun ls hl => ?_)
                    refine lv_goto (tgt := 18) X.1 X.2.1 dX12_part_66 (by decide) ?_
                    refine lv_aload_n X.1 X.2.1 dX12_part_18 rfl (lv_at hl 2 rfl) ?_
                    refine gf_X12_11e X hK hG h0 wl_6_189 dX12_part_19 (fun f38 hf38 => ?_)
                    have xf38 : f38.toInt = wv21 := vq_iv hf38
                    have yf38 : iv 0 240 f38 := vq_of xf38 (And.intro w1v21 w2v21)
                    refine lv_iconst (v := (-1)) X.1 X.2.1 dX12_part_22 (by decide +kernel) ?_
                    refine lv_icmp_ne (tgt := 69) X.1 X.2.1 dX12_part_23 (by decide) (fun c39 => ?_) (fun c39 => ?_)
                    · have i40 : (wv21 = ((-1) : Int)) = False := vq_ne c39 xf38 (by decide +kernel)
                      refine lv_iload_n X.1 X.2.1 dX12_part_69 rfl (lv_at hl 0 rfl) ?_
                      have spr : vPa (sgU2 P) (sgL2 P) 5 (vX (sgU2 P) (sgL2 P) a) = (false, wv21) := by exact xf6.trans (vL_bad (op38_38 mi15) pv21)
                      have hG := ke_weak (b1 := 0) (b2 := 241) (g1 := wv21) (g2 := wv21) (e1 := 1) (e2 := 6) hG (Int.le_refl _) (Int.le_refl _) (Int.le_refl _) (Int.le_refl _) (by decide) (by decide)
                      exact sg_zret2 X hr (sg_zn (iv_of (iv_c 1 (a := 1) (b := 1) (by decide +kernel)) (a' := 0) (b' := 1) (by decide +kernel))) hlk hS (iv_of (iv_c 1 (a := 1) (b := 1) (by decide +kernel)) (a' := 0) (b' := 1) (by decide +kernel)) (fun t ht hW => (Or.inr ⟨_, spr, ((And.intro w1v21 w2v21)).1, ((And.intro w1v21 w2v21)).2, sg_post hb hK hC hG hS ht hW⟩)) dX12_part_70
                    · have i41 : wv21 = ((-1) : Int) := vq_eq c39 xf38 (by decide +kernel)
                      exact ((iv_no (a := 0) (b := (-1)) (iv_eqm c39 yf38 (iv_c (-1) (a := (-1)) (b := (-1)) (by decide +kernel)) (by decide +kernel)) (by decide +kernel))).elim
      exact B6_18 _ H _ _ f4 (av5) (bv5).1 (bv5).2 (vq_pgw p2v5 (by decide)) hG hS (lv_sub hl [1, 0] rfl) hf4 (by simp only [vPa, i2, pv5, cond_true, cond_false, vB_t, vB_f, if_true, if_false, eq_self, not_true_eq_false, not_false_eq_true, Int.reduceEq, Int.reduceLT, or_false, false_or, or_true, true_or]) (Nat.le_refl _)
    · have hG := hBf4.2.2.2
      rw [htf4] at hG
      refine lv_istore_n (lv' := [(3, .int f4), (0, .ref a0), (1, .int x1), (2, .int x2)]) X.1 X.2.1 dX12_part_17 rfl hl (by decide) rfl (fun ls hl => ?_)
      refine lv_aload_n X.1 X.2.1 dX12_part_18 rfl (lv_at hl 1 rfl) ?_
      refine gf_X12_11e X hK hG h0 wl_6_189 dX12_part_19 (fun f42 hf42 => ?_)
      have xf42 : f42.toInt = wv5 := vq_iv hf42
      have yf42 : iv 0 240 f42 := vq_of xf42 (And.intro w1v5 w2v5)
      refine lv_iconst (v := (-1)) X.1 X.2.1 dX12_part_22 (by decide +kernel) ?_
      refine lv_icmp_ne (tgt := 69) X.1 X.2.1 dX12_part_23 (by decide) (fun c43 => ?_) (fun c43 => ?_)
      · have i44 : (wv5 = ((-1) : Int)) = False := vq_ne c43 xf42 (by decide +kernel)
        refine lv_iload_n X.1 X.2.1 dX12_part_69 rfl (lv_at hl 0 rfl) ?_
        have spr : vPa (sgU2 P) (sgL2 P) 5 (vX (sgU2 P) (sgL2 P) a) = (false, wv5) := by simp only [vPa, i2, pv5, i44, cond_true, cond_false, vB_t, vB_f, if_true, if_false, eq_self, not_true_eq_false, not_false_eq_true, Int.reduceEq, Int.reduceLT, or_false, false_or, or_true, true_or]
        have hG := ke_weak (b1 := 0) (b2 := 241) (g1 := wv5) (g2 := wv5) (e1 := 1) (e2 := 6) hG (Int.le_refl _) (Int.le_refl _) (Int.le_refl _) (Int.le_refl _) (by decide) (by decide)
        exact sg_zret2 X hr (sg_zn hf4) hlk hS hf4 (fun t ht hW => (Or.inr ⟨_, spr, ((And.intro w1v5 w2v5)).1, ((And.intro w1v5 w2v5)).2, sg_post hb hK hC hG hS ht hW⟩)) dX12_part_70
      · have i45 : wv5 = ((-1) : Int) := vq_eq c43 xf42 (by decide +kernel)
        exact ((iv_no (a := 0) (b := (-1)) (iv_eqm c43 yf42 (iv_c (-1) (a := (-1)) (b := (-1)) (by decide +kernel)) (by decide +kernel)) (by decide +kernel))).elim
  · have i3 : (x1.toInt = (0 : Int)) = False := vq_ne c1 rfl (by decide +kernel)
    exact ((c1 (iv_one h1 (iv_c 0 (a := 0) (b := 0) (by decide +kernel)) (by decide +kernel)))).elim

theorem ca_X12_part_e1_0  {a : Int} {z : sgZt}  (X : CallFix p m c cc nL s args sg_tbl own) (hK : va_K D vwCl tys s) (hG : sgG (KE a a (-1) (-1) 1 1 z P) D vwCl (fun q : Nat => base ≤ q) tys ad ks H) (hC : sgC base s) (hS : va_S (fun q : Nat => base ≤ q) s.heap H locs) (hb : base ≤ s.heap.size) (a0 : Nat) (h0 : isK ad ks 12 a0) (x1 : Int32) (h1 : iv 0 0 x1) (x2 : Int32) (hl0 : 0 ≤ sgL2 P ∧ sgL2 P ≤ 240) (hav : 0 ≤ a ∧ a ≤ sgL2 P) (hby : sgBy2 P) (hl : Cond.methodLink own index yX12_part ∈ sg_tbl) (hsize : ls.size = nL) (hst : st0 = [.int x1, .int x2].reverse ++ .ref a0 :: rest) (hW : (rest.map fun v => v.category).sum ≤ 8) (hR : 26 ≤ R.frames ∧ 604 ≤ R.locals) (hf : cells ≤ R.cells ∧ slots ≤ R.slots) (hdg : decode cc pc = .ok (.invokevirtual index, 3)) (kk : ∀ (r : Int32) (t : State) (H1 : Heap) (locs1 : List Loc), t.heap = H1 → (fun r : Int32 => iv 0 1 r) r → ((∃ a1 : Int, vPa (sgU2 P) (sgL2 P) 5 (vX (sgU2 P) (sgL2 P) a) = (true, vX (sgU2 P) (sgL2 P) a1) ∧ a + 1 ≤ a1 ∧ a1 ≤ sgL2 P ∧ sgB (KE a1 a1 (-1) (-1) 1 1 z P) D vwCl base tys ad ks t) ∨ (∃ w : Int, vPa (sgU2 P) (sgL2 P) 5 (vX (sgU2 P) (sgL2 P) a) = (false, w) ∧ 0 ≤ w ∧ w ≤ 240 ∧ sgB (KE 0 241 w w 1 6 z P) D vwCl base tys ad ks t)) → va_S (fun q : Nat => base ≤ q) s.heap H1 locs1 → W p l e R s m args below meth c H1 locs1 cells slots Q (F0 m (pc + 3) ls (.int r :: rest))) : W p l e R s m args below meth c H locs cells slots Q (F0 m pc ls st0) :=
  sg_callV2i X hK hG hC hS hb (m_X12_part_e1_0 l a0 h0 x1 h1 x2 hl0 hav hby) h0 (k := 12) (ci := 12) rfl (C := RX12) (T := TX12) (N := 53) rfl wl_7_228 wl_1_13 wl_7_227 wl_0_62 (n := 2) (by decide +kernel) rfl rfl rfl hl hsize hst hW hR hf hdg kk

set_option maxHeartbeats 8000000 in
set_option maxRecDepth 100000 in
theorem m_X12_part_e1_1 (l : Launch) {D : va_G} {base : Nat} {tys : List (ClassId × FieldType)} {ad ks : List Nat} {P : sgPm}{a : Int} {z : sgZt}  (a0 : Nat) (h0 : isK ad ks 12 a0) (x1 : Int32) (h1 : iv 1 1 x1) (x2 : Int32) (hl0 : 0 ≤ sgL2 P ∧ sgL2 P ≤ 240) (hav : 0 ≤ a ∧ a ≤ sgL2 P) (hby : sgBy2 P) : Met l yX12_part (Cond.code yX12_part cX12_part 5 (some .boolean) :: sg_tbl) ({ frames := 25, cells := 0, slots := 0, locals := 580 }) (va_Pc [.ref a0, .int x1, .int x2] (sgB (KE a a (-1) (-1) 1 1 z P) D vwCl base tys ad ks)) (va_Qi (fun r (u : Int32) => u = r ∧ (fun r : Int32 => iv 0 1 r) r) (fun u t => (∃ a1 : Int, vB (vCmp (sgU2 P) (sgL2 P) 5 (vX (sgU2 P) (sgL2 P) a)) (vL (vUn (sgU2 P) (sgL2 P) 5) op38 (sgU2 P) (sgL2 P)) = (true, vX (sgU2 P) (sgL2 P) a1) ∧ a + 1 ≤ a1 ∧ a1 ≤ sgL2 P ∧ sgB (KE a1 a1 (-1) (-1) 1 1 z P) D vwCl base tys ad ks t) ∨ (∃ w : Int, vB (vCmp (sgU2 P) (sgL2 P) 5 (vX (sgU2 P) (sgL2 P) a)) (vL (vUn (sgU2 P) (sgL2 P) 5) op38 (sgU2 P) (sgL2 P)) = (false, w) ∧ 0 ≤ w ∧ w ≤ 240 ∧ sgB (KE 0 241 w w 1 6 z P) D vwCl base tys ad ks t)) (fun q : Nat => base ≤ q)) 0 0 (fun q : Nat => base ≤ q) := by
  refine sg_ofW (by decide +kernel) (Nat.le_of_ble_eq_true rfl) (fun p e s m below meth c X hr hlk hb hK hC hG ls hl => ?_)
  have hS : va_S (fun q : Nat => base ≤ q) s.heap s.heap [] := va_S.rf
  have hl : lv_has ls 5 [(0, .ref a0), (1, .int x1), (2, .int x2)] := hl
  refine lv_iload_n X.1 X.2.1 dX12_part_0 rfl (lv_at hl 1 rfl) ?_
  refine lv_if_eq (tgt := 13) X.1 X.2.1 dX12_part_1 (by decide) (fun c1 => ?_) (fun c1 => ?_)
  · have i2 : x1.toInt = (0 : Int) := vq_eq c1 rfl (by decide +kernel)
    exact ((iv_no (a := 1) (b := 0) (iv_eqm c1 h1 (iv_c 0 (a := 0) (b := 0) (by decide +kernel)) (by decide +kernel)) (by decide +kernel))).elim
  · have i3 : (x1.toInt = (0 : Int)) = False := vq_ne c1 rfl (by decide +kernel)
    refine lv_aload_n X.1 X.2.1 dX12_part_4 rfl (lv_at hl 0 rfl) ?_
    refine lv_iconst (v := 1) X.1 X.2.1 dX12_part_5 (by decide +kernel) ?_
    refine lv_iload_n X.1 X.2.1 dX12_part_6 rfl (lv_at hl 2 rfl) ?_
    refine ca_X12_compares_e1_1 X hK hG hC hS hb a0 h0 1 (iv_c 1 (a := 1) (b := 1) (by decide +kernel)) x2 hl0 hav hby wl_7_229 hl.1 (rest := []) rfl (Nat.le_of_ble_eq_true rfl) ⟨Nat.le_of_ble_eq_true rfl, Nat.le_of_ble_eq_true rfl⟩ ⟨Nat.le_of_ble_eq_true rfl, Nat.le_of_ble_eq_true rfl⟩ dX12_part_7 (fun f4 tf4 H locs htf4 hf4 hWf4 hS => ?_)
    rcases hWf4 with ⟨av5, pv5, gav5, gbv5, hBf4⟩ | ⟨wv5, pv5, w1v5, w2v5, hBf4⟩
    · have hG := hBf4.2.2.2
      rw [htf4] at hG
      have bv5 := vq_bd2 (k := 1) hav (by decide) gav5 gbv5
      have p2v5 : a + 1 ≤ av5 := vq_pg (vq_pg0 a) gav5 (by decide)
      refine lv_goto (tgt := 17) X.1 X.2.1 dX12_part_10 (by decide) ?_
      refine lv_istore_n (lv' := [(3, .int f4), (0, .ref a0), (1, .int x1), (2, .int x2)]) X.1 X.2.1 dX12_part_17 rfl hl (by decide) rfl (fun ls hl => ?_)
      have B6_18 : ∀ (N : Nat) (H : Heap) (locs : List Loc) (ls : Array Slot) (z6_3 : Int32) (a6 : Int), 0 ≤ a6 → a6 ≤ sgL2 P → a + 1 ≤ a6 → sgG (KE a6 a6 (-1) (-1) 1 1 z P) D vwCl (fun q : Nat => base ≤ q) tys ad ks H → va_S (fun q : Nat => base ≤ q) s.heap H locs → lv_has ls 5 [(0, .ref a0), (3, .int z6_3)] → iv 0 1 z6_3 → vB (vCmp (sgU2 P) (sgL2 P) 5 (vX (sgU2 P) (sgL2 P) a)) (vL (vUn (sgU2 P) (sgL2 P) 5) op38 (sgU2 P) (sgL2 P)) = vL (vUn (sgU2 P) (sgL2 P) 5) op38 (sgU2 P) (sgL2 P) (vX (sgU2 P) (sgL2 P) a6) → (242 - a6).toNat ≤ N → W p l e (headSpec (Cond.code yX12_part cX12_part 5 (some .boolean) :: sg_tbl) ({ frames := 25, cells := 0, slots := 0, locals := 580 })).room s m #[.ref a0, .int x1, .int x2] below meth c H locs 0 0 (MQ below (va_Qi (fun r (u : Int32) => u = r ∧ (fun r : Int32 => iv 0 1 r) r) (fun u t => (∃ a1 : Int, vB (vCmp (sgU2 P) (sgL2 P) 5 (vX (sgU2 P) (sgL2 P) a)) (vL (vUn (sgU2 P) (sgL2 P) 5) op38 (sgU2 P) (sgL2 P)) = (true, vX (sgU2 P) (sgL2 P) a1) ∧ a + 1 ≤ a1 ∧ a1 ≤ sgL2 P ∧ sgB (KE a1 a1 (-1) (-1) 1 1 z P) D vwCl base tys ad ks t) ∨ (∃ w : Int, vB (vCmp (sgU2 P) (sgL2 P) 5 (vX (sgU2 P) (sgL2 P) a)) (vL (vUn (sgU2 P) (sgL2 P) 5) op38 (sgU2 P) (sgL2 P)) = (false, w) ∧ 0 ≤ w ∧ w ≤ 240 ∧ sgB (KE 0 241 w w 1 6 z P) D vwCl base tys ad ks t)) (fun q : Nat => base ≤ q)) #[.ref a0, .int x1, .int x2] s 0 0 (fun q : Nat => base ≤ q)) (F0 m 18 ls []) := by
        intro N; induction N with
        | zero =>
          intro H locs ls z6_3 a6 jl6 jm6 jk6 hG hS hl hz6_3 xf6 hN
          exact absurd hN (by have := jm6; omega)
        | succ N ih6 =>
          intro H locs ls z6_3 a6 jl6 jm6 jk6 hG hS hl hz6_3 xf6 hN6
          refine lv_aload_n X.1 X.2.1 dX12_part_18 rfl (lv_at hl 0 rfl) ?_
          refine gf_X12_11e X hK hG h0 wl_6_189 dX12_part_19 (fun f7 hf7 => ?_)
          refine lv_iconst (v := (-1)) X.1 X.2.1 dX12_part_22 (by decide +kernel) ?_
          refine lv_icmp_ne (tgt := 69) X.1 X.2.1 dX12_part_23 (by decide) (fun c8 => ?_) (fun c8 => ?_)
          · have i9 : (((-1) : Int) = ((-1) : Int)) = False := vq_ne c8 (vq_iv hf7) (by decide +kernel)
            exact ((c8 (iv_one hf7 (iv_c (-1) (a := (-1)) (b := (-1)) (by decide +kernel)) (by decide +kernel)))).elim
          · have i10 : ((-1) : Int) = ((-1) : Int) := vq_eq c8 (vq_iv hf7) (by decide +kernel)
            refine lv_aload_n X.1 X.2.1 dX12_part_26 rfl (lv_at hl 0 rfl) ?_
            refine ca_X12_look_e X hK hG hC hS hb a0 h0 hl0 (And.intro jl6 jm6) hby wl_7_137 hl.1 (rest := []) rfl (Nat.le_of_ble_eq_true rfl) ⟨Nat.le_of_ble_eq_true rfl, Nat.le_of_ble_eq_true rfl⟩ ⟨Nat.le_of_ble_eq_true rfl, Nat.le_of_ble_eq_true rfl⟩ dX12_part_27 (fun f11 tf11 H locs htf11 hf11 hWf11 hS => ?_)
            have hBf11 := hWf11.2
            have xf11 := hWf11.1
            have hG := hBf11.2.2.2
            rw [htf11] at hG
            have b12 := vq_bdL (b := sgU2 P) (And.intro jl6 jm6)
            have eb12 : a6 ≤ vX (sgU2 P) (sgL2 P) a6 := (vX_ge (sgU2 P) (sgL2 P) a6).1
            have pb12 : a + 1 ≤ vX (sgU2 P) (sgL2 P) a6 := Int.le_trans jk6 (vX_ge (sgU2 P) (sgL2 P) a6).1
            have yf11 : iv (-1) 255 f11 := vq_lk xf11 (vC_by2 hby _)
            refine lv_bipush (v := 38) X.1 X.2.1 dX12_part_30 (by decide +kernel) ?_
            refine lv_icmp_ne (tgt := 69) X.1 X.2.1 dX12_part_32 (by decide) (fun c13 => ?_) (fun c13 => ?_)
            · have i14 : (vE (vC (sgU2 P) (sgL2 P) (vX (sgU2 P) (sgL2 P) a6)) = (38 : Int)) = False := vq_ne c13 xf11 (by decide +kernel)
              have mi14 : (vC (sgU2 P) (sgL2 P) (vX (sgU2 P) (sgL2 P) a6) = (38 : Int)) = False := vE_ne i14 (by decide)
              refine lv_iload_n X.1 X.2.1 dX12_part_69 rfl (lv_at hl 1 rfl) ?_
              have spr : vB (vCmp (sgU2 P) (sgL2 P) 5 (vX (sgU2 P) (sgL2 P) a)) (vL (vUn (sgU2 P) (sgL2 P) 5) op38 (sgU2 P) (sgL2 P)) = (true, vX (sgU2 P) (sgL2 P) (vX (sgU2 P) (sgL2 P) a6)) := by rw [vX_idem]; exact xf6.trans (vL_stop (op38_no mi14))
              exact sg_zret2 X hr (sg_zn hz6_3) hlk hS hz6_3 (fun t ht hW => (Or.inl ⟨_, spr, vq_pgw pb12 (by decide), (b12).2, sg_post hb hK hC hG hS ht hW⟩)) dX12_part_70
            · have i15 : vE (vC (sgU2 P) (sgL2 P) (vX (sgU2 P) (sgL2 P) a6)) = (38 : Int) := vq_eq c13 xf11 (by decide +kernel)
              have mi15 : vC (sgU2 P) (sgL2 P) (vX (sgU2 P) (sgL2 P) a6) = (38 : Int) := vE_eq i15 (by decide)
              refine lv_aload_n X.1 X.2.1 dX12_part_35 rfl (lv_at hl 0 rfl) ?_
              refine lv_dup X.1 X.2.1 dX12_part_36 rfl ?_
              refine gf_X12_10e X hK hG h0 wl_6_188 dX12_part_37 (fun f16 hf16 => ?_)
              have xf16 : f16.toInt = (vX (sgU2 P) (sgL2 P) a6) := vq_iv hf16
              have yf16 : iv 0 240 f16 := vq_240 hl0 b12 xf16
              refine lv_iconst (v := 1) X.1 X.2.1 dX12_part_40 (by decide +kernel) ?_
              refine lv_iadd X.1 X.2.1 dX12_part_41 ?_
              refine lv_topi (fun f17 ef17 => ?_)
              have xf17 : f17.toInt = ((vX (sgU2 P) (sgL2 P) a6) + 1) := sg_exadd ef17 yf16 (iv_c 1 (a := 1) (b := 1) (by decide +kernel)) (by decide +kernel) xf16 (by decide +kernel)
              refine pf_X12_10E (b1 := ((vX (sgU2 P) (sgL2 P) a6) + 1)) (b2 := ((vX (sgU2 P) (sgL2 P) a6) + 1)) X hK hG hS h0 wl_6_188 (vq_of (lo := ((vX (sgU2 P) (sgL2 P) a6) + 1)) (hi := ((vX (sgU2 P) (sgL2 P) a6) + 1)) xf17 ⟨Int.le_refl _, Int.le_refl _⟩) dX12_part_42 (fun H locs hG hS => ?_)
              have l18 := (vC_lt (b := sgU2 P) (n := sgL2 P) (a := (vX (sgU2 P) (sgL2 P) a6)) (by rw [mi15]; decide)).2
              have b19 := vq_bd1 b12 l18
              have pb19 : a + 2 ≤ ((vX (sgU2 P) (sgL2 P) a6) + 1) := vq_pg pb12 (m := 1) (Int.le_refl _) (by decide)
              refine lv_aload_n X.1 X.2.1 dX12_part_45 rfl (lv_at hl 0 rfl) ?_
              refine ca_X12_unit_e1 X hK hG hC hS hb a0 h0 hl0 b19 hby wl_8_23 hl.1 (rest := []) rfl (Nat.le_of_ble_eq_true rfl) ⟨Nat.le_of_ble_eq_true rfl, Nat.le_of_ble_eq_true rfl⟩ ⟨Nat.le_of_ble_eq_true rfl, Nat.le_of_ble_eq_true rfl⟩ dX12_part_46 (fun f20 tf20 H locs htf20 hf20 hWf20 hS => ?_)
              rcases hWf20 with ⟨av21, pv21, gav21, gbv21, hBf20⟩ | ⟨wv21, pv21, w1v21, w2v21, hBf20⟩
              · have hG := hBf20.2.2.2
                rw [htf20] at hG
                have bv21 := vq_bd2 (k := 1) b19 (by decide) gav21 gbv21
                have p2v21 : a + 3 ≤ av21 := vq_pg pb19 gav21 (by decide)
                refine lv_istore (lv' := [(4, .int f20), (0, .ref a0), (3, .int z6_3)]) X.1 X.2.1 dX12_part_49 hl (by decide) rfl (fun ls hl => ?_)
                refine lv_iload_n X.1 X.2.1 dX12_part_51 rfl (lv_at hl 2 rfl) ?_
                refine lv_if_eq (tgt := 64) X.1 X.2.1 dX12_part_52 (by decide) (fun c22 => ?_) (fun c22 => ?_)
                · have i23 : z6_3.toInt = (0 : Int) := vq_eq c22 rfl (by decide +kernel)
                  refine lv_iconst (v := 0) X.1 X.2.1 dX12_part_64 (by decide +kernel) ?_
                  refine lv_istore_n (lv' := [(3, .int 0), (4, .int f20), (0, .ref a0)]) X.1 X.2.1 dX12_part_65 rfl hl (by decide) rfl (fun ls hl => ?_)
                  refine lv_goto (tgt := 18) X.1 X.2.1 dX12_part_66 (by decide) ?_
                  exact ih6 H _ _ 0 (av21) (bv21).1 (bv21).2 (vq_pgw p2v21 (by decide)) hG hS (lv_sub hl [2, 0] rfl) (iv_of (iv_c 0 (a := 0) (b := 0) (by decide +kernel)) (a' := 0) (b' := 1) (by decide +kernel)) (xf6.trans (vL_step (op38_38 mi15) pv21 (vq_l2 gav21 (vX_ge (sgU2 P) (sgL2 P) av21).1) (vC_lt (b := sgU2 P) (n := sgL2 P) (by rw [mi15]; decide)).2)) (by omega)
                · have i24 : (z6_3.toInt = (0 : Int)) = False := vq_ne c22 rfl (by decide +kernel)
                  refine lv_iload X.1 X.2.1 dX12_part_55 (lv_at hl 0 rfl) ?_
                  refine lv_if_eq (tgt := 64) X.1 X.2.1 dX12_part_57 (by decide) (fun c25 => ?_) (fun c25 => ?_)
                  · refine lv_iconst (v := 0) X.1 X.2.1 dX12_part_64 (by decide +kernel) ?_
                    refine lv_istore_n (lv' := [(3, .int 0), (4, .int f20), (0, .ref a0)]) X.1 X.2.1 dX12_part_65 rfl hl (by decide) rfl (fun ls hl => ?_)
                    refine lv_goto (tgt := 18) X.1 X.2.1 dX12_part_66 (by decide) ?_
                    exact ih6 H _ _ 0 (av21) (bv21).1 (bv21).2 (vq_pgw p2v21 (by decide)) hG hS (lv_sub hl [2, 0] rfl) (iv_of (iv_c 0 (a := 0) (b := 0) (by decide +kernel)) (a' := 0) (b' := 1) (by decide +kernel)) (xf6.trans (vL_step (op38_38 mi15) pv21 (vq_l2 gav21 (vX_ge (sgU2 P) (sgL2 P) av21).1) (vC_lt (b := sgU2 P) (n := sgL2 P) (by rw [mi15]; decide)).2)) (by omega)
                  · refine lv_iconst (v := 1) X.1 X.2.1 dX12_part_60 (by decide +kernel) ?_
                    refine lv_goto (tgt := 65) X.1 X.2.1 dX12_part_61 (by decide) ?_
                    refine lv_istore_n (lv' := [(3, .int 1), (4, .int f20), (0, .ref a0)]) X.1 X.2.1 dX12_part_65 rfl hl (by decide) rfl (fun ls hl => ?_)
                    refine lv_goto (tgt := 18) X.1 X.2.1 dX12_part_66 (by decide) ?_
                    exact ih6 H _ _ 1 (av21) (bv21).1 (bv21).2 (vq_pgw p2v21 (by decide)) hG hS (lv_sub hl [2, 0] rfl) (iv_of (iv_c 1 (a := 1) (b := 1) (by decide +kernel)) (a' := 0) (b' := 1) (by decide +kernel)) (xf6.trans (vL_step (op38_38 mi15) pv21 (vq_l2 gav21 (vX_ge (sgU2 P) (sgL2 P) av21).1) (vC_lt (b := sgU2 P) (n := sgL2 P) (by rw [mi15]; decide)).2)) (by omega)
              · have hG := hBf20.2.2.2
                rw [htf20] at hG
                refine lv_istore (lv' := [(4, .int f20), (0, .ref a0), (3, .int z6_3)]) X.1 X.2.1 dX12_part_49 hl (by decide) rfl (fun ls hl => ?_)
                refine lv_iload_n X.1 X.2.1 dX12_part_51 rfl (lv_at hl 2 rfl) ?_
                refine lv_if_eq (tgt := 64) X.1 X.2.1 dX12_part_52 (by decide) (fun c26 => ?_) (fun c26 => ?_)
                · have i27 : z6_3.toInt = (0 : Int) := vq_eq c26 rfl (by decide +kernel)
                  refine lv_iconst (v := 0) X.1 X.2.1 dX12_part_64 (by decide +kernel) ?_
                  refine lv_istore_n (lv' := [(3, .int 0), (4, .int f20), (0, .ref a0)]) X.1 X.2.1 dX12_part_65 rfl hl (by decide) rfl (fun ls hl => ?_)
                  refine lv_goto (tgt := 18) X.1 X.2.1 dX12_part_66 (by decide) ?_
                  refine lv_aload_n X.1 X.2.1 dX12_part_18 rfl (lv_at hl 2 rfl) ?_
                  refine gf_X12_11e X hK hG h0 wl_6_189 dX12_part_19 (fun f29 hf29 => ?_)
                  have xf29 : f29.toInt = wv21 := vq_iv hf29
                  have yf29 : iv 0 240 f29 := vq_of xf29 (And.intro w1v21 w2v21)
                  refine lv_iconst (v := (-1)) X.1 X.2.1 dX12_part_22 (by decide +kernel) ?_
                  refine lv_icmp_ne (tgt := 69) X.1 X.2.1 dX12_part_23 (by decide) (fun c30 => ?_) (fun c30 => ?_)
                  · have i31 : (wv21 = ((-1) : Int)) = False := vq_ne c30 xf29 (by decide +kernel)
                    refine lv_iload_n X.1 X.2.1 dX12_part_69 rfl (lv_at hl 0 rfl) ?_
                    have spr : vB (vCmp (sgU2 P) (sgL2 P) 5 (vX (sgU2 P) (sgL2 P) a)) (vL (vUn (sgU2 P) (sgL2 P) 5) op38 (sgU2 P) (sgL2 P)) = (false, wv21) := by exact xf6.trans (vL_bad (op38_38 mi15) pv21)
                    have hG := ke_weak (b1 := 0) (b2 := 241) (g1 := wv21) (g2 := wv21) (e1 := 1) (e2 := 6) hG (Int.le_refl _) (Int.le_refl _) (Int.le_refl _) (Int.le_refl _) (by decide) (by decide)
                    exact sg_zret2 X hr (sg_zn (iv_of (iv_c 0 (a := 0) (b := 0) (by decide +kernel)) (a' := 0) (b' := 1) (by decide +kernel))) hlk hS (iv_of (iv_c 0 (a := 0) (b := 0) (by decide +kernel)) (a' := 0) (b' := 1) (by decide +kernel)) (fun t ht hW => (Or.inr ⟨_, spr, ((And.intro w1v21 w2v21)).1, ((And.intro w1v21 w2v21)).2, sg_post hb hK hC hG hS ht hW⟩)) dX12_part_70
                  · have i32 : wv21 = ((-1) : Int) := vq_eq c30 xf29 (by decide +kernel)
                    exact ((iv_no (a := 0) (b := (-1)) (iv_eqm c30 yf29 (iv_c (-1) (a := (-1)) (b := (-1)) (by decide +kernel)) (by decide +kernel)) (by decide +kernel))).elim
                · have i28 : (z6_3.toInt = (0 : Int)) = False := vq_ne c26 rfl (by decide +kernel)
                  refine lv_iload X.1 X.2.1 dX12_part_55 (lv_at hl 0 rfl) ?_
                  refine lv_if_eq (tgt := 64) X.1 X.2.1 dX12_part_57 (by decide) (fun c33 => ?_) (fun c33 => ?_)
                  · refine lv_iconst (v := 0) X.1 X.2.1 dX12_part_64 (by decide +kernel) ?_
                    refine lv_istore_n (lv' := [(3, .int 0), (4, .int f20), (0, .ref a0)]) X.1 X.2.1 dX12_part_65 rfl hl (by decide) rfl (fun ls hl => ?_)
                    refine lv_goto (tgt := 18) X.1 X.2.1 dX12_part_66 (by decide) ?_
                    refine lv_aload_n X.1 X.2.1 dX12_part_18 rfl (lv_at hl 2 rfl) ?_
                    refine gf_X12_11e X hK hG h0 wl_6_189 dX12_part_19 (fun f34 hf34 => ?_)
                    have xf34 : f34.toInt = wv21 := vq_iv hf34
                    have yf34 : iv 0 240 f34 := vq_of xf34 (And.intro w1v21 w2v21)
                    refine lv_iconst (v := (-1)) X.1 X.2.1 dX12_part_22 (by decide +kernel) ?_
                    refine lv_icmp_ne (tgt := 69) X.1 X.2.1 dX12_part_23 (by decide) (fun c35 => ?_) (fun c35 => ?_)
                    · have i36 : (wv21 = ((-1) : Int)) = False := vq_ne c35 xf34 (by decide +kernel)
                      refine lv_iload_n X.1 X.2.1 dX12_part_69 rfl (lv_at hl 0 rfl) ?_
                      have spr : vB (vCmp (sgU2 P) (sgL2 P) 5 (vX (sgU2 P) (sgL2 P) a)) (vL (vUn (sgU2 P) (sgL2 P) 5) op38 (sgU2 P) (sgL2 P)) = (false, wv21) := by exact xf6.trans (vL_bad (op38_38 mi15) pv21)
                      have hG := ke_weak (b1 := 0) (b2 := 241) (g1 := wv21) (g2 := wv21) (e1 := 1) (e2 := 6) hG (Int.le_refl _) (Int.le_refl _) (Int.le_refl _) (Int.le_refl _) (by decide) (by decide)
                      exact sg_zret2 X hr (sg_zn (iv_of (iv_c 0 (a := 0) (b := 0) (by decide +kernel)) (a' := 0) (b' := 1) (by decide +kernel))) hlk hS (iv_of (iv_c 0 (a := 0) (b := 0) (by decide +kernel)) (a' := 0) (b' := 1) (by decide +kernel)) (fun t ht hW => (Or.inr ⟨_, spr, ((And.intro w1v21 w2v21)).1, ((And.intro w1v21 w2v21)).2, sg_post hb hK hC hG hS ht hW⟩)) dX12_part_70
                    · have i37 : wv21 = ((-1) : Int) := vq_eq c35 xf34 (by decide +kernel)
                      exact ((iv_no (a := 0) (b := (-1)) (iv_eqm c35 yf34 (iv_c (-1) (a := (-1)) (b := (-1)) (by decide +kernel)) (by decide +kernel)) (by decide +kernel))).elim
                  · refine lv_iconst (v := 1) X.1 X.2.1 dX12_part_60 (by decide +kernel) ?_
                    refine lv_goto (tgt := 65) X.1 X.2.1 dX12_part_61 (by decide) ?_
                    refine lv_istore_n (lv' := [(3, .int 1), (4, .int f20), (0, .ref a0)]) X.1 X.2.1 dX12_part_65 rfl hl (by decide) rfl (fun ls hl => ?_)
                    refine lv_goto (tgt := 18) X.1 X.2.1 dX12_part_66 (by decide) ?_
                    refine lv_aload_n X.1 X.2.1 dX12_part_18 rfl (lv_at hl 2 rfl) ?_
                    refine gf_X12_11e X hK hG h0 wl_6_189 dX12_part_19 (fun f38 hf38 => ?_)
                    have xf38 : f38.toInt = wv21 := vq_iv hf38
                    have yf38 : iv 0 240 f38 := vq_of xf38 (And.intro w1v21 w2v21)
                    refine lv_iconst (v := (-1)) X.1 X.2.1 dX12_part_22 (by decide +kernel) ?_
                    refine lv_icmp_ne (tgt := 69) X.1 X.2.1 dX12_part_23 (by decide) (fun c39 => ?_) (fun c39 => ?_)
                    · have i40 : (wv21 = ((-1) : Int)) = False := vq_ne c39 xf38 (by decide +kernel)
                      refine lv_iload_n X.1 X.2.1 dX12_part_69 rfl (lv_at hl 0 rfl) ?_
                      have spr : vB (vCmp (sgU2 P) (sgL2 P) 5 (vX (sgU2 P) (sgL2 P) a)) (vL (vUn (sgU2 P) (sgL2 P) 5) op38 (sgU2 P) (sgL2 P)) = (false, wv21) := by exact xf6.trans (vL_bad (op38_38 mi15) pv21)
                      have hG := ke_weak (b1 := 0) (b2 := 241) (g1 := wv21) (g2 := wv21) (e1 := 1) (e2 := 6) hG (Int.le_refl _) (Int.le_refl _) (Int.le_refl _) (Int.le_refl _) (by decide) (by decide)
                      exact sg_zret2 X hr (sg_zn (iv_of (iv_c 1 (a := 1) (b := 1) (by decide +kernel)) (a' := 0) (b' := 1) (by decide +kernel))) hlk hS (iv_of (iv_c 1 (a := 1) (b := 1) (by decide +kernel)) (a' := 0) (b' := 1) (by decide +kernel)) (fun t ht hW => (Or.inr ⟨_, spr, ((And.intro w1v21 w2v21)).1, ((And.intro w1v21 w2v21)).2, sg_post hb hK hC hG hS ht hW⟩)) dX12_part_70
                    · have i41 : wv21 = ((-1) : Int) := vq_eq c39 xf38 (by decide +kernel)
                      exact ((iv_no (a := 0) (b := (-1)) (iv_eqm c39 yf38 (iv_c (-1) (a := (-1)) (b := (-1)) (by decide +kernel)) (by decide +kernel)) (by decide +kernel))).elim
      exact B6_18 _ H _ _ f4 (av5) (bv5).1 (bv5).2 (vq_pgw p2v5 (by decide)) hG hS (lv_sub hl [1, 0] rfl) hf4 (by simp only [i3, pv5, cond_true, cond_false, vB_t, vB_f, if_true, if_false, eq_self, not_true_eq_false, not_false_eq_true, Int.reduceEq, Int.reduceLT, or_false, false_or, or_true, true_or]) (Nat.le_refl _)
    · have hG := hBf4.2.2.2
      rw [htf4] at hG
      refine lv_goto (tgt := 17) X.1 X.2.1 dX12_part_10 (by decide) ?_
      refine lv_istore_n (lv' := [(3, .int f4), (0, .ref a0), (1, .int x1), (2, .int x2)]) X.1 X.2.1 dX12_part_17 rfl hl (by decide) rfl (fun ls hl => ?_)
      refine lv_aload_n X.1 X.2.1 dX12_part_18 rfl (lv_at hl 1 rfl) ?_
      refine gf_X12_11e X hK hG h0 wl_6_189 dX12_part_19 (fun f42 hf42 => ?_)
      have xf42 : f42.toInt = wv5 := vq_iv hf42
      have yf42 : iv 0 240 f42 := vq_of xf42 (And.intro w1v5 w2v5)
      refine lv_iconst (v := (-1)) X.1 X.2.1 dX12_part_22 (by decide +kernel) ?_
      refine lv_icmp_ne (tgt := 69) X.1 X.2.1 dX12_part_23 (by decide) (fun c43 => ?_) (fun c43 => ?_)
      · have i44 : (wv5 = ((-1) : Int)) = False := vq_ne c43 xf42 (by decide +kernel)
        refine lv_iload_n X.1 X.2.1 dX12_part_69 rfl (lv_at hl 0 rfl) ?_
        have spr : vB (vCmp (sgU2 P) (sgL2 P) 5 (vX (sgU2 P) (sgL2 P) a)) (vL (vUn (sgU2 P) (sgL2 P) 5) op38 (sgU2 P) (sgL2 P)) = (false, wv5) := by simp only [i3, pv5, i44, cond_true, cond_false, vB_t, vB_f, if_true, if_false, eq_self, not_true_eq_false, not_false_eq_true, Int.reduceEq, Int.reduceLT, or_false, false_or, or_true, true_or]
        have hG := ke_weak (b1 := 0) (b2 := 241) (g1 := wv5) (g2 := wv5) (e1 := 1) (e2 := 6) hG (Int.le_refl _) (Int.le_refl _) (Int.le_refl _) (Int.le_refl _) (by decide) (by decide)
        exact sg_zret2 X hr (sg_zn hf4) hlk hS hf4 (fun t ht hW => (Or.inr ⟨_, spr, ((And.intro w1v5 w2v5)).1, ((And.intro w1v5 w2v5)).2, sg_post hb hK hC hG hS ht hW⟩)) dX12_part_70
      · have i45 : wv5 = ((-1) : Int) := vq_eq c43 xf42 (by decide +kernel)
        exact ((iv_no (a := 0) (b := (-1)) (iv_eqm c43 yf42 (iv_c (-1) (a := (-1)) (b := (-1)) (by decide +kernel)) (by decide +kernel)) (by decide +kernel))).elim

theorem ca_X12_part_e1_1  {a : Int} {z : sgZt}  (X : CallFix p m c cc nL s args sg_tbl own) (hK : va_K D vwCl tys s) (hG : sgG (KE a a (-1) (-1) 1 1 z P) D vwCl (fun q : Nat => base ≤ q) tys ad ks H) (hC : sgC base s) (hS : va_S (fun q : Nat => base ≤ q) s.heap H locs) (hb : base ≤ s.heap.size) (a0 : Nat) (h0 : isK ad ks 12 a0) (x1 : Int32) (h1 : iv 1 1 x1) (x2 : Int32) (hl0 : 0 ≤ sgL2 P ∧ sgL2 P ≤ 240) (hav : 0 ≤ a ∧ a ≤ sgL2 P) (hby : sgBy2 P) (hl : Cond.methodLink own index yX12_part ∈ sg_tbl) (hsize : ls.size = nL) (hst : st0 = [.int x1, .int x2].reverse ++ .ref a0 :: rest) (hW : (rest.map fun v => v.category).sum ≤ 8) (hR : 26 ≤ R.frames ∧ 604 ≤ R.locals) (hf : cells ≤ R.cells ∧ slots ≤ R.slots) (hdg : decode cc pc = .ok (.invokevirtual index, 3)) (kk : ∀ (r : Int32) (t : State) (H1 : Heap) (locs1 : List Loc), t.heap = H1 → (fun r : Int32 => iv 0 1 r) r → ((∃ a1 : Int, vB (vCmp (sgU2 P) (sgL2 P) 5 (vX (sgU2 P) (sgL2 P) a)) (vL (vUn (sgU2 P) (sgL2 P) 5) op38 (sgU2 P) (sgL2 P)) = (true, vX (sgU2 P) (sgL2 P) a1) ∧ a + 1 ≤ a1 ∧ a1 ≤ sgL2 P ∧ sgB (KE a1 a1 (-1) (-1) 1 1 z P) D vwCl base tys ad ks t) ∨ (∃ w : Int, vB (vCmp (sgU2 P) (sgL2 P) 5 (vX (sgU2 P) (sgL2 P) a)) (vL (vUn (sgU2 P) (sgL2 P) 5) op38 (sgU2 P) (sgL2 P)) = (false, w) ∧ 0 ≤ w ∧ w ≤ 240 ∧ sgB (KE 0 241 w w 1 6 z P) D vwCl base tys ad ks t)) → va_S (fun q : Nat => base ≤ q) s.heap H1 locs1 → W p l e R s m args below meth c H1 locs1 cells slots Q (F0 m (pc + 3) ls (.int r :: rest))) : W p l e R s m args below meth c H locs cells slots Q (F0 m pc ls st0) :=
  sg_callV2i X hK hG hC hS hb (m_X12_part_e1_1 l a0 h0 x1 h1 x2 hl0 hav hby) h0 (k := 12) (ci := 12) rfl (C := RX12) (T := TX12) (N := 53) rfl wl_7_228 wl_1_13 wl_7_227 wl_0_62 (n := 2) (by decide +kernel) rfl rfl rfl hl hsize hst hW hR hf hdg kk

set_option maxHeartbeats 8000000 in
set_option maxRecDepth 100000 in
theorem m_X12_condition_e1_0 (l : Launch) {D : va_G} {base : Nat} {tys : List (ClassId × FieldType)} {ad ks : List Nat} {P : sgPm}{a : Int} {z : sgZt}  (a0 : Nat) (h0 : isK ad ks 12 a0) (x1 : Int32) (h1 : iv 0 0 x1) (x2 : Int32) (hl0 : 0 ≤ sgL2 P ∧ sgL2 P ≤ 240) (hav : 0 ≤ a ∧ a ≤ sgL2 P) (hby : sgBy2 P) : Met l yX12_condition (Cond.code yX12_condition cX12_condition 5 (some .boolean) :: sg_tbl) ({ frames := 26, cells := 0, slots := 0, locals := 604 }) (va_Pc [.ref a0, .int x1, .int x2] (sgB (KE a a (-1) (-1) 1 1 z P) D vwCl base tys ad ks)) (va_Qi (fun r (u : Int32) => u = r ∧ (fun r : Int32 => iv 0 1 r) r) (fun u t => (∃ a1 : Int, vCon (sgU2 P) (sgL2 P) 5 (vX (sgU2 P) (sgL2 P) a) = (true, vX (sgU2 P) (sgL2 P) a1) ∧ a + 1 ≤ a1 ∧ a1 ≤ sgL2 P ∧ sgB (KE a1 a1 (-1) (-1) 1 1 z P) D vwCl base tys ad ks t) ∨ (∃ w : Int, vCon (sgU2 P) (sgL2 P) 5 (vX (sgU2 P) (sgL2 P) a) = (false, w) ∧ 0 ≤ w ∧ w ≤ 240 ∧ sgB (KE 0 241 w w 1 6 z P) D vwCl base tys ad ks t)) (fun q : Nat => base ≤ q)) 0 0 (fun q : Nat => base ≤ q) := by
  refine sg_ofW (by decide +kernel) (Nat.le_of_ble_eq_true rfl) (fun p e s m below meth c X hr hlk hb hK hC hG ls hl => ?_)
  have hS : va_S (fun q : Nat => base ≤ q) s.heap s.heap [] := va_S.rf
  have hl : lv_has ls 5 [(0, .ref a0), (1, .int x1), (2, .int x2)] := hl
  refine lv_aload_n X.1 X.2.1 dX12_condition_0 rfl (lv_at hl 0 rfl) ?_
  refine lv_iload_n X.1 X.2.1 dX12_condition_1 rfl (lv_at hl 1 rfl) ?_
  refine lv_iload_n X.1 X.2.1 dX12_condition_2 rfl (lv_at hl 2 rfl) ?_
  refine ca_X12_part_e1_0 X hK hG hC hS hb a0 h0 x1 h1 x2 hl0 hav hby wl_7_225 hl.1 (rest := []) rfl (Nat.le_of_ble_eq_true rfl) ⟨Nat.le_of_ble_eq_true rfl, Nat.le_of_ble_eq_true rfl⟩ ⟨Nat.le_of_ble_eq_true rfl, Nat.le_of_ble_eq_true rfl⟩ dX12_condition_3 (fun f1 tf1 H locs htf1 hf1 hWf1 hS => ?_)
  rcases hWf1 with ⟨av2, pv2, gav2, gbv2, hBf1⟩ | ⟨wv2, pv2, w1v2, w2v2, hBf1⟩
  · have hG := hBf1.2.2.2
    rw [htf1] at hG
    have bv2 := vq_bd2 (k := 1) hav (by decide) gav2 gbv2
    have p2v2 : a + 1 ≤ av2 := vq_pg (vq_pg0 a) gav2 (by decide)
    refine lv_istore_n (lv' := [(3, .int f1), (0, .ref a0), (1, .int x1), (2, .int x2)]) X.1 X.2.1 dX12_condition_6 rfl hl (by decide) rfl (fun ls hl => ?_)
    have B3_7 : ∀ (N : Nat) (H : Heap) (locs : List Loc) (ls : Array Slot) (z3_3 : Int32) (a3 : Int), 0 ≤ a3 → a3 ≤ sgL2 P → a + 1 ≤ a3 → sgG (KE a3 a3 (-1) (-1) 1 1 z P) D vwCl (fun q : Nat => base ≤ q) tys ad ks H → va_S (fun q : Nat => base ≤ q) s.heap H locs → lv_has ls 5 [(0, .ref a0), (3, .int z3_3)] → iv 0 1 z3_3 → vCon (sgU2 P) (sgL2 P) 5 (vX (sgU2 P) (sgL2 P) a) = vL (vPa (sgU2 P) (sgL2 P) 5) op124 (sgU2 P) (sgL2 P) (vX (sgU2 P) (sgL2 P) a3) → (242 - a3).toNat ≤ N → W p l e (headSpec (Cond.code yX12_condition cX12_condition 5 (some .boolean) :: sg_tbl) ({ frames := 26, cells := 0, slots := 0, locals := 604 })).room s m #[.ref a0, .int x1, .int x2] below meth c H locs 0 0 (MQ below (va_Qi (fun r (u : Int32) => u = r ∧ (fun r : Int32 => iv 0 1 r) r) (fun u t => (∃ a1 : Int, vCon (sgU2 P) (sgL2 P) 5 (vX (sgU2 P) (sgL2 P) a) = (true, vX (sgU2 P) (sgL2 P) a1) ∧ a + 1 ≤ a1 ∧ a1 ≤ sgL2 P ∧ sgB (KE a1 a1 (-1) (-1) 1 1 z P) D vwCl base tys ad ks t) ∨ (∃ w : Int, vCon (sgU2 P) (sgL2 P) 5 (vX (sgU2 P) (sgL2 P) a) = (false, w) ∧ 0 ≤ w ∧ w ≤ 240 ∧ sgB (KE 0 241 w w 1 6 z P) D vwCl base tys ad ks t)) (fun q : Nat => base ≤ q)) #[.ref a0, .int x1, .int x2] s 0 0 (fun q : Nat => base ≤ q)) (F0 m 7 ls []) := by
      intro N; induction N with
      | zero =>
        intro H locs ls z3_3 a3 jl3 jm3 jk3 hG hS hl hz3_3 xf3 hN
        exact absurd hN (by have := jm3; omega)
      | succ N ih3 =>
        intro H locs ls z3_3 a3 jl3 jm3 jk3 hG hS hl hz3_3 xf3 hN3
        refine lv_aload_n X.1 X.2.1 dX12_condition_7 rfl (lv_at hl 0 rfl) ?_
        refine gf_X12_11e X hK hG h0 wl_6_189 dX12_condition_8 (fun f4 hf4 => ?_)
        refine lv_iconst (v := (-1)) X.1 X.2.1 dX12_condition_11 (by decide +kernel) ?_
        refine lv_icmp_ne (tgt := 60) X.1 X.2.1 dX12_condition_12 (by decide) (fun c5 => ?_) (fun c5 => ?_)
        · have i6 : (((-1) : Int) = ((-1) : Int)) = False := vq_ne c5 (vq_iv hf4) (by decide +kernel)
          exact ((c5 (iv_one hf4 (iv_c (-1) (a := (-1)) (b := (-1)) (by decide +kernel)) (by decide +kernel)))).elim
        · have i7 : ((-1) : Int) = ((-1) : Int) := vq_eq c5 (vq_iv hf4) (by decide +kernel)
          refine lv_aload_n X.1 X.2.1 dX12_condition_15 rfl (lv_at hl 0 rfl) ?_
          refine ca_X12_look_e X hK hG hC hS hb a0 h0 hl0 (And.intro jl3 jm3) hby wl_7_137 hl.1 (rest := []) rfl (Nat.le_of_ble_eq_true rfl) ⟨Nat.le_of_ble_eq_true rfl, Nat.le_of_ble_eq_true rfl⟩ ⟨Nat.le_of_ble_eq_true rfl, Nat.le_of_ble_eq_true rfl⟩ dX12_condition_16 (fun f8 tf8 H locs htf8 hf8 hWf8 hS => ?_)
          have hBf8 := hWf8.2
          have xf8 := hWf8.1
          have hG := hBf8.2.2.2
          rw [htf8] at hG
          have b9 := vq_bdL (b := sgU2 P) (And.intro jl3 jm3)
          have eb9 : a3 ≤ vX (sgU2 P) (sgL2 P) a3 := (vX_ge (sgU2 P) (sgL2 P) a3).1
          have pb9 : a + 1 ≤ vX (sgU2 P) (sgL2 P) a3 := Int.le_trans jk3 (vX_ge (sgU2 P) (sgL2 P) a3).1
          have yf8 : iv (-1) 255 f8 := vq_lk xf8 (vC_by2 hby _)
          refine lv_bipush (v := 124) X.1 X.2.1 dX12_condition_19 (by decide +kernel) ?_
          refine lv_icmp_ne (tgt := 60) X.1 X.2.1 dX12_condition_21 (by decide) (fun c10 => ?_) (fun c10 => ?_)
          · have i11 : (vE (vC (sgU2 P) (sgL2 P) (vX (sgU2 P) (sgL2 P) a3)) = (124 : Int)) = False := vq_ne c10 xf8 (by decide +kernel)
            have mi11 : (vC (sgU2 P) (sgL2 P) (vX (sgU2 P) (sgL2 P) a3) = (124 : Int)) = False := vE_ne i11 (by decide)
            refine lv_iload_n X.1 X.2.1 dX12_condition_60 rfl (lv_at hl 1 rfl) ?_
            have spr : vCon (sgU2 P) (sgL2 P) 5 (vX (sgU2 P) (sgL2 P) a) = (true, vX (sgU2 P) (sgL2 P) (vX (sgU2 P) (sgL2 P) a3)) := by rw [vX_idem]; exact xf3.trans (vL_stop (op124_no mi11))
            exact sg_zret2 X hr (sg_zn hz3_3) hlk hS hz3_3 (fun t ht hW => (Or.inl ⟨_, spr, vq_pgw pb9 (by decide), (b9).2, sg_post hb hK hC hG hS ht hW⟩)) dX12_condition_61
          · have i12 : vE (vC (sgU2 P) (sgL2 P) (vX (sgU2 P) (sgL2 P) a3)) = (124 : Int) := vq_eq c10 xf8 (by decide +kernel)
            have mi12 : vC (sgU2 P) (sgL2 P) (vX (sgU2 P) (sgL2 P) a3) = (124 : Int) := vE_eq i12 (by decide)
            refine lv_aload_n X.1 X.2.1 dX12_condition_24 rfl (lv_at hl 0 rfl) ?_
            refine lv_dup X.1 X.2.1 dX12_condition_25 rfl ?_
            refine gf_X12_10e X hK hG h0 wl_6_188 dX12_condition_26 (fun f13 hf13 => ?_)
            have xf13 : f13.toInt = (vX (sgU2 P) (sgL2 P) a3) := vq_iv hf13
            have yf13 : iv 0 240 f13 := vq_240 hl0 b9 xf13
            refine lv_iconst (v := 1) X.1 X.2.1 dX12_condition_29 (by decide +kernel) ?_
            refine lv_iadd X.1 X.2.1 dX12_condition_30 ?_
            refine lv_topi (fun f14 ef14 => ?_)
            have xf14 : f14.toInt = ((vX (sgU2 P) (sgL2 P) a3) + 1) := sg_exadd ef14 yf13 (iv_c 1 (a := 1) (b := 1) (by decide +kernel)) (by decide +kernel) xf13 (by decide +kernel)
            refine pf_X12_10E (b1 := ((vX (sgU2 P) (sgL2 P) a3) + 1)) (b2 := ((vX (sgU2 P) (sgL2 P) a3) + 1)) X hK hG hS h0 wl_6_188 (vq_of (lo := ((vX (sgU2 P) (sgL2 P) a3) + 1)) (hi := ((vX (sgU2 P) (sgL2 P) a3) + 1)) xf14 ⟨Int.le_refl _, Int.le_refl _⟩) dX12_condition_31 (fun H locs hG hS => ?_)
            have l15 := (vC_lt (b := sgU2 P) (n := sgL2 P) (a := (vX (sgU2 P) (sgL2 P) a3)) (by rw [mi12]; decide)).2
            have b16 := vq_bd1 b9 l15
            have pb16 : a + 2 ≤ ((vX (sgU2 P) (sgL2 P) a3) + 1) := vq_pg pb9 (m := 1) (Int.le_refl _) (by decide)
            refine lv_aload_n X.1 X.2.1 dX12_condition_34 rfl (lv_at hl 0 rfl) ?_
            refine lv_iconst (v := 0) X.1 X.2.1 dX12_condition_35 (by decide +kernel) ?_
            refine lv_iconst (v := 0) X.1 X.2.1 dX12_condition_36 (by decide +kernel) ?_
            refine ca_X12_part_e1_0 X hK hG hC hS hb a0 h0 0 (iv_c 0 (a := 0) (b := 0) (by decide +kernel)) 0 hl0 b16 hby wl_7_225 hl.1 (rest := []) rfl (Nat.le_of_ble_eq_true rfl) ⟨Nat.le_of_ble_eq_true rfl, Nat.le_of_ble_eq_true rfl⟩ ⟨Nat.le_of_ble_eq_true rfl, Nat.le_of_ble_eq_true rfl⟩ dX12_condition_37 (fun f17 tf17 H locs htf17 hf17 hWf17 hS => ?_)
            rcases hWf17 with ⟨av18, pv18, gav18, gbv18, hBf17⟩ | ⟨wv18, pv18, w1v18, w2v18, hBf17⟩
            · have hG := hBf17.2.2.2
              rw [htf17] at hG
              have bv18 := vq_bd2 (k := 1) b16 (by decide) gav18 gbv18
              have p2v18 : a + 3 ≤ av18 := vq_pg pb16 gav18 (by decide)
              refine lv_istore (lv' := [(4, .int f17), (0, .ref a0), (3, .int z3_3)]) X.1 X.2.1 dX12_condition_40 hl (by decide) rfl (fun ls hl => ?_)
              refine lv_iload_n X.1 X.2.1 dX12_condition_42 rfl (lv_at hl 2 rfl) ?_
              refine lv_if_ne (tgt := 51) X.1 X.2.1 dX12_condition_43 (by decide) (fun c19 => ?_) (fun c19 => ?_)
              · have i20 : (z3_3.toInt = (0 : Int)) = False := vq_ne c19 rfl (by decide +kernel)
                refine lv_iconst (v := 1) X.1 X.2.1 dX12_condition_51 (by decide +kernel) ?_
                refine lv_goto (tgt := 56) X.1 X.2.1 dX12_condition_52 (by decide) ?_
                refine lv_istore_n (lv' := [(3, .int 1), (4, .int f17), (0, .ref a0)]) X.1 X.2.1 dX12_condition_56 rfl hl (by decide) rfl (fun ls hl => ?_)
                refine lv_goto (tgt := 7) X.1 X.2.1 dX12_condition_57 (by decide) ?_
                exact ih3 H _ _ 1 (av18) (bv18).1 (bv18).2 (vq_pgw p2v18 (by decide)) hG hS (lv_sub hl [2, 0] rfl) (iv_of (iv_c 1 (a := 1) (b := 1) (by decide +kernel)) (a' := 0) (b' := 1) (by decide +kernel)) (xf3.trans (vL_step (op124_124 mi12) pv18 (vq_l2 gav18 (vX_ge (sgU2 P) (sgL2 P) av18).1) (vC_lt (b := sgU2 P) (n := sgL2 P) (by rw [mi12]; decide)).2)) (by omega)
              · have i21 : z3_3.toInt = (0 : Int) := vq_eq c19 rfl (by decide +kernel)
                refine lv_iload X.1 X.2.1 dX12_condition_46 (lv_at hl 0 rfl) ?_
                refine lv_if_eq (tgt := 55) X.1 X.2.1 dX12_condition_48 (by decide) (fun c22 => ?_) (fun c22 => ?_)
                · refine lv_iconst (v := 0) X.1 X.2.1 dX12_condition_55 (by decide +kernel) ?_
                  refine lv_istore_n (lv' := [(3, .int 0), (4, .int f17), (0, .ref a0)]) X.1 X.2.1 dX12_condition_56 rfl hl (by decide) rfl (fun ls hl => ?_)
                  refine lv_goto (tgt := 7) X.1 X.2.1 dX12_condition_57 (by decide) ?_
                  exact ih3 H _ _ 0 (av18) (bv18).1 (bv18).2 (vq_pgw p2v18 (by decide)) hG hS (lv_sub hl [2, 0] rfl) (iv_of (iv_c 0 (a := 0) (b := 0) (by decide +kernel)) (a' := 0) (b' := 1) (by decide +kernel)) (xf3.trans (vL_step (op124_124 mi12) pv18 (vq_l2 gav18 (vX_ge (sgU2 P) (sgL2 P) av18).1) (vC_lt (b := sgU2 P) (n := sgL2 P) (by rw [mi12]; decide)).2)) (by omega)
                · refine lv_iconst (v := 1) X.1 X.2.1 dX12_condition_51 (by decide +kernel) ?_
                  refine lv_goto (tgt := 56) X.1 X.2.1 dX12_condition_52 (by decide) ?_
                  refine lv_istore_n (lv' := [(3, .int 1), (4, .int f17), (0, .ref a0)]) X.1 X.2.1 dX12_condition_56 rfl hl (by decide) rfl (fun ls hl => ?_)
                  refine lv_goto (tgt := 7) X.1 X.2.1 dX12_condition_57 (by decide) ?_
                  exact ih3 H _ _ 1 (av18) (bv18).1 (bv18).2 (vq_pgw p2v18 (by decide)) hG hS (lv_sub hl [2, 0] rfl) (iv_of (iv_c 1 (a := 1) (b := 1) (by decide +kernel)) (a' := 0) (b' := 1) (by decide +kernel)) (xf3.trans (vL_step (op124_124 mi12) pv18 (vq_l2 gav18 (vX_ge (sgU2 P) (sgL2 P) av18).1) (vC_lt (b := sgU2 P) (n := sgL2 P) (by rw [mi12]; decide)).2)) (by omega)
            · have hG := hBf17.2.2.2
              rw [htf17] at hG
              refine lv_istore (lv' := [(4, .int f17), (0, .ref a0), (3, .int z3_3)]) X.1 X.2.1 dX12_condition_40 hl (by decide) rfl (fun ls hl => ?_)
              refine lv_iload_n X.1 X.2.1 dX12_condition_42 rfl (lv_at hl 2 rfl) ?_
              refine lv_if_ne (tgt := 51) X.1 X.2.1 dX12_condition_43 (by decide) (fun c23 => ?_) (fun c23 => ?_)
              · have i24 : (z3_3.toInt = (0 : Int)) = False := vq_ne c23 rfl (by decide +kernel)
                refine lv_iconst (v := 1) X.1 X.2.1 dX12_condition_51 (by decide +kernel) ?_
                refine lv_goto (tgt := 56) X.1 X.2.1 dX12_condition_52 (by decide) ?_
                refine lv_istore_n (lv' := [(3, .int 1), (4, .int f17), (0, .ref a0)]) X.1 X.2.1 dX12_condition_56 rfl hl (by decide) rfl (fun ls hl => ?_)
                refine lv_goto (tgt := 7) X.1 X.2.1 dX12_condition_57 (by decide) ?_
                refine lv_aload_n X.1 X.2.1 dX12_condition_7 rfl (lv_at hl 2 rfl) ?_
                refine gf_X12_11e X hK hG h0 wl_6_189 dX12_condition_8 (fun f26 hf26 => ?_)
                have xf26 : f26.toInt = wv18 := vq_iv hf26
                have yf26 : iv 0 240 f26 := vq_of xf26 (And.intro w1v18 w2v18)
                refine lv_iconst (v := (-1)) X.1 X.2.1 dX12_condition_11 (by decide +kernel) ?_
                refine lv_icmp_ne (tgt := 60) X.1 X.2.1 dX12_condition_12 (by decide) (fun c27 => ?_) (fun c27 => ?_)
                · have i28 : (wv18 = ((-1) : Int)) = False := vq_ne c27 xf26 (by decide +kernel)
                  refine lv_iload_n X.1 X.2.1 dX12_condition_60 rfl (lv_at hl 0 rfl) ?_
                  have spr : vCon (sgU2 P) (sgL2 P) 5 (vX (sgU2 P) (sgL2 P) a) = (false, wv18) := by exact xf3.trans (vL_bad (op124_124 mi12) pv18)
                  have hG := ke_weak (b1 := 0) (b2 := 241) (g1 := wv18) (g2 := wv18) (e1 := 1) (e2 := 6) hG (Int.le_refl _) (Int.le_refl _) (Int.le_refl _) (Int.le_refl _) (by decide) (by decide)
                  exact sg_zret2 X hr (sg_zn (iv_of (iv_c 1 (a := 1) (b := 1) (by decide +kernel)) (a' := 0) (b' := 1) (by decide +kernel))) hlk hS (iv_of (iv_c 1 (a := 1) (b := 1) (by decide +kernel)) (a' := 0) (b' := 1) (by decide +kernel)) (fun t ht hW => (Or.inr ⟨_, spr, ((And.intro w1v18 w2v18)).1, ((And.intro w1v18 w2v18)).2, sg_post hb hK hC hG hS ht hW⟩)) dX12_condition_61
                · have i29 : wv18 = ((-1) : Int) := vq_eq c27 xf26 (by decide +kernel)
                  exact ((iv_no (a := 0) (b := (-1)) (iv_eqm c27 yf26 (iv_c (-1) (a := (-1)) (b := (-1)) (by decide +kernel)) (by decide +kernel)) (by decide +kernel))).elim
              · have i25 : z3_3.toInt = (0 : Int) := vq_eq c23 rfl (by decide +kernel)
                refine lv_iload X.1 X.2.1 dX12_condition_46 (lv_at hl 0 rfl) ?_
                refine lv_if_eq (tgt := 55) X.1 X.2.1 dX12_condition_48 (by decide) (fun c30 => ?_) (fun c30 => ?_)
                · refine lv_iconst (v := 0) X.1 X.2.1 dX12_condition_55 (by decide +kernel) ?_
                  refine lv_istore_n (lv' := [(3, .int 0), (4, .int f17), (0, .ref a0)]) X.1 X.2.1 dX12_condition_56 rfl hl (by decide) rfl (fun ls hl => ?_)
                  refine lv_goto (tgt := 7) X.1 X.2.1 dX12_condition_57 (by decide) ?_
                  refine lv_aload_n X.1 X.2.1 dX12_condition_7 rfl (lv_at hl 2 rfl) ?_
                  refine gf_X12_11e X hK hG h0 wl_6_189 dX12_condition_8 (fun f31 hf31 => ?_)
                  have xf31 : f31.toInt = wv18 := vq_iv hf31
                  have yf31 : iv 0 240 f31 := vq_of xf31 (And.intro w1v18 w2v18)
                  refine lv_iconst (v := (-1)) X.1 X.2.1 dX12_condition_11 (by decide +kernel) ?_
                  refine lv_icmp_ne (tgt := 60) X.1 X.2.1 dX12_condition_12 (by decide) (fun c32 => ?_) (fun c32 => ?_)
                  · have i33 : (wv18 = ((-1) : Int)) = False := vq_ne c32 xf31 (by decide +kernel)
                    refine lv_iload_n X.1 X.2.1 dX12_condition_60 rfl (lv_at hl 0 rfl) ?_
                    have spr : vCon (sgU2 P) (sgL2 P) 5 (vX (sgU2 P) (sgL2 P) a) = (false, wv18) := by exact xf3.trans (vL_bad (op124_124 mi12) pv18)
                    have hG := ke_weak (b1 := 0) (b2 := 241) (g1 := wv18) (g2 := wv18) (e1 := 1) (e2 := 6) hG (Int.le_refl _) (Int.le_refl _) (Int.le_refl _) (Int.le_refl _) (by decide) (by decide)
                    exact sg_zret2 X hr (sg_zn (iv_of (iv_c 0 (a := 0) (b := 0) (by decide +kernel)) (a' := 0) (b' := 1) (by decide +kernel))) hlk hS (iv_of (iv_c 0 (a := 0) (b := 0) (by decide +kernel)) (a' := 0) (b' := 1) (by decide +kernel)) (fun t ht hW => (Or.inr ⟨_, spr, ((And.intro w1v18 w2v18)).1, ((And.intro w1v18 w2v18)).2, sg_post hb hK hC hG hS ht hW⟩)) dX12_condition_61
                  · have i34 : wv18 = ((-1) : Int) := vq_eq c32 xf31 (by decide +kernel)
                    exact ((iv_no (a := 0) (b := (-1)) (iv_eqm c32 yf31 (iv_c (-1) (a := (-1)) (b := (-1)) (by decide +kernel)) (by decide +kernel)) (by decide +kernel))).elim
                · refine lv_iconst (v := 1) X.1 X.2.1 dX12_condition_51 (by decide +kernel) ?_
                  refine lv_goto (tgt := 56) X.1 X.2.1 dX12_condition_52 (by decide) ?_
                  refine lv_istore_n (lv' := [(3, .int 1), (4, .int f17), (0, .ref a0)]) X.1 X.2.1 dX12_condition_56 rfl hl (by decide) rfl (fun ls hl => ?_)
                  refine lv_goto (tgt := 7) X.1 X.2.1 dX12_condition_57 (by decide) ?_
                  refine lv_aload_n X.1 X.2.1 dX12_condition_7 rfl (lv_at hl 2 rfl) ?_
                  refine gf_X12_11e X hK hG h0 wl_6_189 dX12_condition_8 (fun f35 hf35 => ?_)
                  have xf35 : f35.toInt = wv18 := vq_iv hf35
                  have yf35 : iv 0 240 f35 := vq_of xf35 (And.intro w1v18 w2v18)
                  refine lv_iconst (v := (-1)) X.1 X.2.1 dX12_condition_11 (by decide +kernel) ?_
                  refine lv_icmp_ne (tgt := 60) X.1 X.2.1 dX12_condition_12 (by decide) (fun c36 => ?_) (fun c36 => ?_)
                  · have i37 : (wv18 = ((-1) : Int)) = False := vq_ne c36 xf35 (by decide +kernel)
                    refine lv_iload_n X.1 X.2.1 dX12_condition_60 rfl (lv_at hl 0 rfl) ?_
                    have spr : vCon (sgU2 P) (sgL2 P) 5 (vX (sgU2 P) (sgL2 P) a) = (false, wv18) := by exact xf3.trans (vL_bad (op124_124 mi12) pv18)
                    have hG := ke_weak (b1 := 0) (b2 := 241) (g1 := wv18) (g2 := wv18) (e1 := 1) (e2 := 6) hG (Int.le_refl _) (Int.le_refl _) (Int.le_refl _) (Int.le_refl _) (by decide) (by decide)
                    exact sg_zret2 X hr (sg_zn (iv_of (iv_c 1 (a := 1) (b := 1) (by decide +kernel)) (a' := 0) (b' := 1) (by decide +kernel))) hlk hS (iv_of (iv_c 1 (a := 1) (b := 1) (by decide +kernel)) (a' := 0) (b' := 1) (by decide +kernel)) (fun t ht hW => (Or.inr ⟨_, spr, ((And.intro w1v18 w2v18)).1, ((And.intro w1v18 w2v18)).2, sg_post hb hK hC hG hS ht hW⟩)) dX12_condition_61
                  · have i38 : wv18 = ((-1) : Int) := vq_eq c36 xf35 (by decide +kernel)
                    exact ((iv_no (a := 0) (b := (-1)) (iv_eqm c36 yf35 (iv_c (-1) (a := (-1)) (b := (-1)) (by decide +kernel)) (by decide +kernel)) (by decide +kernel))).elim
    exact B3_7 _ H _ _ f1 (av2) (bv2).1 (bv2).2 (vq_pgw p2v2 (by decide)) hG hS (lv_sub hl [1, 0] rfl) hf1 (by rw [vCon_eq]; simp only [pv2, cond_true, cond_false, vB_t, vB_f, if_true, if_false, eq_self, not_true_eq_false, not_false_eq_true, Int.reduceEq, Int.reduceLT, or_false, false_or, or_true, true_or]) (Nat.le_refl _)
  · have hG := hBf1.2.2.2
    rw [htf1] at hG
    refine lv_istore_n (lv' := [(3, .int f1), (0, .ref a0), (1, .int x1), (2, .int x2)]) X.1 X.2.1 dX12_condition_6 rfl hl (by decide) rfl (fun ls hl => ?_)
    refine lv_aload_n X.1 X.2.1 dX12_condition_7 rfl (lv_at hl 1 rfl) ?_
    refine gf_X12_11e X hK hG h0 wl_6_189 dX12_condition_8 (fun f39 hf39 => ?_)
    have xf39 : f39.toInt = wv2 := vq_iv hf39
    have yf39 : iv 0 240 f39 := vq_of xf39 (And.intro w1v2 w2v2)
    refine lv_iconst (v := (-1)) X.1 X.2.1 dX12_condition_11 (by decide +kernel) ?_
    refine lv_icmp_ne (tgt := 60) X.1 X.2.1 dX12_condition_12 (by decide) (fun c40 => ?_) (fun c40 => ?_)
    · have i41 : (wv2 = ((-1) : Int)) = False := vq_ne c40 xf39 (by decide +kernel)
      refine lv_iload_n X.1 X.2.1 dX12_condition_60 rfl (lv_at hl 0 rfl) ?_
      have spr : vCon (sgU2 P) (sgL2 P) 5 (vX (sgU2 P) (sgL2 P) a) = (false, wv2) := by rw [vCon_eq]; simp only [pv2, i41, cond_true, cond_false, vB_t, vB_f, if_true, if_false, eq_self, not_true_eq_false, not_false_eq_true, Int.reduceEq, Int.reduceLT, or_false, false_or, or_true, true_or]
      have hG := ke_weak (b1 := 0) (b2 := 241) (g1 := wv2) (g2 := wv2) (e1 := 1) (e2 := 6) hG (Int.le_refl _) (Int.le_refl _) (Int.le_refl _) (Int.le_refl _) (by decide) (by decide)
      exact sg_zret2 X hr (sg_zn hf1) hlk hS hf1 (fun t ht hW => (Or.inr ⟨_, spr, ((And.intro w1v2 w2v2)).1, ((And.intro w1v2 w2v2)).2, sg_post hb hK hC hG hS ht hW⟩)) dX12_condition_61
    · have i42 : wv2 = ((-1) : Int) := vq_eq c40 xf39 (by decide +kernel)
      exact ((iv_no (a := 0) (b := (-1)) (iv_eqm c40 yf39 (iv_c (-1) (a := (-1)) (b := (-1)) (by decide +kernel)) (by decide +kernel)) (by decide +kernel))).elim

theorem ca_X12_condition_e1_0  {a : Int} {z : sgZt}  (X : CallFix p m c cc nL s args sg_tbl own) (hK : va_K D vwCl tys s) (hG : sgG (KE a a (-1) (-1) 1 1 z P) D vwCl (fun q : Nat => base ≤ q) tys ad ks H) (hC : sgC base s) (hS : va_S (fun q : Nat => base ≤ q) s.heap H locs) (hb : base ≤ s.heap.size) (a0 : Nat) (h0 : isK ad ks 12 a0) (x1 : Int32) (h1 : iv 0 0 x1) (x2 : Int32) (hl0 : 0 ≤ sgL2 P ∧ sgL2 P ≤ 240) (hav : 0 ≤ a ∧ a ≤ sgL2 P) (hby : sgBy2 P) (hl : Cond.methodLink own index yX12_condition ∈ sg_tbl) (hsize : ls.size = nL) (hst : st0 = [.int x1, .int x2].reverse ++ .ref a0 :: rest) (hW : (rest.map fun v => v.category).sum ≤ 8) (hR : 27 ≤ R.frames ∧ 628 ≤ R.locals) (hf : cells ≤ R.cells ∧ slots ≤ R.slots) (hdg : decode cc pc = .ok (.invokevirtual index, 3)) (kk : ∀ (r : Int32) (t : State) (H1 : Heap) (locs1 : List Loc), t.heap = H1 → (fun r : Int32 => iv 0 1 r) r → ((∃ a1 : Int, vCon (sgU2 P) (sgL2 P) 5 (vX (sgU2 P) (sgL2 P) a) = (true, vX (sgU2 P) (sgL2 P) a1) ∧ a + 1 ≤ a1 ∧ a1 ≤ sgL2 P ∧ sgB (KE a1 a1 (-1) (-1) 1 1 z P) D vwCl base tys ad ks t) ∨ (∃ w : Int, vCon (sgU2 P) (sgL2 P) 5 (vX (sgU2 P) (sgL2 P) a) = (false, w) ∧ 0 ≤ w ∧ w ≤ 240 ∧ sgB (KE 0 241 w w 1 6 z P) D vwCl base tys ad ks t)) → va_S (fun q : Nat => base ≤ q) s.heap H1 locs1 → W p l e R s m args below meth c H1 locs1 cells slots Q (F0 m (pc + 3) ls (.int r :: rest))) : W p l e R s m args below meth c H locs cells slots Q (F0 m pc ls st0) :=
  sg_callV2i X hK hG hC hS hb (m_X12_condition_e1_0 l a0 h0 x1 h1 x2 hl0 hav hby) h0 (k := 12) (ci := 12) rfl (C := RX12) (T := TX12) (N := 53) rfl wl_7_224 wl_1_13 wl_7_223 wl_0_61 (n := 2) (by decide +kernel) rfl rfl rfl hl hsize hst hW hR hf hdg kk

set_option maxHeartbeats 8000000 in
set_option maxRecDepth 100000 in
theorem m_X12_condition_e1_1 (l : Launch) {D : va_G} {base : Nat} {tys : List (ClassId × FieldType)} {ad ks : List Nat} {P : sgPm}{a : Int} {z : sgZt}  (a0 : Nat) (h0 : isK ad ks 12 a0) (x1 : Int32) (h1 : iv 1 1 x1) (x2 : Int32) (hl0 : 0 ≤ sgL2 P ∧ sgL2 P ≤ 240) (hav : 0 ≤ a ∧ a ≤ sgL2 P) (hby : sgBy2 P) : Met l yX12_condition (Cond.code yX12_condition cX12_condition 5 (some .boolean) :: sg_tbl) ({ frames := 26, cells := 0, slots := 0, locals := 604 }) (va_Pc [.ref a0, .int x1, .int x2] (sgB (KE a a (-1) (-1) 1 1 z P) D vwCl base tys ad ks)) (va_Qi (fun r (u : Int32) => u = r ∧ (fun r : Int32 => iv 0 1 r) r) (fun u t => (∃ a1 : Int, vB (vCmp (sgU2 P) (sgL2 P) 5 (vX (sgU2 P) (sgL2 P) a)) (vL (vUn (sgU2 P) (sgL2 P) 5) opC (sgU2 P) (sgL2 P)) = (true, vX (sgU2 P) (sgL2 P) a1) ∧ a + 1 ≤ a1 ∧ a1 ≤ sgL2 P ∧ sgB (KE a1 a1 (-1) (-1) 1 1 z P) D vwCl base tys ad ks t) ∨ (∃ w : Int, vB (vCmp (sgU2 P) (sgL2 P) 5 (vX (sgU2 P) (sgL2 P) a)) (vL (vUn (sgU2 P) (sgL2 P) 5) opC (sgU2 P) (sgL2 P)) = (false, w) ∧ 0 ≤ w ∧ w ≤ 240 ∧ sgB (KE 0 241 w w 1 6 z P) D vwCl base tys ad ks t)) (fun q : Nat => base ≤ q)) 0 0 (fun q : Nat => base ≤ q) := by
  refine sg_ofW (by decide +kernel) (Nat.le_of_ble_eq_true rfl) (fun p e s m below meth c X hr hlk hb hK hC hG ls hl => ?_)
  have hS : va_S (fun q : Nat => base ≤ q) s.heap s.heap [] := va_S.rf
  have hl : lv_has ls 5 [(0, .ref a0), (1, .int x1), (2, .int x2)] := hl
  refine lv_aload_n X.1 X.2.1 dX12_condition_0 rfl (lv_at hl 0 rfl) ?_
  refine lv_iload_n X.1 X.2.1 dX12_condition_1 rfl (lv_at hl 1 rfl) ?_
  refine lv_iload_n X.1 X.2.1 dX12_condition_2 rfl (lv_at hl 2 rfl) ?_
  refine ca_X12_part_e1_1 X hK hG hC hS hb a0 h0 x1 h1 x2 hl0 hav hby wl_7_225 hl.1 (rest := []) rfl (Nat.le_of_ble_eq_true rfl) ⟨Nat.le_of_ble_eq_true rfl, Nat.le_of_ble_eq_true rfl⟩ ⟨Nat.le_of_ble_eq_true rfl, Nat.le_of_ble_eq_true rfl⟩ dX12_condition_3 (fun f1 tf1 H locs htf1 hf1 hWf1 hS => ?_)
  rcases hWf1 with ⟨av2, pv2, gav2, gbv2, hBf1⟩ | ⟨wv2, pv2, w1v2, w2v2, hBf1⟩
  · have hG := hBf1.2.2.2
    rw [htf1] at hG
    have bv2 := vq_bd2 (k := 1) hav (by decide) gav2 gbv2
    have p2v2 : a + 1 ≤ av2 := vq_pg (vq_pg0 a) gav2 (by decide)
    refine lv_istore_n (lv' := [(3, .int f1), (0, .ref a0), (1, .int x1), (2, .int x2)]) X.1 X.2.1 dX12_condition_6 rfl hl (by decide) rfl (fun ls hl => ?_)
    have B3_7 : ∀ (N : Nat) (H : Heap) (locs : List Loc) (ls : Array Slot) (z3_3 : Int32) (a3 : Int), 0 ≤ a3 → a3 ≤ sgL2 P → a + 1 ≤ a3 → sgG (KE a3 a3 (-1) (-1) 1 1 z P) D vwCl (fun q : Nat => base ≤ q) tys ad ks H → va_S (fun q : Nat => base ≤ q) s.heap H locs → lv_has ls 5 [(0, .ref a0), (3, .int z3_3)] → iv 0 1 z3_3 → vB (vCmp (sgU2 P) (sgL2 P) 5 (vX (sgU2 P) (sgL2 P) a)) (vL (vUn (sgU2 P) (sgL2 P) 5) opC (sgU2 P) (sgL2 P)) = vL (vPa (sgU2 P) (sgL2 P) 5) op124 (sgU2 P) (sgL2 P) (vX (sgU2 P) (sgL2 P) a3) → (242 - a3).toNat ≤ N → W p l e (headSpec (Cond.code yX12_condition cX12_condition 5 (some .boolean) :: sg_tbl) ({ frames := 26, cells := 0, slots := 0, locals := 604 })).room s m #[.ref a0, .int x1, .int x2] below meth c H locs 0 0 (MQ below (va_Qi (fun r (u : Int32) => u = r ∧ (fun r : Int32 => iv 0 1 r) r) (fun u t => (∃ a1 : Int, vB (vCmp (sgU2 P) (sgL2 P) 5 (vX (sgU2 P) (sgL2 P) a)) (vL (vUn (sgU2 P) (sgL2 P) 5) opC (sgU2 P) (sgL2 P)) = (true, vX (sgU2 P) (sgL2 P) a1) ∧ a + 1 ≤ a1 ∧ a1 ≤ sgL2 P ∧ sgB (KE a1 a1 (-1) (-1) 1 1 z P) D vwCl base tys ad ks t) ∨ (∃ w : Int, vB (vCmp (sgU2 P) (sgL2 P) 5 (vX (sgU2 P) (sgL2 P) a)) (vL (vUn (sgU2 P) (sgL2 P) 5) opC (sgU2 P) (sgL2 P)) = (false, w) ∧ 0 ≤ w ∧ w ≤ 240 ∧ sgB (KE 0 241 w w 1 6 z P) D vwCl base tys ad ks t)) (fun q : Nat => base ≤ q)) #[.ref a0, .int x1, .int x2] s 0 0 (fun q : Nat => base ≤ q)) (F0 m 7 ls []) := by
      intro N; induction N with
      | zero =>
        intro H locs ls z3_3 a3 jl3 jm3 jk3 hG hS hl hz3_3 xf3 hN
        exact absurd hN (by have := jm3; omega)
      | succ N ih3 =>
        intro H locs ls z3_3 a3 jl3 jm3 jk3 hG hS hl hz3_3 xf3 hN3
        refine lv_aload_n X.1 X.2.1 dX12_condition_7 rfl (lv_at hl 0 rfl) ?_
        refine gf_X12_11e X hK hG h0 wl_6_189 dX12_condition_8 (fun f4 hf4 => ?_)
        refine lv_iconst (v := (-1)) X.1 X.2.1 dX12_condition_11 (by decide +kernel) ?_
        refine lv_icmp_ne (tgt := 60) X.1 X.2.1 dX12_condition_12 (by decide) (fun c5 => ?_) (fun c5 => ?_)
        · have i6 : (((-1) : Int) = ((-1) : Int)) = False := vq_ne c5 (vq_iv hf4) (by decide +kernel)
          exact ((c5 (iv_one hf4 (iv_c (-1) (a := (-1)) (b := (-1)) (by decide +kernel)) (by decide +kernel)))).elim
        · have i7 : ((-1) : Int) = ((-1) : Int) := vq_eq c5 (vq_iv hf4) (by decide +kernel)
          refine lv_aload_n X.1 X.2.1 dX12_condition_15 rfl (lv_at hl 0 rfl) ?_
          refine ca_X12_look_e X hK hG hC hS hb a0 h0 hl0 (And.intro jl3 jm3) hby wl_7_137 hl.1 (rest := []) rfl (Nat.le_of_ble_eq_true rfl) ⟨Nat.le_of_ble_eq_true rfl, Nat.le_of_ble_eq_true rfl⟩ ⟨Nat.le_of_ble_eq_true rfl, Nat.le_of_ble_eq_true rfl⟩ dX12_condition_16 (fun f8 tf8 H locs htf8 hf8 hWf8 hS => ?_)
          have hBf8 := hWf8.2
          have xf8 := hWf8.1
          have hG := hBf8.2.2.2
          rw [htf8] at hG
          have b9 := vq_bdL (b := sgU2 P) (And.intro jl3 jm3)
          have eb9 : a3 ≤ vX (sgU2 P) (sgL2 P) a3 := (vX_ge (sgU2 P) (sgL2 P) a3).1
          have pb9 : a + 1 ≤ vX (sgU2 P) (sgL2 P) a3 := Int.le_trans jk3 (vX_ge (sgU2 P) (sgL2 P) a3).1
          have yf8 : iv (-1) 255 f8 := vq_lk xf8 (vC_by2 hby _)
          refine lv_bipush (v := 124) X.1 X.2.1 dX12_condition_19 (by decide +kernel) ?_
          refine lv_icmp_ne (tgt := 60) X.1 X.2.1 dX12_condition_21 (by decide) (fun c10 => ?_) (fun c10 => ?_)
          · have i11 : (vE (vC (sgU2 P) (sgL2 P) (vX (sgU2 P) (sgL2 P) a3)) = (124 : Int)) = False := vq_ne c10 xf8 (by decide +kernel)
            have mi11 : (vC (sgU2 P) (sgL2 P) (vX (sgU2 P) (sgL2 P) a3) = (124 : Int)) = False := vE_ne i11 (by decide)
            refine lv_iload_n X.1 X.2.1 dX12_condition_60 rfl (lv_at hl 1 rfl) ?_
            have spr : vB (vCmp (sgU2 P) (sgL2 P) 5 (vX (sgU2 P) (sgL2 P) a)) (vL (vUn (sgU2 P) (sgL2 P) 5) opC (sgU2 P) (sgL2 P)) = (true, vX (sgU2 P) (sgL2 P) (vX (sgU2 P) (sgL2 P) a3)) := by rw [vX_idem]; exact xf3.trans (vL_stop (op124_no mi11))
            exact sg_zret2 X hr (sg_zn hz3_3) hlk hS hz3_3 (fun t ht hW => (Or.inl ⟨_, spr, vq_pgw pb9 (by decide), (b9).2, sg_post hb hK hC hG hS ht hW⟩)) dX12_condition_61
          · have i12 : vE (vC (sgU2 P) (sgL2 P) (vX (sgU2 P) (sgL2 P) a3)) = (124 : Int) := vq_eq c10 xf8 (by decide +kernel)
            have mi12 : vC (sgU2 P) (sgL2 P) (vX (sgU2 P) (sgL2 P) a3) = (124 : Int) := vE_eq i12 (by decide)
            refine lv_aload_n X.1 X.2.1 dX12_condition_24 rfl (lv_at hl 0 rfl) ?_
            refine lv_dup X.1 X.2.1 dX12_condition_25 rfl ?_
            refine gf_X12_10e X hK hG h0 wl_6_188 dX12_condition_26 (fun f13 hf13 => ?_)
            have xf13 : f13.toInt = (vX (sgU2 P) (sgL2 P) a3) := vq_iv hf13
            have yf13 : iv 0 240 f13 := vq_240 hl0 b9 xf13
            refine lv_iconst (v := 1) X.1 X.2.1 dX12_condition_29 (by decide +kernel) ?_
            refine lv_iadd X.1 X.2.1 dX12_condition_30 ?_
            refine lv_topi (fun f14 ef14 => ?_)
            have xf14 : f14.toInt = ((vX (sgU2 P) (sgL2 P) a3) + 1) := sg_exadd ef14 yf13 (iv_c 1 (a := 1) (b := 1) (by decide +kernel)) (by decide +kernel) xf13 (by decide +kernel)
            refine pf_X12_10E (b1 := ((vX (sgU2 P) (sgL2 P) a3) + 1)) (b2 := ((vX (sgU2 P) (sgL2 P) a3) + 1)) X hK hG hS h0 wl_6_188 (vq_of (lo := ((vX (sgU2 P) (sgL2 P) a3) + 1)) (hi := ((vX (sgU2 P) (sgL2 P) a3) + 1)) xf14 ⟨Int.le_refl _, Int.le_refl _⟩) dX12_condition_31 (fun H locs hG hS => ?_)
            have l15 := (vC_lt (b := sgU2 P) (n := sgL2 P) (a := (vX (sgU2 P) (sgL2 P) a3)) (by rw [mi12]; decide)).2
            have b16 := vq_bd1 b9 l15
            have pb16 : a + 2 ≤ ((vX (sgU2 P) (sgL2 P) a3) + 1) := vq_pg pb9 (m := 1) (Int.le_refl _) (by decide)
            refine lv_aload_n X.1 X.2.1 dX12_condition_34 rfl (lv_at hl 0 rfl) ?_
            refine lv_iconst (v := 0) X.1 X.2.1 dX12_condition_35 (by decide +kernel) ?_
            refine lv_iconst (v := 0) X.1 X.2.1 dX12_condition_36 (by decide +kernel) ?_
            refine ca_X12_part_e1_0 X hK hG hC hS hb a0 h0 0 (iv_c 0 (a := 0) (b := 0) (by decide +kernel)) 0 hl0 b16 hby wl_7_225 hl.1 (rest := []) rfl (Nat.le_of_ble_eq_true rfl) ⟨Nat.le_of_ble_eq_true rfl, Nat.le_of_ble_eq_true rfl⟩ ⟨Nat.le_of_ble_eq_true rfl, Nat.le_of_ble_eq_true rfl⟩ dX12_condition_37 (fun f17 tf17 H locs htf17 hf17 hWf17 hS => ?_)
            rcases hWf17 with ⟨av18, pv18, gav18, gbv18, hBf17⟩ | ⟨wv18, pv18, w1v18, w2v18, hBf17⟩
            · have hG := hBf17.2.2.2
              rw [htf17] at hG
              have bv18 := vq_bd2 (k := 1) b16 (by decide) gav18 gbv18
              have p2v18 : a + 3 ≤ av18 := vq_pg pb16 gav18 (by decide)
              refine lv_istore (lv' := [(4, .int f17), (0, .ref a0), (3, .int z3_3)]) X.1 X.2.1 dX12_condition_40 hl (by decide) rfl (fun ls hl => ?_)
              refine lv_iload_n X.1 X.2.1 dX12_condition_42 rfl (lv_at hl 2 rfl) ?_
              refine lv_if_ne (tgt := 51) X.1 X.2.1 dX12_condition_43 (by decide) (fun c19 => ?_) (fun c19 => ?_)
              · have i20 : (z3_3.toInt = (0 : Int)) = False := vq_ne c19 rfl (by decide +kernel)
                refine lv_iconst (v := 1) X.1 X.2.1 dX12_condition_51 (by decide +kernel) ?_
                refine lv_goto (tgt := 56) X.1 X.2.1 dX12_condition_52 (by decide) ?_
                refine lv_istore_n (lv' := [(3, .int 1), (4, .int f17), (0, .ref a0)]) X.1 X.2.1 dX12_condition_56 rfl hl (by decide) rfl (fun ls hl => ?_)
                refine lv_goto (tgt := 7) X.1 X.2.1 dX12_condition_57 (by decide) ?_
                exact ih3 H _ _ 1 (av18) (bv18).1 (bv18).2 (vq_pgw p2v18 (by decide)) hG hS (lv_sub hl [2, 0] rfl) (iv_of (iv_c 1 (a := 1) (b := 1) (by decide +kernel)) (a' := 0) (b' := 1) (by decide +kernel)) (xf3.trans (vL_step (op124_124 mi12) pv18 (vq_l2 gav18 (vX_ge (sgU2 P) (sgL2 P) av18).1) (vC_lt (b := sgU2 P) (n := sgL2 P) (by rw [mi12]; decide)).2)) (by omega)
              · have i21 : z3_3.toInt = (0 : Int) := vq_eq c19 rfl (by decide +kernel)
                refine lv_iload X.1 X.2.1 dX12_condition_46 (lv_at hl 0 rfl) ?_
                refine lv_if_eq (tgt := 55) X.1 X.2.1 dX12_condition_48 (by decide) (fun c22 => ?_) (fun c22 => ?_)
                · refine lv_iconst (v := 0) X.1 X.2.1 dX12_condition_55 (by decide +kernel) ?_
                  refine lv_istore_n (lv' := [(3, .int 0), (4, .int f17), (0, .ref a0)]) X.1 X.2.1 dX12_condition_56 rfl hl (by decide) rfl (fun ls hl => ?_)
                  refine lv_goto (tgt := 7) X.1 X.2.1 dX12_condition_57 (by decide) ?_
                  exact ih3 H _ _ 0 (av18) (bv18).1 (bv18).2 (vq_pgw p2v18 (by decide)) hG hS (lv_sub hl [2, 0] rfl) (iv_of (iv_c 0 (a := 0) (b := 0) (by decide +kernel)) (a' := 0) (b' := 1) (by decide +kernel)) (xf3.trans (vL_step (op124_124 mi12) pv18 (vq_l2 gav18 (vX_ge (sgU2 P) (sgL2 P) av18).1) (vC_lt (b := sgU2 P) (n := sgL2 P) (by rw [mi12]; decide)).2)) (by omega)
                · refine lv_iconst (v := 1) X.1 X.2.1 dX12_condition_51 (by decide +kernel) ?_
                  refine lv_goto (tgt := 56) X.1 X.2.1 dX12_condition_52 (by decide) ?_
                  refine lv_istore_n (lv' := [(3, .int 1), (4, .int f17), (0, .ref a0)]) X.1 X.2.1 dX12_condition_56 rfl hl (by decide) rfl (fun ls hl => ?_)
                  refine lv_goto (tgt := 7) X.1 X.2.1 dX12_condition_57 (by decide) ?_
                  exact ih3 H _ _ 1 (av18) (bv18).1 (bv18).2 (vq_pgw p2v18 (by decide)) hG hS (lv_sub hl [2, 0] rfl) (iv_of (iv_c 1 (a := 1) (b := 1) (by decide +kernel)) (a' := 0) (b' := 1) (by decide +kernel)) (xf3.trans (vL_step (op124_124 mi12) pv18 (vq_l2 gav18 (vX_ge (sgU2 P) (sgL2 P) av18).1) (vC_lt (b := sgU2 P) (n := sgL2 P) (by rw [mi12]; decide)).2)) (by omega)
            · have hG := hBf17.2.2.2
              rw [htf17] at hG
              refine lv_istore (lv' := [(4, .int f17), (0, .ref a0), (3, .int z3_3)]) X.1 X.2.1 dX12_condition_40 hl (by decide) rfl (fun ls hl => ?_)
              refine lv_iload_n X.1 X.2.1 dX12_condition_42 rfl (lv_at hl 2 rfl) ?_
              refine lv_if_ne (tgt := 51) X.1 X.2.1 dX12_condition_43 (by decide) (fun c23 => ?_) (fun c23 => ?_)
              · have i24 : (z3_3.toInt = (0 : Int)) = False := vq_ne c23 rfl (by decide +kernel)
                refine lv_iconst (v := 1) X.1 X.2.1 dX12_condition_51 (by decide +kernel) ?_
                refine lv_goto (tgt := 56) X.1 X.2.1 dX12_condition_52 (by decide) ?_
                refine lv_istore_n (lv' := [(3, .int 1), (4, .int f17), (0, .ref a0)]) X.1 X.2.1 dX12_condition_56 rfl hl (by decide) rfl (fun ls hl => ?_)
                refine lv_goto (tgt := 7) X.1 X.2.1 dX12_condition_57 (by decide) ?_
                refine lv_aload_n X.1 X.2.1 dX12_condition_7 rfl (lv_at hl 2 rfl) ?_
                refine gf_X12_11e X hK hG h0 wl_6_189 dX12_condition_8 (fun f26 hf26 => ?_)
                have xf26 : f26.toInt = wv18 := vq_iv hf26
                have yf26 : iv 0 240 f26 := vq_of xf26 (And.intro w1v18 w2v18)
                refine lv_iconst (v := (-1)) X.1 X.2.1 dX12_condition_11 (by decide +kernel) ?_
                refine lv_icmp_ne (tgt := 60) X.1 X.2.1 dX12_condition_12 (by decide) (fun c27 => ?_) (fun c27 => ?_)
                · have i28 : (wv18 = ((-1) : Int)) = False := vq_ne c27 xf26 (by decide +kernel)
                  refine lv_iload_n X.1 X.2.1 dX12_condition_60 rfl (lv_at hl 0 rfl) ?_
                  have spr : vB (vCmp (sgU2 P) (sgL2 P) 5 (vX (sgU2 P) (sgL2 P) a)) (vL (vUn (sgU2 P) (sgL2 P) 5) opC (sgU2 P) (sgL2 P)) = (false, wv18) := by exact xf3.trans (vL_bad (op124_124 mi12) pv18)
                  have hG := ke_weak (b1 := 0) (b2 := 241) (g1 := wv18) (g2 := wv18) (e1 := 1) (e2 := 6) hG (Int.le_refl _) (Int.le_refl _) (Int.le_refl _) (Int.le_refl _) (by decide) (by decide)
                  exact sg_zret2 X hr (sg_zn (iv_of (iv_c 1 (a := 1) (b := 1) (by decide +kernel)) (a' := 0) (b' := 1) (by decide +kernel))) hlk hS (iv_of (iv_c 1 (a := 1) (b := 1) (by decide +kernel)) (a' := 0) (b' := 1) (by decide +kernel)) (fun t ht hW => (Or.inr ⟨_, spr, ((And.intro w1v18 w2v18)).1, ((And.intro w1v18 w2v18)).2, sg_post hb hK hC hG hS ht hW⟩)) dX12_condition_61
                · have i29 : wv18 = ((-1) : Int) := vq_eq c27 xf26 (by decide +kernel)
                  exact ((iv_no (a := 0) (b := (-1)) (iv_eqm c27 yf26 (iv_c (-1) (a := (-1)) (b := (-1)) (by decide +kernel)) (by decide +kernel)) (by decide +kernel))).elim
              · have i25 : z3_3.toInt = (0 : Int) := vq_eq c23 rfl (by decide +kernel)
                refine lv_iload X.1 X.2.1 dX12_condition_46 (lv_at hl 0 rfl) ?_
                refine lv_if_eq (tgt := 55) X.1 X.2.1 dX12_condition_48 (by decide) (fun c30 => ?_) (fun c30 => ?_)
                · refine lv_iconst (v := 0) X.1 X.2.1 dX12_condition_55 (by decide +kernel) ?_
                  refine lv_istore_n (lv' := [(3, .int 0), (4, .int f17), (0, .ref a0)]) X.1 X.2.1 dX12_condition_56 rfl hl (by decide) rfl (fun ls hl => ?_)
                  refine lv_goto (tgt := 7) X.1 X.2.1 dX12_condition_57 (by decide) ?_
                  refine lv_aload_n X.1 X.2.1 dX12_condition_7 rfl (lv_at hl 2 rfl) ?_
                  refine gf_X12_11e X hK hG h0 wl_6_189 dX12_condition_8 (fun f31 hf31 => ?_)
                  have xf31 : f31.toInt = wv18 := vq_iv hf31
                  have yf31 : iv 0 240 f31 := vq_of xf31 (And.intro w1v18 w2v18)
                  refine lv_iconst (v := (-1)) X.1 X.2.1 dX12_condition_11 (by decide +kernel) ?_
                  refine lv_icmp_ne (tgt := 60) X.1 X.2.1 dX12_condition_12 (by decide) (fun c32 => ?_) (fun c32 => ?_)
                  · have i33 : (wv18 = ((-1) : Int)) = False := vq_ne c32 xf31 (by decide +kernel)
                    refine lv_iload_n X.1 X.2.1 dX12_condition_60 rfl (lv_at hl 0 rfl) ?_
                    have spr : vB (vCmp (sgU2 P) (sgL2 P) 5 (vX (sgU2 P) (sgL2 P) a)) (vL (vUn (sgU2 P) (sgL2 P) 5) opC (sgU2 P) (sgL2 P)) = (false, wv18) := by exact xf3.trans (vL_bad (op124_124 mi12) pv18)
                    have hG := ke_weak (b1 := 0) (b2 := 241) (g1 := wv18) (g2 := wv18) (e1 := 1) (e2 := 6) hG (Int.le_refl _) (Int.le_refl _) (Int.le_refl _) (Int.le_refl _) (by decide) (by decide)
                    exact sg_zret2 X hr (sg_zn (iv_of (iv_c 0 (a := 0) (b := 0) (by decide +kernel)) (a' := 0) (b' := 1) (by decide +kernel))) hlk hS (iv_of (iv_c 0 (a := 0) (b := 0) (by decide +kernel)) (a' := 0) (b' := 1) (by decide +kernel)) (fun t ht hW => (Or.inr ⟨_, spr, ((And.intro w1v18 w2v18)).1, ((And.intro w1v18 w2v18)).2, sg_post hb hK hC hG hS ht hW⟩)) dX12_condition_61
                  · have i34 : wv18 = ((-1) : Int) := vq_eq c32 xf31 (by decide +kernel)
                    exact ((iv_no (a := 0) (b := (-1)) (iv_eqm c32 yf31 (iv_c (-1) (a := (-1)) (b := (-1)) (by decide +kernel)) (by decide +kernel)) (by decide +kernel))).elim
                · refine lv_iconst (v := 1) X.1 X.2.1 dX12_condition_51 (by decide +kernel) ?_
                  refine lv_goto (tgt := 56) X.1 X.2.1 dX12_condition_52 (by decide) ?_
                  refine lv_istore_n (lv' := [(3, .int 1), (4, .int f17), (0, .ref a0)]) X.1 X.2.1 dX12_condition_56 rfl hl (by decide) rfl (fun ls hl => ?_)
                  refine lv_goto (tgt := 7) X.1 X.2.1 dX12_condition_57 (by decide) ?_
                  refine lv_aload_n X.1 X.2.1 dX12_condition_7 rfl (lv_at hl 2 rfl) ?_
                  refine gf_X12_11e X hK hG h0 wl_6_189 dX12_condition_8 (fun f35 hf35 => ?_)
                  have xf35 : f35.toInt = wv18 := vq_iv hf35
                  have yf35 : iv 0 240 f35 := vq_of xf35 (And.intro w1v18 w2v18)
                  refine lv_iconst (v := (-1)) X.1 X.2.1 dX12_condition_11 (by decide +kernel) ?_
                  refine lv_icmp_ne (tgt := 60) X.1 X.2.1 dX12_condition_12 (by decide) (fun c36 => ?_) (fun c36 => ?_)
                  · have i37 : (wv18 = ((-1) : Int)) = False := vq_ne c36 xf35 (by decide +kernel)
                    refine lv_iload_n X.1 X.2.1 dX12_condition_60 rfl (lv_at hl 0 rfl) ?_
                    have spr : vB (vCmp (sgU2 P) (sgL2 P) 5 (vX (sgU2 P) (sgL2 P) a)) (vL (vUn (sgU2 P) (sgL2 P) 5) opC (sgU2 P) (sgL2 P)) = (false, wv18) := by exact xf3.trans (vL_bad (op124_124 mi12) pv18)
                    have hG := ke_weak (b1 := 0) (b2 := 241) (g1 := wv18) (g2 := wv18) (e1 := 1) (e2 := 6) hG (Int.le_refl _) (Int.le_refl _) (Int.le_refl _) (Int.le_refl _) (by decide) (by decide)
                    exact sg_zret2 X hr (sg_zn (iv_of (iv_c 1 (a := 1) (b := 1) (by decide +kernel)) (a' := 0) (b' := 1) (by decide +kernel))) hlk hS (iv_of (iv_c 1 (a := 1) (b := 1) (by decide +kernel)) (a' := 0) (b' := 1) (by decide +kernel)) (fun t ht hW => (Or.inr ⟨_, spr, ((And.intro w1v18 w2v18)).1, ((And.intro w1v18 w2v18)).2, sg_post hb hK hC hG hS ht hW⟩)) dX12_condition_61
                  · have i38 : wv18 = ((-1) : Int) := vq_eq c36 xf35 (by decide +kernel)
                    exact ((iv_no (a := 0) (b := (-1)) (iv_eqm c36 yf35 (iv_c (-1) (a := (-1)) (b := (-1)) (by decide +kernel)) (by decide +kernel)) (by decide +kernel))).elim
    exact B3_7 _ H _ _ f1 (av2) (bv2).1 (bv2).2 (vq_pgw p2v2 (by decide)) hG hS (lv_sub hl [1, 0] rfl) hf1 (by rw [vCo1_eq]; simp only [pv2, cond_true, cond_false, vB_t, vB_f, if_true, if_false, eq_self, not_true_eq_false, not_false_eq_true, Int.reduceEq, Int.reduceLT, or_false, false_or, or_true, true_or]) (Nat.le_refl _)
  · have hG := hBf1.2.2.2
    rw [htf1] at hG
    refine lv_istore_n (lv' := [(3, .int f1), (0, .ref a0), (1, .int x1), (2, .int x2)]) X.1 X.2.1 dX12_condition_6 rfl hl (by decide) rfl (fun ls hl => ?_)
    refine lv_aload_n X.1 X.2.1 dX12_condition_7 rfl (lv_at hl 1 rfl) ?_
    refine gf_X12_11e X hK hG h0 wl_6_189 dX12_condition_8 (fun f39 hf39 => ?_)
    have xf39 : f39.toInt = wv2 := vq_iv hf39
    have yf39 : iv 0 240 f39 := vq_of xf39 (And.intro w1v2 w2v2)
    refine lv_iconst (v := (-1)) X.1 X.2.1 dX12_condition_11 (by decide +kernel) ?_
    refine lv_icmp_ne (tgt := 60) X.1 X.2.1 dX12_condition_12 (by decide) (fun c40 => ?_) (fun c40 => ?_)
    · have i41 : (wv2 = ((-1) : Int)) = False := vq_ne c40 xf39 (by decide +kernel)
      refine lv_iload_n X.1 X.2.1 dX12_condition_60 rfl (lv_at hl 0 rfl) ?_
      have spr : vB (vCmp (sgU2 P) (sgL2 P) 5 (vX (sgU2 P) (sgL2 P) a)) (vL (vUn (sgU2 P) (sgL2 P) 5) opC (sgU2 P) (sgL2 P)) = (false, wv2) := by rw [vCo1_eq]; simp only [pv2, i41, cond_true, cond_false, vB_t, vB_f, if_true, if_false, eq_self, not_true_eq_false, not_false_eq_true, Int.reduceEq, Int.reduceLT, or_false, false_or, or_true, true_or]
      have hG := ke_weak (b1 := 0) (b2 := 241) (g1 := wv2) (g2 := wv2) (e1 := 1) (e2 := 6) hG (Int.le_refl _) (Int.le_refl _) (Int.le_refl _) (Int.le_refl _) (by decide) (by decide)
      exact sg_zret2 X hr (sg_zn hf1) hlk hS hf1 (fun t ht hW => (Or.inr ⟨_, spr, ((And.intro w1v2 w2v2)).1, ((And.intro w1v2 w2v2)).2, sg_post hb hK hC hG hS ht hW⟩)) dX12_condition_61
    · have i42 : wv2 = ((-1) : Int) := vq_eq c40 xf39 (by decide +kernel)
      exact ((iv_no (a := 0) (b := (-1)) (iv_eqm c40 yf39 (iv_c (-1) (a := (-1)) (b := (-1)) (by decide +kernel)) (by decide +kernel)) (by decide +kernel))).elim

theorem ca_X12_condition_e1_1  {a : Int} {z : sgZt}  (X : CallFix p m c cc nL s args sg_tbl own) (hK : va_K D vwCl tys s) (hG : sgG (KE a a (-1) (-1) 1 1 z P) D vwCl (fun q : Nat => base ≤ q) tys ad ks H) (hC : sgC base s) (hS : va_S (fun q : Nat => base ≤ q) s.heap H locs) (hb : base ≤ s.heap.size) (a0 : Nat) (h0 : isK ad ks 12 a0) (x1 : Int32) (h1 : iv 1 1 x1) (x2 : Int32) (hl0 : 0 ≤ sgL2 P ∧ sgL2 P ≤ 240) (hav : 0 ≤ a ∧ a ≤ sgL2 P) (hby : sgBy2 P) (hl : Cond.methodLink own index yX12_condition ∈ sg_tbl) (hsize : ls.size = nL) (hst : st0 = [.int x1, .int x2].reverse ++ .ref a0 :: rest) (hW : (rest.map fun v => v.category).sum ≤ 8) (hR : 27 ≤ R.frames ∧ 628 ≤ R.locals) (hf : cells ≤ R.cells ∧ slots ≤ R.slots) (hdg : decode cc pc = .ok (.invokevirtual index, 3)) (kk : ∀ (r : Int32) (t : State) (H1 : Heap) (locs1 : List Loc), t.heap = H1 → (fun r : Int32 => iv 0 1 r) r → ((∃ a1 : Int, vB (vCmp (sgU2 P) (sgL2 P) 5 (vX (sgU2 P) (sgL2 P) a)) (vL (vUn (sgU2 P) (sgL2 P) 5) opC (sgU2 P) (sgL2 P)) = (true, vX (sgU2 P) (sgL2 P) a1) ∧ a + 1 ≤ a1 ∧ a1 ≤ sgL2 P ∧ sgB (KE a1 a1 (-1) (-1) 1 1 z P) D vwCl base tys ad ks t) ∨ (∃ w : Int, vB (vCmp (sgU2 P) (sgL2 P) 5 (vX (sgU2 P) (sgL2 P) a)) (vL (vUn (sgU2 P) (sgL2 P) 5) opC (sgU2 P) (sgL2 P)) = (false, w) ∧ 0 ≤ w ∧ w ≤ 240 ∧ sgB (KE 0 241 w w 1 6 z P) D vwCl base tys ad ks t)) → va_S (fun q : Nat => base ≤ q) s.heap H1 locs1 → W p l e R s m args below meth c H1 locs1 cells slots Q (F0 m (pc + 3) ls (.int r :: rest))) : W p l e R s m args below meth c H locs cells slots Q (F0 m pc ls st0) :=
  sg_callV2i X hK hG hC hS hb (m_X12_condition_e1_1 l a0 h0 x1 h1 x2 hl0 hav hby) h0 (k := 12) (ci := 12) rfl (C := RX12) (T := TX12) (N := 53) rfl wl_7_224 wl_1_13 wl_7_223 wl_0_61 (n := 2) (by decide +kernel) rfl rfl rfl hl hsize hst hW hR hf hdg kk
end
