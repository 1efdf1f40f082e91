
section
variable {p : Program} {l : Launch} {e : Env} {R : Room} {s : State} {m : MethodId} {args : Array Value} {below : List Frame} {meth : Method} {c : Code} {H : Heap} {locs : List Loc} {cells slots : Nat} {Q : State → Prop} {cc : ByteArray} {nL pc : Nat} {ls : Array Slot} {rest : List Value} {own : String} {D : va_G} {A : Nat → Prop} {tys : List (ClassId × FieldType)} {ad ks : List Nat} {P : sgPm} {H0 : Heap} {index : Nat} {base : Nat} {st0 : List Value} {a : Nat}

set_option maxHeartbeats 8000000 in
set_option maxRecDepth 100000 in
theorem m_X6_readAtom_v2 (l : Launch) {D : va_G} {base : Nat} {tys : List (ClassId × FieldType)} {ad ks : List Nat} {P : sgPm}{a w1 w2 : Int}  (a0 : Nat) (h0 : isK ad ks 6 a0) (a1 : Nat) (h1 : isK ad ks 10 a1) (x2 : Int32) (h2 : iv 2 2 x2) (hl0 : 0 ≤ sgL1 P ∧ sgL1 P ≤ 240) (hav : 0 ≤ a ∧ a ≤ sgL1 P) (hby : ∀ j : Nat, (↑j : Int) < sgL1 P → 1 ≤ sgT1 P j ∧ sgT1 P j ≤ 255) : Met l yX6_readAtom (Cond.code yX6_readAtom cX6_readAtom 6 (some .boolean) :: sg_tbl) ({ frames := 12, cells := 0, slots := 0, locals := 295 }) (va_Pc [.ref a0, .ref a1, .int x2] (sgB (KA a a w1 w2 P) D vwCl base tys ad ks)) (va_Qi (fun r (u : Int32) => u = r ∧ (fun r : Int32 => iv 0 1 r) r) (fun u t => (u = 1 ∧ ∃ a1 : Int, vAt (sgT1 P) (sgL1 P) 4 a = (true, a1) ∧ a + 1 ≤ a1 ∧ a1 ≤ sgL1 P ∧ sgB (KA a1 a1 w1 w2 P) D vwCl base tys ad ks t) ∨ (u = 0 ∧ ∃ w : Int, vAt (sgT1 P) (sgL1 P) 4 a = (false, w) ∧ sgB (KA 0 240 w w P) D vwCl base tys ad ks t)) (fun q : Nat => base ≤ q)) 0 0 (fun q : Nat => base ≤ q) := by
  refine sg_ofW (by decide +kernel) (Nat.le_of_ble_eq_true rfl) (fun p e s m below meth c X hr hlk hb hK hC hG ls hl => ?_)
  have hS : va_S (fun q : Nat => base ≤ q) s.heap s.heap [] := va_S.rf
  have hl : lv_has ls 6 [(0, .ref a0), (1, .ref a1), (2, .int x2)] := hl
  refine lv_aload_n X.1 X.2.1 dX6_readAtom_0 rfl (lv_at hl 1 rfl) ?_
  refine ca_X10_sign_v X hK hG hC (fun _ h => h) hS hb a1 h1 hl0 hav wl_3_219 hl.1 (rest := []) rfl (Nat.le_of_ble_eq_true rfl) ⟨Nat.le_of_ble_eq_true rfl, Nat.le_of_ble_eq_true rfl⟩ ⟨Nat.le_of_ble_eq_true rfl, Nat.le_of_ble_eq_true rfl⟩ dX6_readAtom_1 (fun f1 locs hf1 hS => ?_)
  have yf1 : iv 0 255 f1 := vq_255 hf1 hby
  refine lv_istore_n (lv' := [(3, .int f1), (0, .ref a0), (1, .ref a1), (2, .int x2)]) X.1 X.2.1 dX6_readAtom_4 rfl hl (by decide) rfl (fun ls hl => ?_)
  refine lv_iload_n X.1 X.2.1 dX6_readAtom_5 rfl (lv_at hl 0 rfl) ?_
  refine lv_bipush (v := 91) X.1 X.2.1 dX6_readAtom_6 (by decide +kernel) ?_
  refine lv_icmp_ne (tgt := 59) X.1 X.2.1 dX6_readAtom_8 (by decide) (fun c2 => ?_) (fun c2 => ?_)
  · have i3 : (vC (sgT1 P) (sgL1 P) a = (91 : Int)) = False := vq_ne c2 hf1 (by decide +kernel)
    obtain ⟨t5, vt5, pt5, rt5⟩ := hC.1.2.1
    refine va_ldcS X.1 X.2.1 X.2.2.2.1 rt5 dX6_readAtom_59 ?_
    refine lv_iload_n X.1 X.2.1 dX6_readAtom_61 rfl (lv_at hl 0 rfl) ?_
    obtain ⟨f6, ef6⟩ : ∃ y : Int32, y = ((f1 : Int32).toUInt32 % 65536).toInt32 := ⟨_, rfl⟩
    refine lv_i2c (v := f6) X.1 X.2.1 dX6_readAtom_62 ef6.symm ?_
    have zf6 : f6 = f1 := vq_i2c ef6 yf1
    have xf6 : f6.toInt = vC (sgT1 P) (sgL1 P) a := by rw [zf6]; exact hf1
    refine ca_J0_indexOf_0f7a4_v6 X hK (ka_toKT hG (hav).1 (Int.le_trans (hav).2 hl0.2)) hC (fun _ h => h) hS hb pt5 f6 (by rw [zf6]; exact yf1) (sg_htb (by decide +kernel)) wl_3_231 hl.1 (rest := []) rfl (Nat.le_of_ble_eq_true rfl) ⟨Nat.le_of_ble_eq_true rfl, Nat.le_of_ble_eq_true rfl⟩ ⟨Nat.le_of_ble_eq_true rfl, Nat.le_of_ble_eq_true rfl⟩ dX6_readAtom_63 (fun f7 locs hf7 hS => ?_)
    have xf7 : f7.toInt = vLet (vC (sgT1 P) (sgL1 P) a) := hf7.trans (by rw [xf6]; rfl)
    refine lv_istore (lv' := [(4, .int f7), (3, .int f1), (0, .ref a0), (1, .ref a1), (2, .int x2)]) X.1 X.2.1 dX6_readAtom_66 hl (by decide) rfl (fun ls hl => ?_)
    refine lv_iload X.1 X.2.1 dX6_readAtom_68 (lv_at hl 0 rfl) ?_
    refine lv_if_lt (tgt := 107) X.1 X.2.1 dX6_readAtom_70 (by decide) (fun c8 => ?_) (fun c8 => ?_)
    · have i9 : vLet (vC (sgT1 P) (sgL1 P) a) < (0 : Int) := vq_lt c8 xf7 (by decide +kernel)
      refine lv_aload_n X.1 X.2.1 dX6_readAtom_107 rfl (lv_at hl 3 rfl) ?_
      refine lv_iconst (v := 4) X.1 X.2.1 dX6_readAtom_108 (by decide +kernel) ?_
      refine lv_iconst (v := 0) X.1 X.2.1 dX6_readAtom_109 (by decide +kernel) ?_
      refine lv_sipush (v := 9999) X.1 X.2.1 dX6_readAtom_110 (by decide +kernel) ?_
      refine ca_X10_number_v4 X hK hG hC hS hb a1 h1 4 (iv_c 4 (a := 4) (b := 4) (by decide +kernel)) 0 9999 hl0 hav (show (0 : Int32).toInt = (0 : Int) ∧ (9999 : Int32).toInt = (9999 : Int) from ⟨(by decide +kernel), (by decide +kernel)⟩) wl_3_236 hl.1 (rest := []) rfl (Nat.le_of_ble_eq_true rfl) ⟨Nat.le_of_ble_eq_true rfl, Nat.le_of_ble_eq_true rfl⟩ ⟨Nat.le_of_ble_eq_true rfl, Nat.le_of_ble_eq_true rfl⟩ dX6_readAtom_113 (fun f11 tf11 H locs htf11 hf11 hWf11 hS => ?_)
      rcases hWf11 with ⟨av12, nv12, pv12, xv12, g1v12, g2v12, g3v12, g4v12, gav12, gbv12, hBf11⟩ | ⟨rfl, wv12, pv12, hBf11⟩
      · have hG := hBf11.2.2.2
        rw [htf11] at hG
        have bv12 := vq_bd2 (k := 1) hav (by decide) gav12 gbv12
        have p2v12 : a + 1 ≤ av12 := vq_pg (vq_pg0 a) gav12 (by decide)
        have yv12 : iv 0 9999 f11 := ⟨by omega, by omega⟩
        refine lv_istore (lv' := [(5, .int f11), (4, .int f7), (3, .int f1), (0, .ref a0), (1, .ref a1), (2, .int x2)]) X.1 X.2.1 dX6_readAtom_116 hl (by decide) rfl (fun ls hl => ?_)
        refine lv_aload_n X.1 X.2.1 dX6_readAtom_118 rfl (lv_at hl 3 rfl) ?_
        refine lv_iload X.1 X.2.1 dX6_readAtom_119 (lv_at hl 0 rfl) ?_
        refine lv_iconst (v := 0) X.1 X.2.1 dX6_readAtom_121 (by decide +kernel) ?_
        refine va_mmax X.1 X.2.1 (X.2.2.1.trans hl.1.symm) X.2.2.2.1 (X.2.2.2.2 _ wl_3_237) (X.2.2.2.2 _ wl_3_100) (X.2.2.2.2 _ wl_1_15) (X.2.2.2.2 _ wl_3_101) (Nat.le_of_ble_eq_true rfl) (Nat.le_of_ble_eq_true rfl) (Nat.le_of_ble_eq_true rfl) (Nat.le_of_ble_eq_true rfl) dX6_readAtom_122 ?_
        refine lv_topi (fun f13 ef13 => ?_)
        refine ca_X6_put_v X hK hG hC hS hb a0 h0 f13 wl_3_232 hl.1 (rest := []) rfl (Nat.le_of_ble_eq_true rfl) ⟨Nat.le_of_ble_eq_true rfl, Nat.le_of_ble_eq_true rfl⟩ ⟨Nat.le_of_ble_eq_true rfl, Nat.le_of_ble_eq_true rfl⟩ dX6_readAtom_125 (fun H locs hG hS => ?_)
        refine lv_iload X.1 X.2.1 dX6_readAtom_128 (lv_at hl 0 rfl) ?_
        refine lv_iconst (v := (-1)) X.1 X.2.1 dX6_readAtom_130 (by decide +kernel) ?_
        refine lv_icmp_eq (tgt := 138) X.1 X.2.1 dX6_readAtom_131 (by decide) (fun c15 => ?_) (fun c15 => ?_)
        · have i16 : nv12 = ((-1) : Int) := vq_eq c15 xv12 (by decide +kernel)
          exact ((iv_no (a := 0) (b := (-1)) (iv_eqm c15 yv12 (iv_c (-1) (a := (-1)) (b := (-1)) (by decide +kernel)) (by decide +kernel)) (by decide +kernel))).elim
        · have i17 : (nv12 = ((-1) : Int)) = False := vq_ne c15 xv12 (by decide +kernel)
          refine lv_iconst (v := 1) X.1 X.2.1 dX6_readAtom_134 (by decide +kernel) ?_
          refine lv_goto (tgt := 139) X.1 X.2.1 dX6_readAtom_135 (by decide) ?_
          have spr : vAt (sgT1 P) (sgL1 P) 4 a = (true, av12) := by simp only [vAt_4, vAtom, vD, vNu, i3, i9, pv12, i17, cond_true, cond_false, vB_t, vB_f, if_true, if_false, eq_self, not_true_eq_false, not_false_eq_true, Int.reduceEq, Int.reduceLT, or_false, false_or, or_true, true_or]
          exact sg_zret2 X hr (sg_zn (iv_of (iv_c 1 (a := 1) (b := 1) (by decide +kernel)) (a' := 0) (b' := 1) (by decide +kernel))) hlk hS (iv_of (iv_c 1 (a := 1) (b := 1) (by decide +kernel)) (a' := 0) (b' := 1) (by decide +kernel)) (fun t ht hW => (Or.inl ⟨rfl, _, spr, vq_pgw p2v12 (by decide), (bv12).2, sg_post hb hK hC hG hS ht hW⟩)) dX6_readAtom_139
      · have hG := hBf11.2.2.2
        rw [htf11] at hG
        refine lv_istore (lv' := [(5, .int (-1)), (4, .int f7), (3, .int f1), (0, .ref a0), (1, .ref a1), (2, .int x2)]) X.1 X.2.1 dX6_readAtom_116 hl (by decide) rfl (fun ls hl => ?_)
        refine lv_aload_n X.1 X.2.1 dX6_readAtom_118 rfl (lv_at hl 3 rfl) ?_
        refine lv_iload X.1 X.2.1 dX6_readAtom_119 (lv_at hl 0 rfl) ?_
        refine lv_iconst (v := 0) X.1 X.2.1 dX6_readAtom_121 (by decide +kernel) ?_
        refine va_mmax X.1 X.2.1 (X.2.2.1.trans hl.1.symm) X.2.2.2.1 (X.2.2.2.2 _ wl_3_237) (X.2.2.2.2 _ wl_3_100) (X.2.2.2.2 _ wl_1_15) (X.2.2.2.2 _ wl_3_101) (Nat.le_of_ble_eq_true rfl) (Nat.le_of_ble_eq_true rfl) (Nat.le_of_ble_eq_true rfl) (Nat.le_of_ble_eq_true rfl) dX6_readAtom_122 ?_
        refine lv_topi (fun f18 ef18 => ?_)
        refine ca_X6_put_v X hK hG hC hS hb a0 h0 f18 wl_3_232 hl.1 (rest := []) rfl (Nat.le_of_ble_eq_true rfl) ⟨Nat.le_of_ble_eq_true rfl, Nat.le_of_ble_eq_true rfl⟩ ⟨Nat.le_of_ble_eq_true rfl, Nat.le_of_ble_eq_true rfl⟩ dX6_readAtom_125 (fun H locs hG hS => ?_)
        refine lv_iload X.1 X.2.1 dX6_readAtom_128 (lv_at hl 0 rfl) ?_
        refine lv_iconst (v := (-1)) X.1 X.2.1 dX6_readAtom_130 (by decide +kernel) ?_
        refine lv_icmp_eq (tgt := 138) X.1 X.2.1 dX6_readAtom_131 (by decide) (fun c20 => ?_) (fun c20 => ?_)
        · refine lv_iconst (v := 0) X.1 X.2.1 dX6_readAtom_138 (by decide +kernel) ?_
          have spr : vAt (sgT1 P) (sgL1 P) 4 a = (false, wv12) := by simp only [vAt_4, vAtom, vD, vNu, i3, i9, pv12, cond_true, cond_false, vB_t, vB_f, if_true, if_false, eq_self, not_true_eq_false, not_false_eq_true, Int.reduceEq, Int.reduceLT, or_false, false_or, or_true, true_or]
          have hG := ka_weak (b1 := 0) (b2 := 240) (c1 := wv12) (c2 := wv12) hG (by omega) (by omega) (Int.le_refl _) (Int.le_refl _)
          exact sg_zret2 X hr (sg_zn (iv_of (iv_c 0 (a := 0) (b := 0) (by decide +kernel)) (a' := 0) (b' := 1) (by decide +kernel))) hlk hS (iv_of (iv_c 0 (a := 0) (b := 0) (by decide +kernel)) (a' := 0) (b' := 1) (by decide +kernel)) (fun t ht hW => (Or.inr ⟨rfl, _, spr, sg_post hb hK hC hG hS ht hW⟩)) dX6_readAtom_139
        · exact ((c20 (iv_one (iv_c (-1) (a := (-1)) (b := (-1)) (by decide +kernel)) (iv_c (-1) (a := (-1)) (b := (-1)) (by decide +kernel)) (by decide +kernel)))).elim
    · have i10 : ¬ vLet (vC (sgT1 P) (sgL1 P) a) < (0 : Int) := vq_le (iv_ge_of c8) (by decide +kernel) xf7
      refine lv_aload_n X.1 X.2.1 dX6_readAtom_73 rfl (lv_at hl 2 rfl) ?_
      refine lv_dup X.1 X.2.1 dX6_readAtom_74 rfl ?_
      refine gf_X6_6a X hK hG h0 wl_1_72 dX6_readAtom_75 (fun f21 hf21 kf21 => ?_)
      refine lv_iload X.1 X.2.1 dX6_readAtom_78 (lv_at hl 0 rfl) ?_
      refine lv_iconst (v := 4) X.1 X.2.1 dX6_readAtom_80 (by decide +kernel) ?_
      refine lv_icmp_ne (tgt := 88) X.1 X.2.1 dX6_readAtom_81 (by decide) (fun c22 => ?_) (fun c22 => ?_)
      · have i23 : (vLet (vC (sgT1 P) (sgL1 P) a) = (4 : Int)) = False := vq_ne c22 xf7 (by decide +kernel)
        refine lv_iconst (v := 0) X.1 X.2.1 dX6_readAtom_88 (by decide +kernel) ?_
        refine lv_ior X.1 X.2.1 dX6_readAtom_89 ?_
        refine lv_topi (fun f25 ef25 => ?_)
        refine pf_X6_6a X hK hG hS h0 wl_1_72 ⟨_, rfl, (iv_of (iv_or 1 ef25 hf21 (iv_c 0 (a := 0) (b := 0) (by decide +kernel)) (by decide +kernel)) (a' := 0) (b' := 1) (by decide +kernel))⟩ dX6_readAtom_90 (fun H locs hG hS ku26 ru26 => ?_)
        refine lv_aload_n X.1 X.2.1 dX6_readAtom_93 rfl (lv_at hl 2 rfl) ?_
        refine lv_iconst (v := (-1)) X.1 X.2.1 dX6_readAtom_94 (by decide +kernel) ?_
        refine lv_iload X.1 X.2.1 dX6_readAtom_95 (lv_at hl 0 rfl) ?_
        refine lv_isub X.1 X.2.1 dX6_readAtom_97 ?_
        refine lv_topi (fun f27 ef27 => ?_)
        have xf27 : f27.toInt = ((-1) - vLet (vC (sgT1 P) (sgL1 P) a)) := sg_exsub ef27 (iv_c (-1) (a := (-1)) (b := (-1)) (by decide +kernel)) (iv_ler (c' := 0) (iv_ge_of c8) (iv_c 0 (a := 0) (b := 0) (by decide +kernel)) (iv_top f7) (by decide +kernel)) (by decide +kernel) (by decide +kernel) xf7
        refine ca_X6_put_v X hK hG hC hS hb a0 h0 f27 wl_3_232 hl.1 (rest := []) rfl (Nat.le_of_ble_eq_true rfl) ⟨Nat.le_of_ble_eq_true rfl, Nat.le_of_ble_eq_true rfl⟩ ⟨Nat.le_of_ble_eq_true rfl, Nat.le_of_ble_eq_true rfl⟩ dX6_readAtom_98 (fun H locs hG hS => ?_)
        refine lv_aload_n X.1 X.2.1 dX6_readAtom_101 rfl (lv_at hl 3 rfl) ?_
        refine ca_X10_step_v X hK hG hC hS hb a1 h1 hl0 (vC_lt (b := sgT1 P) (vLet_ne i10)) wl_3_229 hl.1 (rest := []) rfl (Nat.le_of_ble_eq_true rfl) ⟨Nat.le_of_ble_eq_true rfl, Nat.le_of_ble_eq_true rfl⟩ ⟨Nat.le_of_ble_eq_true rfl, Nat.le_of_ble_eq_true rfl⟩ dX6_readAtom_102 (fun tg29 H locs htg29 hWg29 hS => ?_)
        have b30 := vC_lt (b := sgT1 P) (n := sgL1 P) (a := a) (vLet_ne i10)
        have bb30 := vq_bdX (b := sgT1 P) b30
        have pb30 : a + 1 ≤ vX (sgT1 P) (sgL1 P) (a + 1) := vq_pg (vq_pg0 a) (m := 1) (vX_ge (sgT1 P) (sgL1 P) (a + 1)).1 (by decide)
        have hG := hWg29.2.2.2
        rw [htg29] at hG
        refine lv_iconst (v := 1) X.1 X.2.1 dX6_readAtom_105 (by decide +kernel) ?_
        have spr : vAt (sgT1 P) (sgL1 P) 4 a = (true, (vX (sgT1 P) (sgL1 P) (a + 1))) := by simp only [vAt_4, vAtom, vD, vNu, i3, i10, i23, cond_true, cond_false, vB_t, vB_f, if_true, if_false, eq_self, not_true_eq_false, not_false_eq_true, Int.reduceEq, Int.reduceLT, or_false, false_or, or_true, true_or]
        exact sg_zret2 X hr (sg_zn (iv_of (iv_c 1 (a := 1) (b := 1) (by decide +kernel)) (a' := 0) (b' := 1) (by decide +kernel))) hlk hS (iv_of (iv_c 1 (a := 1) (b := 1) (by decide +kernel)) (a' := 0) (b' := 1) (by decide +kernel)) (fun t ht hW => (Or.inl ⟨rfl, _, spr, vq_pgw pb30 (by decide), (bb30).2, sg_post hb hK hC hG hS ht hW⟩)) dX6_readAtom_106
      · have i24 : vLet (vC (sgT1 P) (sgL1 P) a) = (4 : Int) := vq_eq c22 xf7 (by decide +kernel)
        refine lv_iconst (v := 1) X.1 X.2.1 dX6_readAtom_84 (by decide +kernel) ?_
        refine lv_goto (tgt := 89) X.1 X.2.1 dX6_readAtom_85 (by decide) ?_
        refine lv_ior X.1 X.2.1 dX6_readAtom_89 ?_
        refine lv_topi (fun f31 ef31 => ?_)
        refine pf_X6_6a X hK hG hS h0 wl_1_72 ⟨_, rfl, (iv_of (iv_or 1 ef31 hf21 (iv_c 1 (a := 1) (b := 1) (by decide +kernel)) (by decide +kernel)) (a' := 0) (b' := 1) (by decide +kernel))⟩ dX6_readAtom_90 (fun H locs hG hS ku32 ru32 => ?_)
        refine lv_aload_n X.1 X.2.1 dX6_readAtom_93 rfl (lv_at hl 2 rfl) ?_
        refine lv_iconst (v := (-1)) X.1 X.2.1 dX6_readAtom_94 (by decide +kernel) ?_
        refine lv_iload X.1 X.2.1 dX6_readAtom_95 (lv_at hl 0 rfl) ?_
        refine lv_isub X.1 X.2.1 dX6_readAtom_97 ?_
        refine lv_topi (fun f33 ef33 => ?_)
        have xf33 : f33.toInt = ((-1) - vLet (vC (sgT1 P) (sgL1 P) a)) := sg_exsub ef33 (iv_c (-1) (a := (-1)) (b := (-1)) (by decide +kernel)) (iv_eqm (a' := 4) (b' := 4) c22 (iv_ler (c' := 0) (iv_ge_of c8) (iv_c 0 (a := 0) (b := 0) (by decide +kernel)) (iv_top f7) (by decide +kernel)) (iv_c 4 (a := 4) (b := 4) (by decide +kernel)) (by decide +kernel)) (by decide +kernel) (by decide +kernel) xf7
        refine ca_X6_put_v X hK hG hC hS hb a0 h0 f33 wl_3_232 hl.1 (rest := []) rfl (Nat.le_of_ble_eq_true rfl) ⟨Nat.le_of_ble_eq_true rfl, Nat.le_of_ble_eq_true rfl⟩ ⟨Nat.le_of_ble_eq_true rfl, Nat.le_of_ble_eq_true rfl⟩ dX6_readAtom_98 (fun H locs hG hS => ?_)
        refine lv_aload_n X.1 X.2.1 dX6_readAtom_101 rfl (lv_at hl 3 rfl) ?_
        refine ca_X10_step_v X hK hG hC hS hb a1 h1 hl0 (vC_lt (b := sgT1 P) (vLet_ne i10)) wl_3_229 hl.1 (rest := []) rfl (Nat.le_of_ble_eq_true rfl) ⟨Nat.le_of_ble_eq_true rfl, Nat.le_of_ble_eq_true rfl⟩ ⟨Nat.le_of_ble_eq_true rfl, Nat.le_of_ble_eq_true rfl⟩ dX6_readAtom_102 (fun tg35 H locs htg35 hWg35 hS => ?_)
        have b36 := vC_lt (b := sgT1 P) (n := sgL1 P) (a := a) (vLet_ne i10)
        have bb36 := vq_bdX (b := sgT1 P) b36
        have pb36 : a + 1 ≤ vX (sgT1 P) (sgL1 P) (a + 1) := vq_pg (vq_pg0 a) (m := 1) (vX_ge (sgT1 P) (sgL1 P) (a + 1)).1 (by decide)
        have hG := hWg35.2.2.2
        rw [htg35] at hG
        refine lv_iconst (v := 1) X.1 X.2.1 dX6_readAtom_105 (by decide +kernel) ?_
        have spr : vAt (sgT1 P) (sgL1 P) 4 a = (true, (vX (sgT1 P) (sgL1 P) (a + 1))) := by simp only [vAt_4, vAtom, vD, vNu, i3, i10, i24, cond_true, cond_false, vB_t, vB_f, if_true, if_false, eq_self, not_true_eq_false, not_false_eq_true, Int.reduceEq, Int.reduceLT, or_false, false_or, or_true, true_or]
        exact sg_zret2 X hr (sg_zn (iv_of (iv_c 1 (a := 1) (b := 1) (by decide +kernel)) (a' := 0) (b' := 1) (by decide +kernel))) hlk hS (iv_of (iv_c 1 (a := 1) (b := 1) (by decide +kernel)) (a' := 0) (b' := 1) (by decide +kernel)) (fun t ht hW => (Or.inl ⟨rfl, _, spr, vq_pgw pb36 (by decide), (bb36).2, sg_post hb hK hC hG hS ht hW⟩)) dX6_readAtom_106
  · have i4 : vC (sgT1 P) (sgL1 P) a = (91 : Int) := vq_eq c2 hf1 (by decide +kernel)
    refine lv_iload_n X.1 X.2.1 dX6_readAtom_11 rfl (lv_at hl 3 rfl) ?_
    refine lv_bipush (v := 6) X.1 X.2.1 dX6_readAtom_12 (by decide +kernel) ?_
    refine lv_icmp_lt (tgt := 22) X.1 X.2.1 dX6_readAtom_14 (by decide) (fun c37 => ?_) (fun c37 => ?_)
    · have i38 : x2.toInt < (6 : Int) := vq_lt c37 rfl (by decide +kernel)
      refine lv_aload_n X.1 X.2.1 dX6_readAtom_22 rfl (lv_at hl 2 rfl) ?_
      refine ca_X10_step_v X hK hG hC hS hb a1 h1 hl0 (vC_lt (b := sgT1 P) (by rw [i4]; decide)) wl_3_229 hl.1 (rest := []) rfl (Nat.le_of_ble_eq_true rfl) ⟨Nat.le_of_ble_eq_true rfl, Nat.le_of_ble_eq_true rfl⟩ ⟨Nat.le_of_ble_eq_true rfl, Nat.le_of_ble_eq_true rfl⟩ dX6_readAtom_23 (fun tg40 H locs htg40 hWg40 hS => ?_)
      have b41 := vC_lt (b := sgT1 P) (n := sgL1 P) (a := a) (by rw [i4]; decide)
      have bb41 := vq_bdX (b := sgT1 P) b41
      have pb41 : a + 1 ≤ vX (sgT1 P) (sgL1 P) (a + 1) := vq_pg (vq_pg0 a) (m := 1) (vX_ge (sgT1 P) (sgL1 P) (a + 1)).1 (by decide)
      have hG := hWg40.2.2.2
      rw [htg40] at hG
      refine lv_aload_n X.1 X.2.1 dX6_readAtom_26 rfl (lv_at hl 1 rfl) ?_
      refine lv_aload_n X.1 X.2.1 dX6_readAtom_27 rfl (lv_at hl 2 rfl) ?_
      refine lv_iload_n X.1 X.2.1 dX6_readAtom_28 rfl (lv_at hl 3 rfl) ?_
      refine lv_iconst (v := 1) X.1 X.2.1 dX6_readAtom_29 (by decide +kernel) ?_
      refine lv_iadd X.1 X.2.1 dX6_readAtom_30 ?_
      refine lv_topi (fun f42 ef42 => ?_)
      have xf42 : f42.toInt = (x2.toInt + 1) := sg_exadd ef42 h2 (iv_c 1 (a := 1) (b := 1) (by decide +kernel)) (by decide +kernel) rfl (by decide +kernel)
      refine ca_X6_readSum_v3 X hK hG hC hS hb a0 h0 a1 h1 f42 (iv_add (a' := 3) (b' := 3) ef42 h2 (iv_c 1 (a := 1) (b := 1) (by decide +kernel)) (by decide +kernel)) hl0 bb41 hby wl_3_220 hl.1 (rest := []) rfl (Nat.le_of_ble_eq_true rfl) ⟨Nat.le_of_ble_eq_true rfl, Nat.le_of_ble_eq_true rfl⟩ ⟨Nat.le_of_ble_eq_true rfl, Nat.le_of_ble_eq_true rfl⟩ dX6_readAtom_31 (fun f43 tf43 H locs htf43 hf43 hWf43 hS => ?_)
      rcases hWf43 with ⟨rfl, av44, pv44, gav44, gbv44, hBf43⟩ | ⟨rfl, wv44, pv44, hBf43⟩
      · have hG := hBf43.2.2.2
        rw [htf43] at hG
        have bv44 := vq_bd2 (k := 1) bb41 (by decide) gav44 gbv44
        have p2v44 : a + 2 ≤ av44 := vq_pg pb41 gav44 (by decide)
        refine lv_if_ne (tgt := 39) X.1 X.2.1 dX6_readAtom_34 (by decide) (fun c45 => ?_) (fun c45 => ?_)
        · refine lv_aload_n X.1 X.2.1 dX6_readAtom_39 rfl (lv_at hl 2 rfl) ?_
          refine ca_X10_sign_v X hK hG hC (fun _ h => h) hS hb a1 h1 hl0 bv44 wl_3_219 hl.1 (rest := []) rfl (Nat.le_of_ble_eq_true rfl) ⟨Nat.le_of_ble_eq_true rfl, Nat.le_of_ble_eq_true rfl⟩ ⟨Nat.le_of_ble_eq_true rfl, Nat.le_of_ble_eq_true rfl⟩ dX6_readAtom_40 (fun f46 locs hf46 hS => ?_)
          have yf46 : iv 0 255 f46 := vq_255 hf46 hby
          refine lv_bipush (v := 93) X.1 X.2.1 dX6_readAtom_43 (by decide +kernel) ?_
          refine lv_icmp_eq (tgt := 53) X.1 X.2.1 dX6_readAtom_45 (by decide) (fun c47 => ?_) (fun c47 => ?_)
          · have i48 : vC (sgT1 P) (sgL1 P) av44 = (93 : Int) := vq_eq c47 hf46 (by decide +kernel)
            refine lv_aload_n X.1 X.2.1 dX6_readAtom_53 rfl (lv_at hl 2 rfl) ?_
            refine ca_X10_step_v X hK hG hC hS hb a1 h1 hl0 (vC_lt (b := sgT1 P) (by rw [i48]; decide)) wl_3_229 hl.1 (rest := []) rfl (Nat.le_of_ble_eq_true rfl) ⟨Nat.le_of_ble_eq_true rfl, Nat.le_of_ble_eq_true rfl⟩ ⟨Nat.le_of_ble_eq_true rfl, Nat.le_of_ble_eq_true rfl⟩ dX6_readAtom_54 (fun tg50 H locs htg50 hWg50 hS => ?_)
            have b51 := vC_lt (b := sgT1 P) (n := sgL1 P) (a := av44) (by rw [i48]; decide)
            have bb51 := vq_bdX (b := sgT1 P) b51
            have pb51 : a + 3 ≤ vX (sgT1 P) (sgL1 P) (av44 + 1) := vq_pg p2v44 (m := 1) (vX_ge (sgT1 P) (sgL1 P) (av44 + 1)).1 (by decide)
            have hG := hWg50.2.2.2
            rw [htg50] at hG
            refine lv_iconst (v := 1) X.1 X.2.1 dX6_readAtom_57 (by decide +kernel) ?_
            have spr : vAt (sgT1 P) (sgL1 P) 4 a = (true, (vX (sgT1 P) (sgL1 P) (av44 + 1))) := by simp only [vAt_4, vAtom, vD, vNu, i4, i38, pv44, i48, cond_true, cond_false, vB_t, vB_f, if_true, if_false, eq_self, not_true_eq_false, not_false_eq_true, Int.reduceEq, Int.reduceLT, or_false, false_or, or_true, true_or]
            exact sg_zret2 X hr (sg_zn (iv_of (iv_c 1 (a := 1) (b := 1) (by decide +kernel)) (a' := 0) (b' := 1) (by decide +kernel))) hlk hS (iv_of (iv_c 1 (a := 1) (b := 1) (by decide +kernel)) (a' := 0) (b' := 1) (by decide +kernel)) (fun t ht hW => (Or.inl ⟨rfl, _, spr, vq_pgw pb51 (by decide), (bb51).2, sg_post hb hK hC hG hS ht hW⟩)) dX6_readAtom_58
          · have i49 : (vC (sgT1 P) (sgL1 P) av44 = (93 : Int)) = False := vq_ne c47 hf46 (by decide +kernel)
            refine lv_aload_n X.1 X.2.1 dX6_readAtom_48 rfl (lv_at hl 2 rfl) ?_
            refine ca_X10_wrong_v X hK hG hC hS hb a1 h1 hl0 bv44 wl_3_228 hl.1 (rest := []) rfl (Nat.le_of_ble_eq_true rfl) ⟨Nat.le_of_ble_eq_true rfl, Nat.le_of_ble_eq_true rfl⟩ ⟨Nat.le_of_ble_eq_true rfl, Nat.le_of_ble_eq_true rfl⟩ dX6_readAtom_49 (fun f52 tf52 H locs htf52 hf52 hWf52 hS => ?_)
            have hG := hWf52.2.2.2
            rw [htf52] at hG
            obtain rfl : f52 = 0 := sg_is0 hf52
            have spr : vAt (sgT1 P) (sgL1 P) 4 a = (false, av44) := by simp only [vAt_4, vAtom, vD, vNu, i4, i38, pv44, i49, cond_true, cond_false, vB_t, vB_f, if_true, if_false, eq_self, not_true_eq_false, not_false_eq_true, Int.reduceEq, Int.reduceLT, or_false, false_or, or_true, true_or]
            have hG := ka_weak (b1 := 0) (b2 := 240) (c1 := av44) (c2 := av44) hG (bv44).1 (Int.le_trans (bv44).2 hl0.2) (Int.le_refl _) (Int.le_refl _)
            exact sg_zret2 X hr (sg_zn (iv_of (iv_c 0 (a := 0) (b := 0) (by decide +kernel)) (a' := 0) (b' := 1) (by decide +kernel))) hlk hS (iv_of (iv_c 0 (a := 0) (b := 0) (by decide +kernel)) (a' := 0) (b' := 1) (by decide +kernel)) (fun t ht hW => (Or.inr ⟨rfl, _, spr, sg_post hb hK hC hG hS ht hW⟩)) dX6_readAtom_52
        · exact ((iv_no (a := 1) (b := 0) (iv_eqm c45 (iv_c 1 (a := 1) (b := 1) (by decide +kernel)) (iv_c 0 (a := 0) (b := 0) (by decide +kernel)) (by decide +kernel)) (by decide +kernel))).elim
      · have hG := hBf43.2.2.2
        rw [htf43] at hG
        refine lv_if_ne (tgt := 39) X.1 X.2.1 dX6_readAtom_34 (by decide) (fun c53 => ?_) (fun c53 => ?_)
        · exact ((c53 (iv_one (iv_c 0 (a := 0) (b := 0) (by decide +kernel)) (iv_c 0 (a := 0) (b := 0) (by decide +kernel)) (by decide +kernel)))).elim
        · refine lv_iconst (v := 0) X.1 X.2.1 dX6_readAtom_37 (by decide +kernel) ?_
          have spr : vAt (sgT1 P) (sgL1 P) 4 a = (false, wv44) := by simp only [vAt_4, vAtom, vD, vNu, i4, i38, pv44, cond_true, cond_false, vB_t, vB_f, if_true, if_false, eq_self, not_true_eq_false, not_false_eq_true, Int.reduceEq, Int.reduceLT, or_false, false_or, or_true, true_or]
          have hG := ka_weak (b1 := 0) (b2 := 240) (c1 := wv44) (c2 := wv44) hG (by omega) (by omega) (Int.le_refl _) (Int.le_refl _)
          exact sg_zret2 X hr (sg_zn (iv_of (iv_c 0 (a := 0) (b := 0) (by decide +kernel)) (a' := 0) (b' := 1) (by decide +kernel))) hlk hS (iv_of (iv_c 0 (a := 0) (b := 0) (by decide +kernel)) (a' := 0) (b' := 1) (by decide +kernel)) (fun t ht hW => (Or.inr ⟨rfl, _, spr, sg_post hb hK hC hG hS ht hW⟩)) dX6_readAtom_38
    · have i39 : ¬ x2.toInt < (6 : Int) := vq_le (iv_ge_of c37) (by decide +kernel) rfl
      exact ((iv_no (iv_le (b' := 2) (iv_ge_of c37) (iv_c 6 (a := 6) (b := 6) (by decide +kernel)) h2 (by decide +kernel)) (by decide +kernel))).elim

theorem ca_X6_readAtom_v2  {a w1 w2 : Int}  (X : CallFix p m c cc nL s args sg_tbl own) (hK : va_K D vwCl tys s) (hG : sgG (KA a a w1 w2 P) D vwCl (fun q : Nat => base ≤ q) tys ad ks H) (hC : sgC base s) (hS : va_S (fun q : Nat => base ≤ q) s.heap H locs) (hb : base ≤ s.heap.size) (a0 : Nat) (h0 : isK ad ks 6 a0) (a1 : Nat) (h1 : isK ad ks 10 a1) (x2 : Int32) (h2 : iv 2 2 x2) (hl0 : 0 ≤ sgL1 P ∧ sgL1 P ≤ 240) (hav : 0 ≤ a ∧ a ≤ sgL1 P) (hby : ∀ j : Nat, (↑j : Int) < sgL1 P → 1 ≤ sgT1 P j ∧ sgT1 P j ≤ 255) (hl : Cond.methodLink own index yX6_readAtom ∈ sg_tbl) (hsize : ls.size = nL) (hst : st0 = [.ref a1, .int x2].reverse ++ .ref a0 :: rest) (hW : (rest.map fun v => v.category).sum ≤ 8) (hR : 13 ≤ R.frames ∧ 320 ≤ R.locals) (hf : cells ≤ R.cells ∧ slots ≤ R.slots) (hdg : decode cc pc = .ok (.invokevirtual index, 3)) (kk : ∀ (r : Int32) (t : State) (H1 : Heap) (locs1 : List Loc), t.heap = H1 → (fun r : Int32 => iv 0 1 r) r → ((r = 1 ∧ ∃ a1 : Int, vAt (sgT1 P) (sgL1 P) 4 a = (true, a1) ∧ a + 1 ≤ a1 ∧ a1 ≤ sgL1 P ∧ sgB (KA a1 a1 w1 w2 P) D vwCl base tys ad ks t) ∨ (r = 0 ∧ ∃ w : Int, vAt (sgT1 P) (sgL1 P) 4 a = (false, w) ∧ sgB (KA 0 240 w w P) D vwCl base tys ad ks t)) → va_S (fun q : Nat => base ≤ q) s.heap H1 locs1 → W p l e R s m args below meth c H1 locs1 cells slots Q (F0 m (pc + 3) ls (.int r :: rest))) : W p l e R s m args below meth c H locs cells slots Q (F0 m pc ls st0) :=
  sg_callV2i X hK hG hC hS hb (m_X6_readAtom_v2 l a0 h0 a1 h1 x2 h2 hl0 hav hby) h0 (k := 6) (ci := 6) rfl (C := RX6) (T := TX6) (N := 7) rfl wl_3_227 wl_1_3 wl_3_226 wl_0_12 (n := 2) (by decide +kernel) rfl rfl rfl hl hsize hst hW hR hf hdg kk

set_option maxHeartbeats 8000000 in
set_option maxRecDepth 100000 in
theorem m_X6_readSum_v2 (l : Launch) {D : va_G} {base : Nat} {tys : List (ClassId × FieldType)} {ad ks : List Nat} {P : sgPm}{a w1 w2 : Int}  (a0 : Nat) (h0 : isK ad ks 6 a0) (a1 : Nat) (h1 : isK ad ks 10 a1) (x2 : Int32) (h2 : iv 2 2 x2) (hl0 : 0 ≤ sgL1 P ∧ sgL1 P ≤ 240) (hav : 0 ≤ a ∧ a ≤ sgL1 P) (hby : ∀ j : Nat, (↑j : Int) < sgL1 P → 1 ≤ sgT1 P j ∧ sgT1 P j ≤ 255) : Met l yX6_readSum (Cond.code yX6_readSum cX6_readSum 7 (some .boolean) :: sg_tbl) ({ frames := 13, cells := 0, slots := 0, locals := 320 }) (va_Pc [.ref a0, .ref a1, .int x2] (sgB (KA a a w1 w2 P) D vwCl base tys ad ks)) (va_Qi (fun r (u : Int32) => u = r ∧ (fun r : Int32 => iv 0 1 r) r) (fun u t => (u = 1 ∧ ∃ a1 : Int, vSum (sgT1 P) (sgL1 P) 4 a = (true, a1) ∧ a + 1 ≤ a1 ∧ a1 ≤ sgL1 P ∧ sgB (KA a1 a1 w1 w2 P) D vwCl base tys ad ks t) ∨ (u = 0 ∧ ∃ w : Int, vSum (sgT1 P) (sgL1 P) 4 a = (false, w) ∧ sgB (KA 0 240 w w P) D vwCl base tys ad ks t)) (fun q : Nat => base ≤ q)) 0 0 (fun q : Nat => base ≤ q) := by
  refine sg_ofW (by decide +kernel) (Nat.le_of_ble_eq_true rfl) (fun p e s m below meth c X hr hlk hb hK hC hG ls hl => ?_)
  have hS : va_S (fun q : Nat => base ≤ q) s.heap s.heap [] := va_S.rf
  have hl : lv_has ls 7 [(0, .ref a0), (1, .ref a1), (2, .int x2)] := hl
  refine lv_aload_n X.1 X.2.1 dX6_readSum_0 rfl (lv_at hl 0 rfl) ?_
  refine lv_aload_n X.1 X.2.1 dX6_readSum_1 rfl (lv_at hl 1 rfl) ?_
  refine lv_iload_n X.1 X.2.1 dX6_readSum_2 rfl (lv_at hl 2 rfl) ?_
  refine ca_X6_readAtom_v2 X hK hG hC hS hb a0 h0 a1 h1 x2 h2 hl0 hav hby wl_3_224 hl.1 (rest := []) rfl (Nat.le_of_ble_eq_true rfl) ⟨Nat.le_of_ble_eq_true rfl, Nat.le_of_ble_eq_true rfl⟩ ⟨Nat.le_of_ble_eq_true rfl, Nat.le_of_ble_eq_true rfl⟩ dX6_readSum_3 (fun f1 tf1 H locs htf1 hf1 hWf1 hS => ?_)
  rcases hWf1 with ⟨rfl, av2, pv2, gav2, gbv2, hBf1⟩ | ⟨rfl, wv2, pv2, hBf1⟩
  · have hG := hBf1.2.2.2
    rw [htf1] at hG
    have bv2 := vq_bd2 (k := 1) hav (by decide) gav2 gbv2
    have p2v2 : a + 1 ≤ av2 := vq_pg (vq_pg0 a) gav2 (by decide)
    refine lv_if_ne (tgt := 11) X.1 X.2.1 dX6_readSum_6 (by decide) (fun c3 => ?_) (fun c3 => ?_)
    · refine lv_iconst (v := 0) X.1 X.2.1 dX6_readSum_11 (by decide +kernel) ?_
      refine lv_istore_n (lv' := [(3, .int 0), (0, .ref a0), (1, .ref a1), (2, .int x2)]) X.1 X.2.1 dX6_readSum_12 rfl hl (by decide) rfl (fun ls hl => ?_)
      refine lv_iconst (v := 0) X.1 X.2.1 dX6_readSum_13 (by decide +kernel) ?_
      refine lv_istore (lv' := [(4, .int 0), (3, .int 0), (0, .ref a0), (1, .ref a1), (2, .int x2)]) X.1 X.2.1 dX6_readSum_14 hl (by decide) rfl (fun ls hl => ?_)
      have B4_16 : ∀ (N : Nat) (H : Heap) (locs : List Loc) (ls : Array Slot) (z4_3 : Int32) (z4_4 : Int32) (a4 : Int), 0 ≤ a4 → a4 ≤ sgL1 P → a + 1 ≤ a4 → sgG (KA a4 a4 w1 w2 P) D vwCl (fun q : Nat => base ≤ q) tys ad ks H → va_S (fun q : Nat => base ≤ q) s.heap H locs → lv_has ls 7 [(0, .ref a0), (1, .ref a1), (2, .int x2), (3, .int z4_3), (4, .int z4_4)] → iv (-100) 0 z4_3 → iv 0 240 z4_4 → (vSum (sgT1 P) (sgL1 P) 4 a = vL (vAt (sgT1 P) (sgL1 P) 4) opS (sgT1 P) (sgL1 P) a4 ∧ (z4_4 : Int32).toInt + 1 ≤ a4) → (241 - z4_4.toInt).toNat ≤ N → W p l e (headSpec (Cond.code yX6_readSum cX6_readSum 7 (some .boolean) :: sg_tbl) ({ frames := 13, cells := 0, slots := 0, locals := 320 })).room s m #[.ref a0, .ref a1, .int x2] below meth c H locs 0 0 (MQ below (va_Qi (fun r (u : Int32) => u = r ∧ (fun r : Int32 => iv 0 1 r) r) (fun u t => (u = 1 ∧ ∃ a1 : Int, vSum (sgT1 P) (sgL1 P) 4 a = (true, a1) ∧ a + 1 ≤ a1 ∧ a1 ≤ sgL1 P ∧ sgB (KA a1 a1 w1 w2 P) D vwCl base tys ad ks t) ∨ (u = 0 ∧ ∃ w : Int, vSum (sgT1 P) (sgL1 P) 4 a = (false, w) ∧ sgB (KA 0 240 w w P) D vwCl base tys ad ks t)) (fun q : Nat => base ≤ q)) #[.ref a0, .ref a1, .int x2] s 0 0 (fun q : Nat => base ≤ q)) (F0 m 16 ls []) := by
        intro N; induction N with
        | zero =>
          intro H locs ls z4_3 z4_4 a4 jl4 jm4 jk4 hG hS hl hz4_3 hz4_4 xf4 hN
          exact absurd hN (by have := iv_up hz4_4; omega)
        | succ N ih4 =>
          intro H locs ls z4_3 z4_4 a4 jl4 jm4 jk4 hG hS hl hz4_3 hz4_4 xf4 hN4
          refine lv_iload X.1 X.2.1 dX6_readSum_16 (lv_at hl 4 rfl) ?_
          refine lv_sipush (v := 240) X.1 X.2.1 dX6_readSum_18 (by decide +kernel) ?_
          refine lv_icmp_ge (tgt := 148) X.1 X.2.1 dX6_readSum_21 (by decide) (fun c5 => ?_) (fun c5 => ?_)
          · have i6 : ¬ z4_4.toInt < (240 : Int) := vq_le c5 (by decide +kernel) rfl
            exact absurd xf4.2 (vq_dead ((And.intro jl4 jm4)) hl0 i6)
          · have i7 : z4_4.toInt < (240 : Int) := vq_lt (iv_gt_of c5) rfl (by decide +kernel)
            refine lv_aload_n X.1 X.2.1 dX6_readSum_24 rfl (lv_at hl 1 rfl) ?_
            refine ca_X10_sign_v X hK hG hC (fun _ h => h) hS hb a1 h1 hl0 (And.intro jl4 jm4) wl_3_219 hl.1 (rest := []) rfl (Nat.le_of_ble_eq_true rfl) ⟨Nat.le_of_ble_eq_true rfl, Nat.le_of_ble_eq_true rfl⟩ ⟨Nat.le_of_ble_eq_true rfl, Nat.le_of_ble_eq_true rfl⟩ dX6_readSum_25 (fun f8 locs hf8 hS => ?_)
            have yf8 : iv 0 255 f8 := vq_255 hf8 hby
            refine lv_istore (lv' := [(5, .int f8), (0, .ref a0), (1, .ref a1), (2, .int x2), (3, .int z4_3), (4, .int z4_4)]) X.1 X.2.1 dX6_readSum_28 hl (by decide) rfl (fun ls hl => ?_)
            refine lv_iload X.1 X.2.1 dX6_readSum_30 (lv_at hl 0 rfl) ?_
            refine lv_bipush (v := 42) X.1 X.2.1 dX6_readSum_32 (by decide +kernel) ?_
            refine lv_icmp_eq (tgt := 44) X.1 X.2.1 dX6_readSum_34 (by decide) (fun c9 => ?_) (fun c9 => ?_)
            · have i10 : vC (sgT1 P) (sgL1 P) a4 = (42 : Int) := vq_eq c9 hf8 (by decide +kernel)
              refine lv_iconst (v := 1) X.1 X.2.1 dX6_readSum_44 (by decide +kernel) ?_
              refine lv_goto (tgt := 49) X.1 X.2.1 dX6_readSum_45 (by decide) ?_
              refine lv_istore (lv' := [(6, .int 1), (5, .int f8), (0, .ref a0), (1, .ref a1), (2, .int x2), (3, .int z4_3), (4, .int z4_4)]) X.1 X.2.1 dX6_readSum_49 hl (by decide) rfl (fun ls hl => ?_)
              refine lv_iload X.1 X.2.1 dX6_readSum_51 (lv_at hl 0 rfl) ?_
              refine lv_if_ne (tgt := 65) X.1 X.2.1 dX6_readSum_53 (by decide) (fun c12 => ?_) (fun c12 => ?_)
              · refine lv_iload X.1 X.2.1 dX6_readSum_65 (lv_at hl 0 rfl) ?_
                refine lv_if_ne (tgt := 86) X.1 X.2.1 dX6_readSum_67 (by decide) (fun c13 => ?_) (fun c13 => ?_)
                · refine lv_aload_n X.1 X.2.1 dX6_readSum_86 rfl (lv_at hl 3 rfl) ?_
                  refine ca_X10_step_v X hK hG hC hS hb a1 h1 hl0 (vC_lt (b := sgT1 P) (by rw [i10]; decide)) wl_3_229 hl.1 (rest := []) rfl (Nat.le_of_ble_eq_true rfl) ⟨Nat.le_of_ble_eq_true rfl, Nat.le_of_ble_eq_true rfl⟩ ⟨Nat.le_of_ble_eq_true rfl, Nat.le_of_ble_eq_true rfl⟩ dX6_readSum_87 (fun tg14 H locs htg14 hWg14 hS => ?_)
                  have b15 := vC_lt (b := sgT1 P) (n := sgL1 P) (a := a4) (by rw [i10]; decide)
                  have bb15 := vq_bdX (b := sgT1 P) b15
                  have pb15 : a + 2 ≤ vX (sgT1 P) (sgL1 P) (a4 + 1) := vq_pg jk4 (m := 1) (vX_ge (sgT1 P) (sgL1 P) (a4 + 1)).1 (by decide)
                  have hG := hWg14.2.2.2
                  rw [htg14] at hG
                  refine lv_aload_n X.1 X.2.1 dX6_readSum_90 rfl (lv_at hl 2 rfl) ?_
                  refine lv_aload_n X.1 X.2.1 dX6_readSum_91 rfl (lv_at hl 3 rfl) ?_
                  refine lv_iload_n X.1 X.2.1 dX6_readSum_92 rfl (lv_at hl 4 rfl) ?_
                  refine ca_X6_readAtom_v2 X hK hG hC hS hb a0 h0 a1 h1 x2 h2 hl0 bb15 hby wl_3_224 hl.1 (rest := []) rfl (Nat.le_of_ble_eq_true rfl) ⟨Nat.le_of_ble_eq_true rfl, Nat.le_of_ble_eq_true rfl⟩ ⟨Nat.le_of_ble_eq_true rfl, Nat.le_of_ble_eq_true rfl⟩ dX6_readSum_93 (fun f16 tf16 H locs htf16 hf16 hWf16 hS => ?_)
                  rcases hWf16 with ⟨rfl, av17, pv17, gav17, gbv17, hBf16⟩ | ⟨rfl, wv17, pv17, hBf16⟩
                  · have hG := hBf16.2.2.2
                    rw [htf16] at hG
                    have bv17 := vq_bd2 (k := 1) bb15 (by decide) gav17 gbv17
                    have p2v17 : a + 3 ≤ av17 := vq_pg pb15 gav17 (by decide)
                    refine lv_if_ne (tgt := 101) X.1 X.2.1 dX6_readSum_96 (by decide) (fun c18 => ?_) (fun c18 => ?_)
                    · refine lv_iload X.1 X.2.1 dX6_readSum_101 (lv_at hl 0 rfl) ?_
                      refine lv_if_eq (tgt := 127) X.1 X.2.1 dX6_readSum_103 (by decide) (fun c19 => ?_) (fun c19 => ?_)
                      · exact ((iv_no (a := 1) (b := 0) (iv_eqm c19 (iv_c 1 (a := 1) (b := 1) (by decide +kernel)) (iv_c 0 (a := 0) (b := 0) (by decide +kernel)) (by decide +kernel)) (by decide +kernel))).elim
                      · refine lv_aload_n X.1 X.2.1 dX6_readSum_106 rfl (lv_at hl 2 rfl) ?_
                        refine lv_iload X.1 X.2.1 dX6_readSum_107 (lv_at hl 1 rfl) ?_
                        refine lv_bipush (v := 42) X.1 X.2.1 dX6_readSum_109 (by decide +kernel) ?_
                        refine lv_icmp_ne (tgt := 119) X.1 X.2.1 dX6_readSum_111 (by decide) (fun c20 => ?_) (fun c20 => ?_)
                        · have i21 : (vC (sgT1 P) (sgL1 P) a4 = (42 : Int)) = False := vq_ne c20 hf8 (by decide +kernel)
                          exact ((c20 (iv_one (iv_eqm (a' := 42) (b' := 42) c9 yf8 (iv_c 42 (a := 42) (b := 42) (by decide +kernel)) (by decide +kernel)) (iv_c 42 (a := 42) (b := 42) (by decide +kernel)) (by decide +kernel)))).elim
                        · have i22 : vC (sgT1 P) (sgL1 P) a4 = (42 : Int) := vq_eq c20 hf8 (by decide +kernel)
                          refine lv_bipush (v := (-12)) X.1 X.2.1 dX6_readSum_114 (by decide +kernel) ?_
                          refine lv_goto (tgt := 121) X.1 X.2.1 dX6_readSum_116 (by decide) ?_
                          refine ca_X6_put_v X hK hG hC hS hb a0 h0 (-12) wl_3_232 hl.1 (rest := []) rfl (Nat.le_of_ble_eq_true rfl) ⟨Nat.le_of_ble_eq_true rfl, Nat.le_of_ble_eq_true rfl⟩ ⟨Nat.le_of_ble_eq_true rfl, Nat.le_of_ble_eq_true rfl⟩ dX6_readSum_121 (fun H locs hG hS => ?_)
                          refine lv_goto (tgt := 142) X.1 X.2.1 dX6_readSum_124 (by decide) ?_
                          obtain ⟨y24, ey24⟩ : ∃ y : Int32, y = z4_4 + Int32.ofInt 1 := ⟨_, rfl⟩
                          have xy24 : y24.toInt = (z4_4.toInt + 1) := sg_exadd ey24 (iv_lt (b' := 239) (iv_gt_of c5) hz4_4 (iv_c 240 (a := 240) (b := 240) (by decide +kernel)) (by decide +kernel)) (iv_c _ (a := 1) (b := 1) (by decide +kernel)) (by decide +kernel) rfl (by decide +kernel)
                          refine lv_iinc (v := y24) (lv' := [(4, .int y24), (6, .int 1), (5, .int f8), (0, .ref a0), (1, .ref a1), (2, .int x2), (3, .int z4_3)]) X.1 X.2.1 dX6_readSum_142 hl (k := 6) rfl ey24.symm (by decide) rfl (fun ls hl => ?_)
                          refine lv_goto (tgt := 16) X.1 X.2.1 dX6_readSum_145 (by decide) ?_
                          exact ih4 H _ _ z4_3 y24 (av17) (bv17).1 (bv17).2 (vq_pgw p2v17 (by decide)) hG hS (lv_sub hl [3, 4, 5, 6, 0] rfl) hz4_3 (iv_of (iv_add (a' := 1) (b' := 240) ey24 (iv_lt (b' := 239) (iv_gt_of c5) hz4_4 (iv_c 240 (a := 240) (b := 240) (by decide +kernel)) (by decide +kernel)) (iv_c _ (a := 1) (b := 1) (by decide +kernel)) (by decide +kernel)) (a' := 0) (b' := 240) (by decide +kernel)) ⟨xf4.1.trans (vL_step (opS_42 i22) pv17 (vq_l1 (vX_ge (sgT1 P) (sgL1 P) (a4 + 1)).1 gav17) (vC_lt (b := sgT1 P) (n := sgL1 P) (by rw [i22]; decide)).2), vq_z1 xf4.2 xy24 (vX_ge (sgT1 P) (sgL1 P) (a4 + 1)).1 gav17⟩ (iv_stepU ey24 (iv_lt (b' := 239) (iv_gt_of c5) hz4_4 (iv_c 240 (a := 240) (b := 240) (by decide +kernel)) (by decide +kernel)) (by decide +kernel) hN4)
                    · exact ((iv_no (a := 1) (b := 0) (iv_eqm c18 (iv_c 1 (a := 1) (b := 1) (by decide +kernel)) (iv_c 0 (a := 0) (b := 0) (by decide +kernel)) (by decide +kernel)) (by decide +kernel))).elim
                  · have hG := hBf16.2.2.2
                    rw [htf16] at hG
                    refine lv_if_ne (tgt := 101) X.1 X.2.1 dX6_readSum_96 (by decide) (fun c25 => ?_) (fun c25 => ?_)
                    · exact ((c25 (iv_one (iv_c 0 (a := 0) (b := 0) (by decide +kernel)) (iv_c 0 (a := 0) (b := 0) (by decide +kernel)) (by decide +kernel)))).elim
                    · refine lv_iconst (v := 0) X.1 X.2.1 dX6_readSum_99 (by decide +kernel) ?_
                      have spr : vSum (sgT1 P) (sgL1 P) 4 a = (false, wv17) := by exact xf4.1.trans (vL_bad (opS_42 i10) pv17)
                      have hG := ka_weak (b1 := 0) (b2 := 240) (c1 := wv17) (c2 := wv17) hG (by omega) (by omega) (Int.le_refl _) (Int.le_refl _)
                      exact sg_zret2 X hr (sg_zn (iv_of (iv_c 0 (a := 0) (b := 0) (by decide +kernel)) (a' := 0) (b' := 1) (by decide +kernel))) hlk hS (iv_of (iv_c 0 (a := 0) (b := 0) (by decide +kernel)) (a' := 0) (b' := 1) (by decide +kernel)) (fun t ht hW => (Or.inr ⟨rfl, _, spr, sg_post hb hK hC hG hS ht hW⟩)) dX6_readSum_100
                · exact ((iv_no (a := 1) (b := 0) (iv_eqm c13 (iv_c 1 (a := 1) (b := 1) (by decide +kernel)) (iv_c 0 (a := 0) (b := 0) (by decide +kernel)) (by decide +kernel)) (by decide +kernel))).elim
              · exact ((iv_no (a := 1) (b := 0) (iv_eqm c12 (iv_c 1 (a := 1) (b := 1) (by decide +kernel)) (iv_c 0 (a := 0) (b := 0) (by decide +kernel)) (by decide +kernel)) (by decide +kernel))).elim
            · have i11 : (vC (sgT1 P) (sgL1 P) a4 = (42 : Int)) = False := vq_ne c9 hf8 (by decide +kernel)
              refine lv_iload X.1 X.2.1 dX6_readSum_37 (lv_at hl 0 rfl) ?_
              refine lv_bipush (v := 47) X.1 X.2.1 dX6_readSum_39 (by decide +kernel) ?_
              refine lv_icmp_ne (tgt := 48) X.1 X.2.1 dX6_readSum_41 (by decide) (fun c26 => ?_) (fun c26 => ?_)
              · have i27 : (vC (sgT1 P) (sgL1 P) a4 = (47 : Int)) = False := vq_ne c26 hf8 (by decide +kernel)
                refine lv_iconst (v := 0) X.1 X.2.1 dX6_readSum_48 (by decide +kernel) ?_
                refine lv_istore (lv' := [(6, .int 0), (5, .int f8), (0, .ref a0), (1, .ref a1), (2, .int x2), (3, .int z4_3), (4, .int z4_4)]) X.1 X.2.1 dX6_readSum_49 hl (by decide) rfl (fun ls hl => ?_)
                refine lv_iload X.1 X.2.1 dX6_readSum_51 (lv_at hl 0 rfl) ?_
                refine lv_if_ne (tgt := 65) X.1 X.2.1 dX6_readSum_53 (by decide) (fun c29 => ?_) (fun c29 => ?_)
                · exact ((c29 (iv_one (iv_c 0 (a := 0) (b := 0) (by decide +kernel)) (iv_c 0 (a := 0) (b := 0) (by decide +kernel)) (by decide +kernel)))).elim
                · refine lv_iload_n X.1 X.2.1 dX6_readSum_56 rfl (lv_at hl 5 rfl) ?_
                  refine lv_if_eq (tgt := 65) X.1 X.2.1 dX6_readSum_57 (by decide) (fun c30 => ?_) (fun c30 => ?_)
                  · have i31 : z4_3.toInt = (0 : Int) := vq_eq c30 rfl (by decide +kernel)
                    refine lv_iload X.1 X.2.1 dX6_readSum_65 (lv_at hl 0 rfl) ?_
                    refine lv_if_ne (tgt := 86) X.1 X.2.1 dX6_readSum_67 (by decide) (fun c33 => ?_) (fun c33 => ?_)
                    · exact ((c33 (iv_one (iv_c 0 (a := 0) (b := 0) (by decide +kernel)) (iv_c 0 (a := 0) (b := 0) (by decide +kernel)) (by decide +kernel)))).elim
                    · refine lv_iload X.1 X.2.1 dX6_readSum_70 (lv_at hl 1 rfl) ?_
                      refine lv_bipush (v := 43) X.1 X.2.1 dX6_readSum_72 (by decide +kernel) ?_
                      refine lv_icmp_eq (tgt := 86) X.1 X.2.1 dX6_readSum_74 (by decide) (fun c34 => ?_) (fun c34 => ?_)
                      · have i35 : vC (sgT1 P) (sgL1 P) a4 = (43 : Int) := vq_eq c34 hf8 (by decide +kernel)
                        refine lv_aload_n X.1 X.2.1 dX6_readSum_86 rfl (lv_at hl 3 rfl) ?_
                        refine ca_X10_step_v X hK hG hC hS hb a1 h1 hl0 (vC_lt (b := sgT1 P) (by rw [i35]; decide)) wl_3_229 hl.1 (rest := []) rfl (Nat.le_of_ble_eq_true rfl) ⟨Nat.le_of_ble_eq_true rfl, Nat.le_of_ble_eq_true rfl⟩ ⟨Nat.le_of_ble_eq_true rfl, Nat.le_of_ble_eq_true rfl⟩ dX6_readSum_87 (fun tg37 H locs htg37 hWg37 hS => ?_)
                        have b38 := vC_lt (b := sgT1 P) (n := sgL1 P) (a := a4) (by rw [i35]; decide)
                        have bb38 := vq_bdX (b := sgT1 P) b38
                        have pb38 : a + 2 ≤ vX (sgT1 P) (sgL1 P) (a4 + 1) := vq_pg jk4 (m := 1) (vX_ge (sgT1 P) (sgL1 P) (a4 + 1)).1 (by decide)
                        have hG := hWg37.2.2.2
                        rw [htg37] at hG
                        refine lv_aload_n X.1 X.2.1 dX6_readSum_90 rfl (lv_at hl 2 rfl) ?_
                        refine lv_aload_n X.1 X.2.1 dX6_readSum_91 rfl (lv_at hl 3 rfl) ?_
                        refine lv_iload_n X.1 X.2.1 dX6_readSum_92 rfl (lv_at hl 4 rfl) ?_
                        refine ca_X6_readAtom_v2 X hK hG hC hS hb a0 h0 a1 h1 x2 h2 hl0 bb38 hby wl_3_224 hl.1 (rest := []) rfl (Nat.le_of_ble_eq_true rfl) ⟨Nat.le_of_ble_eq_true rfl, Nat.le_of_ble_eq_true rfl⟩ ⟨Nat.le_of_ble_eq_true rfl, Nat.le_of_ble_eq_true rfl⟩ dX6_readSum_93 (fun f39 tf39 H locs htf39 hf39 hWf39 hS => ?_)
                        rcases hWf39 with ⟨rfl, av40, pv40, gav40, gbv40, hBf39⟩ | ⟨rfl, wv40, pv40, hBf39⟩
                        · have hG := hBf39.2.2.2
                          rw [htf39] at hG
                          have bv40 := vq_bd2 (k := 1) bb38 (by decide) gav40 gbv40
                          have p2v40 : a + 3 ≤ av40 := vq_pg pb38 gav40 (by decide)
                          refine lv_if_ne (tgt := 101) X.1 X.2.1 dX6_readSum_96 (by decide) (fun c41 => ?_) (fun c41 => ?_)
                          · refine lv_iload X.1 X.2.1 dX6_readSum_101 (lv_at hl 0 rfl) ?_
                            refine lv_if_eq (tgt := 127) X.1 X.2.1 dX6_readSum_103 (by decide) (fun c42 => ?_) (fun c42 => ?_)
                            · refine lv_iload X.1 X.2.1 dX6_readSum_127 (lv_at hl 1 rfl) ?_
                              refine lv_bipush (v := 43) X.1 X.2.1 dX6_readSum_129 (by decide +kernel) ?_
                              refine lv_icmp_ne (tgt := 139) X.1 X.2.1 dX6_readSum_131 (by decide) (fun c43 => ?_) (fun c43 => ?_)
                              · have i44 : (vC (sgT1 P) (sgL1 P) a4 = (43 : Int)) = False := vq_ne c43 hf8 (by decide +kernel)
                                exact ((c43 (iv_one (iv_eqm (a' := 43) (b' := 43) c34 yf8 (iv_c 43 (a := 43) (b := 43) (by decide +kernel)) (by decide +kernel)) (iv_c 43 (a := 43) (b := 43) (by decide +kernel)) (by decide +kernel)))).elim
                              · have i45 : vC (sgT1 P) (sgL1 P) a4 = (43 : Int) := vq_eq c43 hf8 (by decide +kernel)
                                refine lv_bipush (v := (-10)) X.1 X.2.1 dX6_readSum_134 (by decide +kernel) ?_
                                refine lv_goto (tgt := 141) X.1 X.2.1 dX6_readSum_136 (by decide) ?_
                                refine lv_istore_n (lv' := [(3, .int (-10)), (6, .int 0), (5, .int f8), (0, .ref a0), (1, .ref a1), (2, .int x2), (4, .int z4_4)]) X.1 X.2.1 dX6_readSum_141 rfl hl (by decide) rfl (fun ls hl => ?_)
                                obtain ⟨y46, ey46⟩ : ∃ y : Int32, y = z4_4 + Int32.ofInt 1 := ⟨_, rfl⟩
                                have xy46 : y46.toInt = (z4_4.toInt + 1) := sg_exadd ey46 (iv_lt (b' := 239) (iv_gt_of c5) hz4_4 (iv_c 240 (a := 240) (b := 240) (by decide +kernel)) (by decide +kernel)) (iv_c _ (a := 1) (b := 1) (by decide +kernel)) (by decide +kernel) rfl (by decide +kernel)
                                refine lv_iinc (v := y46) (lv' := [(4, .int y46), (3, .int (-10)), (6, .int 0), (5, .int f8), (0, .ref a0), (1, .ref a1), (2, .int x2)]) X.1 X.2.1 dX6_readSum_142 hl (k := 6) rfl ey46.symm (by decide) rfl (fun ls hl => ?_)
                                refine lv_goto (tgt := 16) X.1 X.2.1 dX6_readSum_145 (by decide) ?_
                                exact ih4 H _ _ (-10) y46 (av40) (bv40).1 (bv40).2 (vq_pgw p2v40 (by decide)) hG hS (lv_sub hl [4, 5, 6, 1, 0] rfl) (iv_of (iv_c (-10) (a := (-10)) (b := (-10)) (by decide +kernel)) (a' := (-100)) (b' := 0) (by decide +kernel)) (iv_of (iv_add (a' := 1) (b' := 240) ey46 (iv_lt (b' := 239) (iv_gt_of c5) hz4_4 (iv_c 240 (a := 240) (b := 240) (by decide +kernel)) (by decide +kernel)) (iv_c _ (a := 1) (b := 1) (by decide +kernel)) (by decide +kernel)) (a' := 0) (b' := 240) (by decide +kernel)) ⟨xf4.1.trans (vL_step (opS_43 i45) pv40 (vq_l1 (vX_ge (sgT1 P) (sgL1 P) (a4 + 1)).1 gav40) (vC_lt (b := sgT1 P) (n := sgL1 P) (by rw [i45]; decide)).2), vq_z1 xf4.2 xy46 (vX_ge (sgT1 P) (sgL1 P) (a4 + 1)).1 gav40⟩ (iv_stepU ey46 (iv_lt (b' := 239) (iv_gt_of c5) hz4_4 (iv_c 240 (a := 240) (b := 240) (by decide +kernel)) (by decide +kernel)) (by decide +kernel) hN4)
                            · exact ((c42 (iv_one (iv_c 0 (a := 0) (b := 0) (by decide +kernel)) (iv_c 0 (a := 0) (b := 0) (by decide +kernel)) (by decide +kernel)))).elim
                          · exact ((iv_no (a := 1) (b := 0) (iv_eqm c41 (iv_c 1 (a := 1) (b := 1) (by decide +kernel)) (iv_c 0 (a := 0) (b := 0) (by decide +kernel)) (by decide +kernel)) (by decide +kernel))).elim
                        · have hG := hBf39.2.2.2
                          rw [htf39] at hG
                          refine lv_if_ne (tgt := 101) X.1 X.2.1 dX6_readSum_96 (by decide) (fun c47 => ?_) (fun c47 => ?_)
                          · exact ((c47 (iv_one (iv_c 0 (a := 0) (b := 0) (by decide +kernel)) (iv_c 0 (a := 0) (b := 0) (by decide +kernel)) (by decide +kernel)))).elim
                          · refine lv_iconst (v := 0) X.1 X.2.1 dX6_readSum_99 (by decide +kernel) ?_
                            have spr : vSum (sgT1 P) (sgL1 P) 4 a = (false, wv40) := by exact xf4.1.trans (vL_bad (opS_43 i35) pv40)
                            have hG := ka_weak (b1 := 0) (b2 := 240) (c1 := wv40) (c2 := wv40) hG (by omega) (by omega) (Int.le_refl _) (Int.le_refl _)
                            exact sg_zret2 X hr (sg_zn (iv_of (iv_c 0 (a := 0) (b := 0) (by decide +kernel)) (a' := 0) (b' := 1) (by decide +kernel))) hlk hS (iv_of (iv_c 0 (a := 0) (b := 0) (by decide +kernel)) (a' := 0) (b' := 1) (by decide +kernel)) (fun t ht hW => (Or.inr ⟨rfl, _, spr, sg_post hb hK hC hG hS ht hW⟩)) dX6_readSum_100
                      · have i36 : (vC (sgT1 P) (sgL1 P) a4 = (43 : Int)) = False := vq_ne c34 hf8 (by decide +kernel)
                        refine lv_iload X.1 X.2.1 dX6_readSum_77 (lv_at hl 1 rfl) ?_
                        refine lv_bipush (v := 45) X.1 X.2.1 dX6_readSum_79 (by decide +kernel) ?_
                        refine lv_icmp_eq (tgt := 86) X.1 X.2.1 dX6_readSum_81 (by decide) (fun c48 => ?_) (fun c48 => ?_)
                        · have i49 : vC (sgT1 P) (sgL1 P) a4 = (45 : Int) := vq_eq c48 hf8 (by decide +kernel)
                          refine lv_aload_n X.1 X.2.1 dX6_readSum_86 rfl (lv_at hl 3 rfl) ?_
                          refine ca_X10_step_v X hK hG hC hS hb a1 h1 hl0 (vC_lt (b := sgT1 P) (by rw [i49]; decide)) wl_3_229 hl.1 (rest := []) rfl (Nat.le_of_ble_eq_true rfl) ⟨Nat.le_of_ble_eq_true rfl, Nat.le_of_ble_eq_true rfl⟩ ⟨Nat.le_of_ble_eq_true rfl, Nat.le_of_ble_eq_true rfl⟩ dX6_readSum_87 (fun tg51 H locs htg51 hWg51 hS => ?_)
                          have b52 := vC_lt (b := sgT1 P) (n := sgL1 P) (a := a4) (by rw [i49]; decide)
                          have bb52 := vq_bdX (b := sgT1 P) b52
                          have pb52 : a + 2 ≤ vX (sgT1 P) (sgL1 P) (a4 + 1) := vq_pg jk4 (m := 1) (vX_ge (sgT1 P) (sgL1 P) (a4 + 1)).1 (by decide)
                          have hG := hWg51.2.2.2
                          rw [htg51] at hG
                          refine lv_aload_n X.1 X.2.1 dX6_readSum_90 rfl (lv_at hl 2 rfl) ?_
                          refine lv_aload_n X.1 X.2.1 dX6_readSum_91 rfl (lv_at hl 3 rfl) ?_
                          refine lv_iload_n X.1 X.2.1 dX6_readSum_92 rfl (lv_at hl 4 rfl) ?_
                          refine ca_X6_readAtom_v2 X hK hG hC hS hb a0 h0 a1 h1 x2 h2 hl0 bb52 hby wl_3_224 hl.1 (rest := []) rfl (Nat.le_of_ble_eq_true rfl) ⟨Nat.le_of_ble_eq_true rfl, Nat.le_of_ble_eq_true rfl⟩ ⟨Nat.le_of_ble_eq_true rfl, Nat.le_of_ble_eq_true rfl⟩ dX6_readSum_93 (fun f53 tf53 H locs htf53 hf53 hWf53 hS => ?_)
                          rcases hWf53 with ⟨rfl, av54, pv54, gav54, gbv54, hBf53⟩ | ⟨rfl, wv54, pv54, hBf53⟩
                          · have hG := hBf53.2.2.2
                            rw [htf53] at hG
                            have bv54 := vq_bd2 (k := 1) bb52 (by decide) gav54 gbv54
                            have p2v54 : a + 3 ≤ av54 := vq_pg pb52 gav54 (by decide)
                            refine lv_if_ne (tgt := 101) X.1 X.2.1 dX6_readSum_96 (by decide) (fun c55 => ?_) (fun c55 => ?_)
                            · refine lv_iload X.1 X.2.1 dX6_readSum_101 (lv_at hl 0 rfl) ?_
                              refine lv_if_eq (tgt := 127) X.1 X.2.1 dX6_readSum_103 (by decide) (fun c56 => ?_) (fun c56 => ?_)
                              · refine lv_iload X.1 X.2.1 dX6_readSum_127 (lv_at hl 1 rfl) ?_
                                refine lv_bipush (v := 43) X.1 X.2.1 dX6_readSum_129 (by decide +kernel) ?_
                                refine lv_icmp_ne (tgt := 139) X.1 X.2.1 dX6_readSum_131 (by decide) (fun c57 => ?_) (fun c57 => ?_)
                                · have i58 : (vC (sgT1 P) (sgL1 P) a4 = (43 : Int)) = False := vq_ne c57 hf8 (by decide +kernel)
                                  refine lv_bipush (v := (-11)) X.1 X.2.1 dX6_readSum_139 (by decide +kernel) ?_
                                  refine lv_istore_n (lv' := [(3, .int (-11)), (6, .int 0), (5, .int f8), (0, .ref a0), (1, .ref a1), (2, .int x2), (4, .int z4_4)]) X.1 X.2.1 dX6_readSum_141 rfl hl (by decide) rfl (fun ls hl => ?_)
                                  obtain ⟨y60, ey60⟩ : ∃ y : Int32, y = z4_4 + Int32.ofInt 1 := ⟨_, rfl⟩
                                  have xy60 : y60.toInt = (z4_4.toInt + 1) := sg_exadd ey60 (iv_lt (b' := 239) (iv_gt_of c5) hz4_4 (iv_c 240 (a := 240) (b := 240) (by decide +kernel)) (by decide +kernel)) (iv_c _ (a := 1) (b := 1) (by decide +kernel)) (by decide +kernel) rfl (by decide +kernel)
                                  refine lv_iinc (v := y60) (lv' := [(4, .int y60), (3, .int (-11)), (6, .int 0), (5, .int f8), (0, .ref a0), (1, .ref a1), (2, .int x2)]) X.1 X.2.1 dX6_readSum_142 hl (k := 6) rfl ey60.symm (by decide) rfl (fun ls hl => ?_)
                                  refine lv_goto (tgt := 16) X.1 X.2.1 dX6_readSum_145 (by decide) ?_
                                  exact ih4 H _ _ (-11) y60 (av54) (bv54).1 (bv54).2 (vq_pgw p2v54 (by decide)) hG hS (lv_sub hl [4, 5, 6, 1, 0] rfl) (iv_of (iv_c (-11) (a := (-11)) (b := (-11)) (by decide +kernel)) (a' := (-100)) (b' := 0) (by decide +kernel)) (iv_of (iv_add (a' := 1) (b' := 240) ey60 (iv_lt (b' := 239) (iv_gt_of c5) hz4_4 (iv_c 240 (a := 240) (b := 240) (by decide +kernel)) (by decide +kernel)) (iv_c _ (a := 1) (b := 1) (by decide +kernel)) (by decide +kernel)) (a' := 0) (b' := 240) (by decide +kernel)) ⟨xf4.1.trans (vL_step (opS_45 i49) pv54 (vq_l1 (vX_ge (sgT1 P) (sgL1 P) (a4 + 1)).1 gav54) (vC_lt (b := sgT1 P) (n := sgL1 P) (by rw [i49]; decide)).2), vq_z1 xf4.2 xy60 (vX_ge (sgT1 P) (sgL1 P) (a4 + 1)).1 gav54⟩ (iv_stepU ey60 (iv_lt (b' := 239) (iv_gt_of c5) hz4_4 (iv_c 240 (a := 240) (b := 240) (by decide +kernel)) (by decide +kernel)) (by decide +kernel) hN4)
                                · have i59 : vC (sgT1 P) (sgL1 P) a4 = (43 : Int) := vq_eq c57 hf8 (by decide +kernel)
                                  exact ((iv_no (a := 45) (b := 43) (iv_eqm c57 (iv_eqm (a' := 45) (b' := 45) c48 yf8 (iv_c 45 (a := 45) (b := 45) (by decide +kernel)) (by decide +kernel)) (iv_c 43 (a := 43) (b := 43) (by decide +kernel)) (by decide +kernel)) (by decide +kernel))).elim
                              · exact ((c56 (iv_one (iv_c 0 (a := 0) (b := 0) (by decide +kernel)) (iv_c 0 (a := 0) (b := 0) (by decide +kernel)) (by decide +kernel)))).elim
                            · exact ((iv_no (a := 1) (b := 0) (iv_eqm c55 (iv_c 1 (a := 1) (b := 1) (by decide +kernel)) (iv_c 0 (a := 0) (b := 0) (by decide +kernel)) (by decide +kernel)) (by decide +kernel))).elim
                          · have hG := hBf53.2.2.2
                            rw [htf53] at hG
                            refine lv_if_ne (tgt := 101) X.1 X.2.1 dX6_readSum_96 (by decide) (fun c61 => ?_) (fun c61 => ?_)
                            · exact ((c61 (iv_one (iv_c 0 (a := 0) (b := 0) (by decide +kernel)) (iv_c 0 (a := 0) (b := 0) (by decide +kernel)) (by decide +kernel)))).elim
                            · refine lv_iconst (v := 0) X.1 X.2.1 dX6_readSum_99 (by decide +kernel) ?_
                              have spr : vSum (sgT1 P) (sgL1 P) 4 a = (false, wv54) := by exact xf4.1.trans (vL_bad (opS_45 i49) pv54)
                              have hG := ka_weak (b1 := 0) (b2 := 240) (c1 := wv54) (c2 := wv54) hG (by omega) (by omega) (Int.le_refl _) (Int.le_refl _)
                              exact sg_zret2 X hr (sg_zn (iv_of (iv_c 0 (a := 0) (b := 0) (by decide +kernel)) (a' := 0) (b' := 1) (by decide +kernel))) hlk hS (iv_of (iv_c 0 (a := 0) (b := 0) (by decide +kernel)) (a' := 0) (b' := 1) (by decide +kernel)) (fun t ht hW => (Or.inr ⟨rfl, _, spr, sg_post hb hK hC hG hS ht hW⟩)) dX6_readSum_100
                        · have i50 : (vC (sgT1 P) (sgL1 P) a4 = (45 : Int)) = False := vq_ne c48 hf8 (by decide +kernel)
                          refine lv_iconst (v := 1) X.1 X.2.1 dX6_readSum_84 (by decide +kernel) ?_
                          have spr : vSum (sgT1 P) (sgL1 P) 4 a = (true, a4) := by exact xf4.1.trans (vL_stop (opS_no i11 i27 i36 i50))
                          exact sg_zret2 X hr (sg_zn (iv_of (iv_c 1 (a := 1) (b := 1) (by decide +kernel)) (a' := 0) (b' := 1) (by decide +kernel))) hlk hS (iv_of (iv_c 1 (a := 1) (b := 1) (by decide +kernel)) (a' := 0) (b' := 1) (by decide +kernel)) (fun t ht hW => (Or.inl ⟨rfl, _, spr, vq_pgw jk4 (by decide), ((And.intro jl4 jm4)).2, sg_post hb hK hC hG hS ht hW⟩)) dX6_readSum_85
                  · have i32 : (z4_3.toInt = (0 : Int)) = False := vq_ne c30 rfl (by decide +kernel)
                    refine lv_aload_n X.1 X.2.1 dX6_readSum_60 rfl (lv_at hl 2 rfl) ?_
                    refine lv_iload_n X.1 X.2.1 dX6_readSum_61 rfl (lv_at hl 5 rfl) ?_
                    refine ca_X6_put_v X hK hG hC hS hb a0 h0 z4_3 wl_3_232 hl.1 (rest := []) rfl (Nat.le_of_ble_eq_true rfl) ⟨Nat.le_of_ble_eq_true rfl, Nat.le_of_ble_eq_true rfl⟩ ⟨Nat.le_of_ble_eq_true rfl, Nat.le_of_ble_eq_true rfl⟩ dX6_readSum_62 (fun H locs hG hS => ?_)
                    refine lv_iload X.1 X.2.1 dX6_readSum_65 (lv_at hl 0 rfl) ?_
                    refine lv_if_ne (tgt := 86) X.1 X.2.1 dX6_readSum_67 (by decide) (fun c63 => ?_) (fun c63 => ?_)
                    · exact ((c63 (iv_one (iv_c 0 (a := 0) (b := 0) (by decide +kernel)) (iv_c 0 (a := 0) (b := 0) (by decide +kernel)) (by decide +kernel)))).elim
                    · refine lv_iload X.1 X.2.1 dX6_readSum_70 (lv_at hl 1 rfl) ?_
                      refine lv_bipush (v := 43) X.1 X.2.1 dX6_readSum_72 (by decide +kernel) ?_
                      refine lv_icmp_eq (tgt := 86) X.1 X.2.1 dX6_readSum_74 (by decide) (fun c64 => ?_) (fun c64 => ?_)
                      · have i65 : vC (sgT1 P) (sgL1 P) a4 = (43 : Int) := vq_eq c64 hf8 (by decide +kernel)
                        refine lv_aload_n X.1 X.2.1 dX6_readSum_86 rfl (lv_at hl 3 rfl) ?_
                        refine ca_X10_step_v X hK hG hC hS hb a1 h1 hl0 (vC_lt (b := sgT1 P) (by rw [i65]; decide)) wl_3_229 hl.1 (rest := []) rfl (Nat.le_of_ble_eq_true rfl) ⟨Nat.le_of_ble_eq_true rfl, Nat.le_of_ble_eq_true rfl⟩ ⟨Nat.le_of_ble_eq_true rfl, Nat.le_of_ble_eq_true rfl⟩ dX6_readSum_87 (fun tg67 H locs htg67 hWg67 hS => ?_)
                        have b68 := vC_lt (b := sgT1 P) (n := sgL1 P) (a := a4) (by rw [i65]; decide)
                        have bb68 := vq_bdX (b := sgT1 P) b68
                        have pb68 : a + 2 ≤ vX (sgT1 P) (sgL1 P) (a4 + 1) := vq_pg jk4 (m := 1) (vX_ge (sgT1 P) (sgL1 P) (a4 + 1)).1 (by decide)
                        have hG := hWg67.2.2.2
                        rw [htg67] at hG
                        refine lv_aload_n X.1 X.2.1 dX6_readSum_90 rfl (lv_at hl 2 rfl) ?_
                        refine lv_aload_n X.1 X.2.1 dX6_readSum_91 rfl (lv_at hl 3 rfl) ?_
                        refine lv_iload_n X.1 X.2.1 dX6_readSum_92 rfl (lv_at hl 4 rfl) ?_
                        refine ca_X6_readAtom_v2 X hK hG hC hS hb a0 h0 a1 h1 x2 h2 hl0 bb68 hby wl_3_224 hl.1 (rest := []) rfl (Nat.le_of_ble_eq_true rfl) ⟨Nat.le_of_ble_eq_true rfl, Nat.le_of_ble_eq_true rfl⟩ ⟨Nat.le_of_ble_eq_true rfl, Nat.le_of_ble_eq_true rfl⟩ dX6_readSum_93 (fun f69 tf69 H locs htf69 hf69 hWf69 hS => ?_)
                        rcases hWf69 with ⟨rfl, av70, pv70, gav70, gbv70, hBf69⟩ | ⟨rfl, wv70, pv70, hBf69⟩
                        · have hG := hBf69.2.2.2
                          rw [htf69] at hG
                          have bv70 := vq_bd2 (k := 1) bb68 (by decide) gav70 gbv70
                          have p2v70 : a + 3 ≤ av70 := vq_pg pb68 gav70 (by decide)
                          refine lv_if_ne (tgt := 101) X.1 X.2.1 dX6_readSum_96 (by decide) (fun c71 => ?_) (fun c71 => ?_)
                          · refine lv_iload X.1 X.2.1 dX6_readSum_101 (lv_at hl 0 rfl) ?_
                            refine lv_if_eq (tgt := 127) X.1 X.2.1 dX6_readSum_103 (by decide) (fun c72 => ?_) (fun c72 => ?_)
                            · refine lv_iload X.1 X.2.1 dX6_readSum_127 (lv_at hl 1 rfl) ?_
                              refine lv_bipush (v := 43) X.1 X.2.1 dX6_readSum_129 (by decide +kernel) ?_
                              refine lv_icmp_ne (tgt := 139) X.1 X.2.1 dX6_readSum_131 (by decide) (fun c73 => ?_) (fun c73 => ?_)
                              · have i74 : (vC (sgT1 P) (sgL1 P) a4 = (43 : Int)) = False := vq_ne c73 hf8 (by decide +kernel)
                                exact ((c73 (iv_one (iv_eqm (a' := 43) (b' := 43) c64 yf8 (iv_c 43 (a := 43) (b := 43) (by decide +kernel)) (by decide +kernel)) (iv_c 43 (a := 43) (b := 43) (by decide +kernel)) (by decide +kernel)))).elim
                              · have i75 : vC (sgT1 P) (sgL1 P) a4 = (43 : Int) := vq_eq c73 hf8 (by decide +kernel)
                                refine lv_bipush (v := (-10)) X.1 X.2.1 dX6_readSum_134 (by decide +kernel) ?_
                                refine lv_goto (tgt := 141) X.1 X.2.1 dX6_readSum_136 (by decide) ?_
                                refine lv_istore_n (lv' := [(3, .int (-10)), (6, .int 0), (5, .int f8), (0, .ref a0), (1, .ref a1), (2, .int x2), (4, .int z4_4)]) X.1 X.2.1 dX6_readSum_141 rfl hl (by decide) rfl (fun ls hl => ?_)
                                obtain ⟨y76, ey76⟩ : ∃ y : Int32, y = z4_4 + Int32.ofInt 1 := ⟨_, rfl⟩
                                have xy76 : y76.toInt = (z4_4.toInt + 1) := sg_exadd ey76 (iv_lt (b' := 239) (iv_gt_of c5) hz4_4 (iv_c 240 (a := 240) (b := 240) (by decide +kernel)) (by decide +kernel)) (iv_c _ (a := 1) (b := 1) (by decide +kernel)) (by decide +kernel) rfl (by decide +kernel)
                                refine lv_iinc (v := y76) (lv' := [(4, .int y76), (3, .int (-10)), (6, .int 0), (5, .int f8), (0, .ref a0), (1, .ref a1), (2, .int x2)]) X.1 X.2.1 dX6_readSum_142 hl (k := 6) rfl ey76.symm (by decide) rfl (fun ls hl => ?_)
                                refine lv_goto (tgt := 16) X.1 X.2.1 dX6_readSum_145 (by decide) ?_
                                exact ih4 H _ _ (-10) y76 (av70) (bv70).1 (bv70).2 (vq_pgw p2v70 (by decide)) hG hS (lv_sub hl [4, 5, 6, 1, 0] rfl) (iv_of (iv_c (-10) (a := (-10)) (b := (-10)) (by decide +kernel)) (a' := (-100)) (b' := 0) (by decide +kernel)) (iv_of (iv_add (a' := 1) (b' := 240) ey76 (iv_lt (b' := 239) (iv_gt_of c5) hz4_4 (iv_c 240 (a := 240) (b := 240) (by decide +kernel)) (by decide +kernel)) (iv_c _ (a := 1) (b := 1) (by decide +kernel)) (by decide +kernel)) (a' := 0) (b' := 240) (by decide +kernel)) ⟨xf4.1.trans (vL_step (opS_43 i75) pv70 (vq_l1 (vX_ge (sgT1 P) (sgL1 P) (a4 + 1)).1 gav70) (vC_lt (b := sgT1 P) (n := sgL1 P) (by rw [i75]; decide)).2), vq_z1 xf4.2 xy76 (vX_ge (sgT1 P) (sgL1 P) (a4 + 1)).1 gav70⟩ (iv_stepU ey76 (iv_lt (b' := 239) (iv_gt_of c5) hz4_4 (iv_c 240 (a := 240) (b := 240) (by decide +kernel)) (by decide +kernel)) (by decide +kernel) hN4)
                            · exact ((c72 (iv_one (iv_c 0 (a := 0) (b := 0) (by decide +kernel)) (iv_c 0 (a := 0) (b := 0) (by decide +kernel)) (by decide +kernel)))).elim
                          · exact ((iv_no (a := 1) (b := 0) (iv_eqm c71 (iv_c 1 (a := 1) (b := 1) (by decide +kernel)) (iv_c 0 (a := 0) (b := 0) (by decide +kernel)) (by decide +kernel)) (by decide +kernel))).elim
                        · have hG := hBf69.2.2.2
                          rw [htf69] at hG
                          refine lv_if_ne (tgt := 101) X.1 X.2.1 dX6_readSum_96 (by decide) (fun c77 => ?_) (fun c77 => ?_)
                          · exact ((c77 (iv_one (iv_c 0 (a := 0) (b := 0) (by decide +kernel)) (iv_c 0 (a := 0) (b := 0) (by decide +kernel)) (by decide +kernel)))).elim
                          · refine lv_iconst (v := 0) X.1 X.2.1 dX6_readSum_99 (by decide +kernel) ?_
                            have spr : vSum (sgT1 P) (sgL1 P) 4 a = (false, wv70) := by exact xf4.1.trans (vL_bad (opS_43 i65) pv70)
                            have hG := ka_weak (b1 := 0) (b2 := 240) (c1 := wv70) (c2 := wv70) hG (by omega) (by omega) (Int.le_refl _) (Int.le_refl _)
                            exact sg_zret2 X hr (sg_zn (iv_of (iv_c 0 (a := 0) (b := 0) (by decide +kernel)) (a' := 0) (b' := 1) (by decide +kernel))) hlk hS (iv_of (iv_c 0 (a := 0) (b := 0) (by decide +kernel)) (a' := 0) (b' := 1) (by decide +kernel)) (fun t ht hW => (Or.inr ⟨rfl, _, spr, sg_post hb hK hC hG hS ht hW⟩)) dX6_readSum_100
                      · have i66 : (vC (sgT1 P) (sgL1 P) a4 = (43 : Int)) = False := vq_ne c64 hf8 (by decide +kernel)
                        refine lv_iload X.1 X.2.1 dX6_readSum_77 (lv_at hl 1 rfl) ?_
                        refine lv_bipush (v := 45) X.1 X.2.1 dX6_readSum_79 (by decide +kernel) ?_
                        refine lv_icmp_eq (tgt := 86) X.1 X.2.1 dX6_readSum_81 (by decide) (fun c78 => ?_) (fun c78 => ?_)
                        · have i79 : vC (sgT1 P) (sgL1 P) a4 = (45 : Int) := vq_eq c78 hf8 (by decide +kernel)
                          refine lv_aload_n X.1 X.2.1 dX6_readSum_86 rfl (lv_at hl 3 rfl) ?_
                          refine ca_X10_step_v X hK hG hC hS hb a1 h1 hl0 (vC_lt (b := sgT1 P) (by rw [i79]; decide)) wl_3_229 hl.1 (rest := []) rfl (Nat.le_of_ble_eq_true rfl) ⟨Nat.le_of_ble_eq_true rfl, Nat.le_of_ble_eq_true rfl⟩ ⟨Nat.le_of_ble_eq_true rfl, Nat.le_of_ble_eq_true rfl⟩ dX6_readSum_87 (fun tg81 H locs htg81 hWg81 hS => ?_)
                          have b82 := vC_lt (b := sgT1 P) (n := sgL1 P) (a := a4) (by rw [i79]; decide)
                          have bb82 := vq_bdX (b := sgT1 P) b82
                          have pb82 : a + 2 ≤ vX (sgT1 P) (sgL1 P) (a4 + 1) := vq_pg jk4 (m := 1) (vX_ge (sgT1 P) (sgL1 P) (a4 + 1)).1 (by decide)
                          have hG := hWg81.2.2.2
                          rw [htg81] at hG
                          refine lv_aload_n X.1 X.2.1 dX6_readSum_90 rfl (lv_at hl 2 rfl) ?_
                          refine lv_aload_n X.1 X.2.1 dX6_readSum_91 rfl (lv_at hl 3 rfl) ?_
                          refine lv_iload_n X.1 X.2.1 dX6_readSum_92 rfl (lv_at hl 4 rfl) ?_
                          refine ca_X6_readAtom_v2 X hK hG hC hS hb a0 h0 a1 h1 x2 h2 hl0 bb82 hby wl_3_224 hl.1 (rest := []) rfl (Nat.le_of_ble_eq_true rfl) ⟨Nat.le_of_ble_eq_true rfl, Nat.le_of_ble_eq_true rfl⟩ ⟨Nat.le_of_ble_eq_true rfl, Nat.le_of_ble_eq_true rfl⟩ dX6_readSum_93 (fun f83 tf83 H locs htf83 hf83 hWf83 hS => ?_)
                          rcases hWf83 with ⟨rfl, av84, pv84, gav84, gbv84, hBf83⟩ | ⟨rfl, wv84, pv84, hBf83⟩
                          · have hG := hBf83.2.2.2
                            rw [htf83] at hG
                            have bv84 := vq_bd2 (k := 1) bb82 (by decide) gav84 gbv84
                            have p2v84 : a + 3 ≤ av84 := vq_pg pb82 gav84 (by decide)
                            refine lv_if_ne (tgt := 101) X.1 X.2.1 dX6_readSum_96 (by decide) (fun c85 => ?_) (fun c85 => ?_)
                            · refine lv_iload X.1 X.2.1 dX6_readSum_101 (lv_at hl 0 rfl) ?_
                              refine lv_if_eq (tgt := 127) X.1 X.2.1 dX6_readSum_103 (by decide) (fun c86 => ?_) (fun c86 => ?_)
                              · refine lv_iload X.1 X.2.1 dX6_readSum_127 (lv_at hl 1 rfl) ?_
                                refine lv_bipush (v := 43) X.1 X.2.1 dX6_readSum_129 (by decide +kernel) ?_
                                refine lv_icmp_ne (tgt := 139) X.1 X.2.1 dX6_readSum_131 (by decide) (fun c87 => ?_) (fun c87 => ?_)
                                · have i88 : (vC (sgT1 P) (sgL1 P) a4 = (43 : Int)) = False := vq_ne c87 hf8 (by decide +kernel)
                                  refine lv_bipush (v := (-11)) X.1 X.2.1 dX6_readSum_139 (by decide +kernel) ?_
                                  refine lv_istore_n (lv' := [(3, .int (-11)), (6, .int 0), (5, .int f8), (0, .ref a0), (1, .ref a1), (2, .int x2), (4, .int z4_4)]) X.1 X.2.1 dX6_readSum_141 rfl hl (by decide) rfl (fun ls hl => ?_)
                                  obtain ⟨y90, ey90⟩ : ∃ y : Int32, y = z4_4 + Int32.ofInt 1 := ⟨_, rfl⟩
                                  have xy90 : y90.toInt = (z4_4.toInt + 1) := sg_exadd ey90 (iv_lt (b' := 239) (iv_gt_of c5) hz4_4 (iv_c 240 (a := 240) (b := 240) (by decide +kernel)) (by decide +kernel)) (iv_c _ (a := 1) (b := 1) (by decide +kernel)) (by decide +kernel) rfl (by decide +kernel)
                                  refine lv_iinc (v := y90) (lv' := [(4, .int y90), (3, .int (-11)), (6, .int 0), (5, .int f8), (0, .ref a0), (1, .ref a1), (2, .int x2)]) X.1 X.2.1 dX6_readSum_142 hl (k := 6) rfl ey90.symm (by decide) rfl (fun ls hl => ?_)
                                  refine lv_goto (tgt := 16) X.1 X.2.1 dX6_readSum_145 (by decide) ?_
                                  exact ih4 H _ _ (-11) y90 (av84) (bv84).1 (bv84).2 (vq_pgw p2v84 (by decide)) hG hS (lv_sub hl [4, 5, 6, 1, 0] rfl) (iv_of (iv_c (-11) (a := (-11)) (b := (-11)) (by decide +kernel)) (a' := (-100)) (b' := 0) (by decide +kernel)) (iv_of (iv_add (a' := 1) (b' := 240) ey90 (iv_lt (b' := 239) (iv_gt_of c5) hz4_4 (iv_c 240 (a := 240) (b := 240) (by decide +kernel)) (by decide +kernel)) (iv_c _ (a := 1) (b := 1) (by decide +kernel)) (by decide +kernel)) (a' := 0) (b' := 240) (by decide +kernel)) ⟨xf4.1.trans (vL_step (opS_45 i79) pv84 (vq_l1 (vX_ge (sgT1 P) (sgL1 P) (a4 + 1)).1 gav84) (vC_lt (b := sgT1 P) (n := sgL1 P) (by rw [i79]; decide)).2), vq_z1 xf4.2 xy90 (vX_ge (sgT1 P) (sgL1 P) (a4 + 1)).1 gav84⟩ (iv_stepU ey90 (iv_lt (b' := 239) (iv_gt_of c5) hz4_4 (iv_c 240 (a := 240) (b := 240) (by decide +kernel)) (by decide +kernel)) (by decide +kernel) hN4)
                                · have i89 : vC (sgT1 P) (sgL1 P) a4 = (43 : Int) := vq_eq c87 hf8 (by decide +kernel)
                                  exact ((iv_no (a := 45) (b := 43) (iv_eqm c87 (iv_eqm (a' := 45) (b' := 45) c78 yf8 (iv_c 45 (a := 45) (b := 45) (by decide +kernel)) (by decide +kernel)) (iv_c 43 (a := 43) (b := 43) (by decide +kernel)) (by decide +kernel)) (by decide +kernel))).elim
                              · exact ((c86 (iv_one (iv_c 0 (a := 0) (b := 0) (by decide +kernel)) (iv_c 0 (a := 0) (b := 0) (by decide +kernel)) (by decide +kernel)))).elim
                            · exact ((iv_no (a := 1) (b := 0) (iv_eqm c85 (iv_c 1 (a := 1) (b := 1) (by decide +kernel)) (iv_c 0 (a := 0) (b := 0) (by decide +kernel)) (by decide +kernel)) (by decide +kernel))).elim
                          · have hG := hBf83.2.2.2
                            rw [htf83] at hG
                            refine lv_if_ne (tgt := 101) X.1 X.2.1 dX6_readSum_96 (by decide) (fun c91 => ?_) (fun c91 => ?_)
                            · exact ((c91 (iv_one (iv_c 0 (a := 0) (b := 0) (by decide +kernel)) (iv_c 0 (a := 0) (b := 0) (by decide +kernel)) (by decide +kernel)))).elim
                            · refine lv_iconst (v := 0) X.1 X.2.1 dX6_readSum_99 (by decide +kernel) ?_
                              have spr : vSum (sgT1 P) (sgL1 P) 4 a = (false, wv84) := by exact xf4.1.trans (vL_bad (opS_45 i79) pv84)
                              have hG := ka_weak (b1 := 0) (b2 := 240) (c1 := wv84) (c2 := wv84) hG (by omega) (by omega) (Int.le_refl _) (Int.le_refl _)
                              exact sg_zret2 X hr (sg_zn (iv_of (iv_c 0 (a := 0) (b := 0) (by decide +kernel)) (a' := 0) (b' := 1) (by decide +kernel))) hlk hS (iv_of (iv_c 0 (a := 0) (b := 0) (by decide +kernel)) (a' := 0) (b' := 1) (by decide +kernel)) (fun t ht hW => (Or.inr ⟨rfl, _, spr, sg_post hb hK hC hG hS ht hW⟩)) dX6_readSum_100
                        · have i80 : (vC (sgT1 P) (sgL1 P) a4 = (45 : Int)) = False := vq_ne c78 hf8 (by decide +kernel)
                          refine lv_iconst (v := 1) X.1 X.2.1 dX6_readSum_84 (by decide +kernel) ?_
                          have spr : vSum (sgT1 P) (sgL1 P) 4 a = (true, a4) := by exact xf4.1.trans (vL_stop (opS_no i11 i27 i66 i80))
                          exact sg_zret2 X hr (sg_zn (iv_of (iv_c 1 (a := 1) (b := 1) (by decide +kernel)) (a' := 0) (b' := 1) (by decide +kernel))) hlk hS (iv_of (iv_c 1 (a := 1) (b := 1) (by decide +kernel)) (a' := 0) (b' := 1) (by decide +kernel)) (fun t ht hW => (Or.inl ⟨rfl, _, spr, vq_pgw jk4 (by decide), ((And.intro jl4 jm4)).2, sg_post hb hK hC hG hS ht hW⟩)) dX6_readSum_85
              · have i28 : vC (sgT1 P) (sgL1 P) a4 = (47 : Int) := vq_eq c26 hf8 (by decide +kernel)
                refine lv_iconst (v := 1) X.1 X.2.1 dX6_readSum_44 (by decide +kernel) ?_
                refine lv_goto (tgt := 49) X.1 X.2.1 dX6_readSum_45 (by decide) ?_
                refine lv_istore (lv' := [(6, .int 1), (5, .int f8), (0, .ref a0), (1, .ref a1), (2, .int x2), (3, .int z4_3), (4, .int z4_4)]) X.1 X.2.1 dX6_readSum_49 hl (by decide) rfl (fun ls hl => ?_)
                refine lv_iload X.1 X.2.1 dX6_readSum_51 (lv_at hl 0 rfl) ?_
                refine lv_if_ne (tgt := 65) X.1 X.2.1 dX6_readSum_53 (by decide) (fun c92 => ?_) (fun c92 => ?_)
                · refine lv_iload X.1 X.2.1 dX6_readSum_65 (lv_at hl 0 rfl) ?_
                  refine lv_if_ne (tgt := 86) X.1 X.2.1 dX6_readSum_67 (by decide) (fun c93 => ?_) (fun c93 => ?_)
                  · refine lv_aload_n X.1 X.2.1 dX6_readSum_86 rfl (lv_at hl 3 rfl) ?_
                    refine ca_X10_step_v X hK hG hC hS hb a1 h1 hl0 (vC_lt (b := sgT1 P) (by rw [i28]; decide)) wl_3_229 hl.1 (rest := []) rfl (Nat.le_of_ble_eq_true rfl) ⟨Nat.le_of_ble_eq_true rfl, Nat.le_of_ble_eq_true rfl⟩ ⟨Nat.le_of_ble_eq_true rfl, Nat.le_of_ble_eq_true rfl⟩ dX6_readSum_87 (fun tg94 H locs htg94 hWg94 hS => ?_)
                    have b95 := vC_lt (b := sgT1 P) (n := sgL1 P) (a := a4) (by rw [i28]; decide)
                    have bb95 := vq_bdX (b := sgT1 P) b95
                    have pb95 : a + 2 ≤ vX (sgT1 P) (sgL1 P) (a4 + 1) := vq_pg jk4 (m := 1) (vX_ge (sgT1 P) (sgL1 P) (a4 + 1)).1 (by decide)
                    have hG := hWg94.2.2.2
                    rw [htg94] at hG
                    refine lv_aload_n X.1 X.2.1 dX6_readSum_90 rfl (lv_at hl 2 rfl) ?_
                    refine lv_aload_n X.1 X.2.1 dX6_readSum_91 rfl (lv_at hl 3 rfl) ?_
                    refine lv_iload_n X.1 X.2.1 dX6_readSum_92 rfl (lv_at hl 4 rfl) ?_
                    refine ca_X6_readAtom_v2 X hK hG hC hS hb a0 h0 a1 h1 x2 h2 hl0 bb95 hby wl_3_224 hl.1 (rest := []) rfl (Nat.le_of_ble_eq_true rfl) ⟨Nat.le_of_ble_eq_true rfl, Nat.le_of_ble_eq_true rfl⟩ ⟨Nat.le_of_ble_eq_true rfl, Nat.le_of_ble_eq_true rfl⟩ dX6_readSum_93 (fun f96 tf96 H locs htf96 hf96 hWf96 hS => ?_)
                    rcases hWf96 with ⟨rfl, av97, pv97, gav97, gbv97, hBf96⟩ | ⟨rfl, wv97, pv97, hBf96⟩
                    · have hG := hBf96.2.2.2
                      rw [htf96] at hG
                      have bv97 := vq_bd2 (k := 1) bb95 (by decide) gav97 gbv97
                      have p2v97 : a + 3 ≤ av97 := vq_pg pb95 gav97 (by decide)
                      refine lv_if_ne (tgt := 101) X.1 X.2.1 dX6_readSum_96 (by decide) (fun c98 => ?_) (fun c98 => ?_)
                      · refine lv_iload X.1 X.2.1 dX6_readSum_101 (lv_at hl 0 rfl) ?_
                        refine lv_if_eq (tgt := 127) X.1 X.2.1 dX6_readSum_103 (by decide) (fun c99 => ?_) (fun c99 => ?_)
                        · exact ((iv_no (a := 1) (b := 0) (iv_eqm c99 (iv_c 1 (a := 1) (b := 1) (by decide +kernel)) (iv_c 0 (a := 0) (b := 0) (by decide +kernel)) (by decide +kernel)) (by decide +kernel))).elim
                        · refine lv_aload_n X.1 X.2.1 dX6_readSum_106 rfl (lv_at hl 2 rfl) ?_
                          refine lv_iload X.1 X.2.1 dX6_readSum_107 (lv_at hl 1 rfl) ?_
                          refine lv_bipush (v := 42) X.1 X.2.1 dX6_readSum_109 (by decide +kernel) ?_
                          refine lv_icmp_ne (tgt := 119) X.1 X.2.1 dX6_readSum_111 (by decide) (fun c100 => ?_) (fun c100 => ?_)
                          · have i101 : (vC (sgT1 P) (sgL1 P) a4 = (42 : Int)) = False := vq_ne c100 hf8 (by decide +kernel)
                            refine lv_bipush (v := (-13)) X.1 X.2.1 dX6_readSum_119 (by decide +kernel) ?_
                            refine ca_X6_put_v X hK hG hC hS hb a0 h0 (-13) wl_3_232 hl.1 (rest := []) rfl (Nat.le_of_ble_eq_true rfl) ⟨Nat.le_of_ble_eq_true rfl, Nat.le_of_ble_eq_true rfl⟩ ⟨Nat.le_of_ble_eq_true rfl, Nat.le_of_ble_eq_true rfl⟩ dX6_readSum_121 (fun H locs hG hS => ?_)
                            refine lv_goto (tgt := 142) X.1 X.2.1 dX6_readSum_124 (by decide) ?_
                            obtain ⟨y104, ey104⟩ : ∃ y : Int32, y = z4_4 + Int32.ofInt 1 := ⟨_, rfl⟩
                            have xy104 : y104.toInt = (z4_4.toInt + 1) := sg_exadd ey104 (iv_lt (b' := 239) (iv_gt_of c5) hz4_4 (iv_c 240 (a := 240) (b := 240) (by decide +kernel)) (by decide +kernel)) (iv_c _ (a := 1) (b := 1) (by decide +kernel)) (by decide +kernel) rfl (by decide +kernel)
                            refine lv_iinc (v := y104) (lv' := [(4, .int y104), (6, .int 1), (5, .int f8), (0, .ref a0), (1, .ref a1), (2, .int x2), (3, .int z4_3)]) X.1 X.2.1 dX6_readSum_142 hl (k := 6) rfl ey104.symm (by decide) rfl (fun ls hl => ?_)
                            refine lv_goto (tgt := 16) X.1 X.2.1 dX6_readSum_145 (by decide) ?_
                            exact ih4 H _ _ z4_3 y104 (av97) (bv97).1 (bv97).2 (vq_pgw p2v97 (by decide)) hG hS (lv_sub hl [3, 4, 5, 6, 0] rfl) hz4_3 (iv_of (iv_add (a' := 1) (b' := 240) ey104 (iv_lt (b' := 239) (iv_gt_of c5) hz4_4 (iv_c 240 (a := 240) (b := 240) (by decide +kernel)) (by decide +kernel)) (iv_c _ (a := 1) (b := 1) (by decide +kernel)) (by decide +kernel)) (a' := 0) (b' := 240) (by decide +kernel)) ⟨xf4.1.trans (vL_step (opS_47 i28) pv97 (vq_l1 (vX_ge (sgT1 P) (sgL1 P) (a4 + 1)).1 gav97) (vC_lt (b := sgT1 P) (n := sgL1 P) (by rw [i28]; decide)).2), vq_z1 xf4.2 xy104 (vX_ge (sgT1 P) (sgL1 P) (a4 + 1)).1 gav97⟩ (iv_stepU ey104 (iv_lt (b' := 239) (iv_gt_of c5) hz4_4 (iv_c 240 (a := 240) (b := 240) (by decide +kernel)) (by decide +kernel)) (by decide +kernel) hN4)
                          · have i102 : vC (sgT1 P) (sgL1 P) a4 = (42 : Int) := vq_eq c100 hf8 (by decide +kernel)
                            exact ((iv_no (a := 47) (b := 42) (iv_eqm c100 (iv_eqm (a' := 47) (b' := 47) c26 yf8 (iv_c 47 (a := 47) (b := 47) (by decide +kernel)) (by decide +kernel)) (iv_c 42 (a := 42) (b := 42) (by decide +kernel)) (by decide +kernel)) (by decide +kernel))).elim
                      · exact ((iv_no (a := 1) (b := 0) (iv_eqm c98 (iv_c 1 (a := 1) (b := 1) (by decide +kernel)) (iv_c 0 (a := 0) (b := 0) (by decide +kernel)) (by decide +kernel)) (by decide +kernel))).elim
                    · have hG := hBf96.2.2.2
                      rw [htf96] at hG
                      refine lv_if_ne (tgt := 101) X.1 X.2.1 dX6_readSum_96 (by decide) (fun c105 => ?_) (fun c105 => ?_)
                      · exact ((c105 (iv_one (iv_c 0 (a := 0) (b := 0) (by decide +kernel)) (iv_c 0 (a := 0) (b := 0) (by decide +kernel)) (by decide +kernel)))).elim
                      · refine lv_iconst (v := 0) X.1 X.2.1 dX6_readSum_99 (by decide +kernel) ?_
                        have spr : vSum (sgT1 P) (sgL1 P) 4 a = (false, wv97) := by exact xf4.1.trans (vL_bad (opS_47 i28) pv97)
                        have hG := ka_weak (b1 := 0) (b2 := 240) (c1 := wv97) (c2 := wv97) hG (by omega) (by omega) (Int.le_refl _) (Int.le_refl _)
                        exact sg_zret2 X hr (sg_zn (iv_of (iv_c 0 (a := 0) (b := 0) (by decide +kernel)) (a' := 0) (b' := 1) (by decide +kernel))) hlk hS (iv_of (iv_c 0 (a := 0) (b := 0) (by decide +kernel)) (a' := 0) (b' := 1) (by decide +kernel)) (fun t ht hW => (Or.inr ⟨rfl, _, spr, sg_post hb hK hC hG hS ht hW⟩)) dX6_readSum_100
                  · exact ((iv_no (a := 1) (b := 0) (iv_eqm c93 (iv_c 1 (a := 1) (b := 1) (by decide +kernel)) (iv_c 0 (a := 0) (b := 0) (by decide +kernel)) (by decide +kernel)) (by decide +kernel))).elim
                · exact ((iv_no (a := 1) (b := 0) (iv_eqm c92 (iv_c 1 (a := 1) (b := 1) (by decide +kernel)) (iv_c 0 (a := 0) (b := 0) (by decide +kernel)) (by decide +kernel)) (by decide +kernel))).elim
      exact B4_16 _ H _ _ 0 0 (av2) (bv2).1 (bv2).2 (vq_pgw p2v2 (by decide)) hG hS (lv_sub hl [2, 3, 4, 1, 0] rfl) (iv_of (iv_c 0 (a := 0) (b := 0) (by decide +kernel)) (a' := (-100)) (b' := 0) (by decide +kernel)) (iv_of (iv_c 0 (a := 0) (b := 0) (by decide +kernel)) (a' := 0) (b' := 240) (by decide +kernel)) ⟨by simp only [vSum, pv2, cond_true, cond_false, vB_t, vB_f, if_true, if_false, eq_self, not_true_eq_false, not_false_eq_true, Int.reduceEq, Int.reduceLT, or_false, false_or, or_true, true_or], vq_z0 p2v2 hav.1⟩ (Nat.le_refl _)
    · exact ((iv_no (a := 1) (b := 0) (iv_eqm c3 (iv_c 1 (a := 1) (b := 1) (by decide +kernel)) (iv_c 0 (a := 0) (b := 0) (by decide +kernel)) (by decide +kernel)) (by decide +kernel))).elim
  · have hG := hBf1.2.2.2
    rw [htf1] at hG
    refine lv_if_ne (tgt := 11) X.1 X.2.1 dX6_readSum_6 (by decide) (fun c106 => ?_) (fun c106 => ?_)
    · exact ((c106 (iv_one (iv_c 0 (a := 0) (b := 0) (by decide +kernel)) (iv_c 0 (a := 0) (b := 0) (by decide +kernel)) (by decide +kernel)))).elim
    · refine lv_iconst (v := 0) X.1 X.2.1 dX6_readSum_9 (by decide +kernel) ?_
      have spr : vSum (sgT1 P) (sgL1 P) 4 a = (false, wv2) := by simp only [vSum, pv2, cond_true, cond_false, vB_t, vB_f, if_true, if_false, eq_self, not_true_eq_false, not_false_eq_true, Int.reduceEq, Int.reduceLT, or_false, false_or, or_true, true_or]
      have hG := ka_weak (b1 := 0) (b2 := 240) (c1 := wv2) (c2 := wv2) hG (by omega) (by omega) (Int.le_refl _) (Int.le_refl _)
      exact sg_zret2 X hr (sg_zn (iv_of (iv_c 0 (a := 0) (b := 0) (by decide +kernel)) (a' := 0) (b' := 1) (by decide +kernel))) hlk hS (iv_of (iv_c 0 (a := 0) (b := 0) (by decide +kernel)) (a' := 0) (b' := 1) (by decide +kernel)) (fun t ht hW => (Or.inr ⟨rfl, _, spr, sg_post hb hK hC hG hS ht hW⟩)) dX6_readSum_10

theorem ca_X6_readSum_v2  {a w1 w2 : Int}  (X : CallFix p m c cc nL s args sg_tbl own) (hK : va_K D vwCl tys s) (hG : sgG (KA a a w1 w2 P) D vwCl (fun q : Nat => base ≤ q) tys ad ks H) (hC : sgC base s) (hS : va_S (fun q : Nat => base ≤ q) s.heap H locs) (hb : base ≤ s.heap.size) (a0 : Nat) (h0 : isK ad ks 6 a0) (a1 : Nat) (h1 : isK ad ks 10 a1) (x2 : Int32) (h2 : iv 2 2 x2) (hl0 : 0 ≤ sgL1 P ∧ sgL1 P ≤ 240) (hav : 0 ≤ a ∧ a ≤ sgL1 P) (hby : ∀ j : Nat, (↑j : Int) < sgL1 P → 1 ≤ sgT1 P j ∧ sgT1 P j ≤ 255) (hl : Cond.methodLink own index yX6_readSum ∈ sg_tbl) (hsize : ls.size = nL) (hst : st0 = [.ref a1, .int x2].reverse ++ .ref a0 :: rest) (hW : (rest.map fun v => v.category).sum ≤ 8) (hR : 14 ≤ R.frames ∧ 346 ≤ R.locals) (hf : cells ≤ R.cells ∧ slots ≤ R.slots) (hdg : decode cc pc = .ok (.invokevirtual index, 3)) (kk : ∀ (r : Int32) (t : State) (H1 : Heap) (locs1 : List Loc), t.heap = H1 → (fun r : Int32 => iv 0 1 r) r → ((r = 1 ∧ ∃ a1 : Int, vSum (sgT1 P) (sgL1 P) 4 a = (true, a1) ∧ a + 1 ≤ a1 ∧ a1 ≤ sgL1 P ∧ sgB (KA a1 a1 w1 w2 P) D vwCl base tys ad ks t) ∨ (r = 0 ∧ ∃ w : Int, vSum (sgT1 P) (sgL1 P) 4 a = (false, w) ∧ sgB (KA 0 240 w w P) D vwCl base tys ad ks t)) → va_S (fun q : Nat => base ≤ q) s.heap H1 locs1 → W p l e R s m args below meth c H1 locs1 cells slots Q (F0 m (pc + 3) ls (.int r :: rest))) : W p l e R s m args below meth c H locs cells slots Q (F0 m pc ls st0) :=
  sg_callV2i X hK hG hC hS hb (m_X6_readSum_v2 l a0 h0 a1 h1 x2 h2 hl0 hav hby) h0 (k := 6) (ci := 6) rfl (C := RX6) (T := TX6) (N := 7) rfl wl_3_223 wl_1_3 wl_3_222 wl_0_11 (n := 2) (by decide +kernel) rfl rfl rfl hl hsize hst hW hR hf hdg kk

set_option maxHeartbeats 8000000 in
set_option maxRecDepth 100000 in
theorem m_X6_readComparison_v2 (l : Launch) {D : va_G} {base : Nat} {tys : List (ClassId × FieldType)} {ad ks : List Nat} {P : sgPm}{a w1 w2 : Int}  (a0 : Nat) (h0 : isK ad ks 6 a0) (a1 : Nat) (h1 : isK ad ks 10 a1) (x2 : Int32) (h2 : iv 2 2 x2) (hl0 : 0 ≤ sgL1 P ∧ sgL1 P ≤ 240) (hav : 0 ≤ a ∧ a ≤ sgL1 P) (hby : ∀ j : Nat, (↑j : Int) < sgL1 P → 1 ≤ sgT1 P j ∧ sgT1 P j ≤ 255) : Met l yX6_readComparison (Cond.code yX6_readComparison cX6_readComparison 4 (some .boolean) :: sg_tbl) ({ frames := 14, cells := 0, slots := 0, locals := 346 }) (va_Pc [.ref a0, .ref a1, .int x2] (sgB (KA a a w1 w2 P) D vwCl base tys ad ks)) (va_Qi (fun r (u : Int32) => u = r ∧ (fun r : Int32 => iv 0 1 r) r) (fun u t => (u = 1 ∧ ∃ a1 : Int, vCmp (sgT1 P) (sgL1 P) 4 a = (true, a1) ∧ a + 1 ≤ a1 ∧ a1 ≤ sgL1 P ∧ sgB (KA a1 a1 w1 w2 P) D vwCl base tys ad ks t) ∨ (u = 0 ∧ ∃ w : Int, vCmp (sgT1 P) (sgL1 P) 4 a = (false, w) ∧ sgB (KA 0 240 w w P) D vwCl base tys ad ks t)) (fun q : Nat => base ≤ q)) 0 0 (fun q : Nat => base ≤ q) := by
  refine sg_ofW (by decide +kernel) (Nat.le_of_ble_eq_true rfl) (fun p e s m below meth c X hr hlk hb hK hC hG ls hl => ?_)
  have hS : va_S (fun q : Nat => base ≤ q) s.heap s.heap [] := va_S.rf
  have hl : lv_has ls 4 [(0, .ref a0), (1, .ref a1), (2, .int x2)] := hl
  refine lv_aload_n X.1 X.2.1 dX6_readComparison_0 rfl (lv_at hl 1 rfl) ?_
  refine ca_X10_sign_v X hK hG hC (fun _ h => h) hS hb a1 h1 hl0 hav wl_3_219 hl.1 (rest := []) rfl (Nat.le_of_ble_eq_true rfl) ⟨Nat.le_of_ble_eq_true rfl, Nat.le_of_ble_eq_true rfl⟩ ⟨Nat.le_of_ble_eq_true rfl, Nat.le_of_ble_eq_true rfl⟩ dX6_readComparison_1 (fun f1 locs hf1 hS => ?_)
  have yf1 : iv 0 255 f1 := vq_255 hf1 hby
  refine ca_X6_comparison_v X hK (ka_toKT hG (hav).1 (Int.le_trans (hav).2 hl0.2)) hC (fun _ h => h) hS hb f1 wl_3_238 hl.1 (rest := []) rfl (Nat.le_of_ble_eq_true rfl) ⟨Nat.le_of_ble_eq_true rfl, Nat.le_of_ble_eq_true rfl⟩ ⟨Nat.le_of_ble_eq_true rfl, Nat.le_of_ble_eq_true rfl⟩ dX6_readComparison_4 (fun f2 locs hf2 hS => ?_)
  have xf2 : f2.toInt = vCm (vC (sgT1 P) (sgL1 P) a) := hf2.trans (by rw [hf1])
  refine lv_istore_n (lv' := [(3, .int f2), (0, .ref a0), (1, .ref a1), (2, .int x2)]) X.1 X.2.1 dX6_readComparison_7 rfl hl (by decide) rfl (fun ls hl => ?_)
  refine lv_iload_n X.1 X.2.1 dX6_readComparison_8 rfl (lv_at hl 0 rfl) ?_
  refine lv_if_ne (tgt := 17) X.1 X.2.1 dX6_readComparison_9 (by decide) (fun c3 => ?_) (fun c3 => ?_)
  · have i4 : (vCm (vC (sgT1 P) (sgL1 P) a) = (0 : Int)) = False := vq_ne c3 xf2 (by decide +kernel)
    refine lv_aload_n X.1 X.2.1 dX6_readComparison_17 rfl (lv_at hl 2 rfl) ?_
    refine ca_X10_step_v X hK hG hC hS hb a1 h1 hl0 (vC_lt (b := sgT1 P) (vCm_ne' i4)) wl_3_229 hl.1 (rest := []) rfl (Nat.le_of_ble_eq_true rfl) ⟨Nat.le_of_ble_eq_true rfl, Nat.le_of_ble_eq_true rfl⟩ ⟨Nat.le_of_ble_eq_true rfl, Nat.le_of_ble_eq_true rfl⟩ dX6_readComparison_18 (fun tg6 H locs htg6 hWg6 hS => ?_)
    have b7 := vC_lt (b := sgT1 P) (n := sgL1 P) (a := a) (vCm_ne' i4)
    have bb7 := vq_bdX (b := sgT1 P) b7
    have pb7 : a + 1 ≤ vX (sgT1 P) (sgL1 P) (a + 1) := vq_pg (vq_pg0 a) (m := 1) (vX_ge (sgT1 P) (sgL1 P) (a + 1)).1 (by decide)
    have hG := hWg6.2.2.2
    rw [htg6] at hG
    refine lv_aload_n X.1 X.2.1 dX6_readComparison_21 rfl (lv_at hl 1 rfl) ?_
    refine lv_aload_n X.1 X.2.1 dX6_readComparison_22 rfl (lv_at hl 2 rfl) ?_
    refine lv_iload_n X.1 X.2.1 dX6_readComparison_23 rfl (lv_at hl 3 rfl) ?_
    refine ca_X6_readSum_v2 X hK hG hC hS hb a0 h0 a1 h1 x2 h2 hl0 bb7 hby wl_3_220 hl.1 (rest := []) rfl (Nat.le_of_ble_eq_true rfl) ⟨Nat.le_of_ble_eq_true rfl, Nat.le_of_ble_eq_true rfl⟩ ⟨Nat.le_of_ble_eq_true rfl, Nat.le_of_ble_eq_true rfl⟩ dX6_readComparison_24 (fun f8 tf8 H locs htf8 hf8 hWf8 hS => ?_)
    rcases hWf8 with ⟨rfl, av9, pv9, gav9, gbv9, hBf8⟩ | ⟨rfl, wv9, pv9, hBf8⟩
    · have hG := hBf8.2.2.2
      rw [htf8] at hG
      have bv9 := vq_bd2 (k := 1) bb7 (by decide) gav9 gbv9
      have p2v9 : a + 2 ≤ av9 := vq_pg pb7 gav9 (by decide)
      refine lv_if_ne (tgt := 32) X.1 X.2.1 dX6_readComparison_27 (by decide) (fun c10 => ?_) (fun c10 => ?_)
      · refine lv_aload_n X.1 X.2.1 dX6_readComparison_32 rfl (lv_at hl 1 rfl) ?_
        refine lv_iload_n X.1 X.2.1 dX6_readComparison_33 rfl (lv_at hl 0 rfl) ?_
        refine ca_X6_put_v X hK hG hC hS hb a0 h0 f2 wl_3_232 hl.1 (rest := []) rfl (Nat.le_of_ble_eq_true rfl) ⟨Nat.le_of_ble_eq_true rfl, Nat.le_of_ble_eq_true rfl⟩ ⟨Nat.le_of_ble_eq_true rfl, Nat.le_of_ble_eq_true rfl⟩ dX6_readComparison_34 (fun H locs hG hS => ?_)
        refine lv_iconst (v := 1) X.1 X.2.1 dX6_readComparison_37 (by decide +kernel) ?_
        have spr : vCmp (sgT1 P) (sgL1 P) 4 a = (true, av9) := by simp only [vCmp, i4, pv9, cond_true, cond_false, vB_t, vB_f, if_true, if_false, eq_self, not_true_eq_false, not_false_eq_true, Int.reduceEq, Int.reduceLT, or_false, false_or, or_true, true_or]
        exact sg_zret2 X hr (sg_zn (iv_of (iv_c 1 (a := 1) (b := 1) (by decide +kernel)) (a' := 0) (b' := 1) (by decide +kernel))) hlk hS (iv_of (iv_c 1 (a := 1) (b := 1) (by decide +kernel)) (a' := 0) (b' := 1) (by decide +kernel)) (fun t ht hW => (Or.inl ⟨rfl, _, spr, vq_pgw p2v9 (by decide), (bv9).2, sg_post hb hK hC hG hS ht hW⟩)) dX6_readComparison_38
      · exact ((iv_no (a := 1) (b := 0) (iv_eqm c10 (iv_c 1 (a := 1) (b := 1) (by decide +kernel)) (iv_c 0 (a := 0) (b := 0) (by decide +kernel)) (by decide +kernel)) (by decide +kernel))).elim
    · have hG := hBf8.2.2.2
      rw [htf8] at hG
      refine lv_if_ne (tgt := 32) X.1 X.2.1 dX6_readComparison_27 (by decide) (fun c12 => ?_) (fun c12 => ?_)
      · exact ((c12 (iv_one (iv_c 0 (a := 0) (b := 0) (by decide +kernel)) (iv_c 0 (a := 0) (b := 0) (by decide +kernel)) (by decide +kernel)))).elim
      · refine lv_iconst (v := 0) X.1 X.2.1 dX6_readComparison_30 (by decide +kernel) ?_
        have spr : vCmp (sgT1 P) (sgL1 P) 4 a = (false, wv9) := by simp only [vCmp, i4, pv9, cond_true, cond_false, vB_t, vB_f, if_true, if_false, eq_self, not_true_eq_false, not_false_eq_true, Int.reduceEq, Int.reduceLT, or_false, false_or, or_true, true_or]
        have hG := ka_weak (b1 := 0) (b2 := 240) (c1 := wv9) (c2 := wv9) hG (by omega) (by omega) (Int.le_refl _) (Int.le_refl _)
        exact sg_zret2 X hr (sg_zn (iv_of (iv_c 0 (a := 0) (b := 0) (by decide +kernel)) (a' := 0) (b' := 1) (by decide +kernel))) hlk hS (iv_of (iv_c 0 (a := 0) (b := 0) (by decide +kernel)) (a' := 0) (b' := 1) (by decide +kernel)) (fun t ht hW => (Or.inr ⟨rfl, _, spr, sg_post hb hK hC hG hS ht hW⟩)) dX6_readComparison_31
  · have i5 : vCm (vC (sgT1 P) (sgL1 P) a) = (0 : Int) := vq_eq c3 xf2 (by decide +kernel)
    refine lv_aload_n X.1 X.2.1 dX6_readComparison_12 rfl (lv_at hl 2 rfl) ?_
    refine ca_X10_wrong_v X hK hG hC hS hb a1 h1 hl0 hav wl_3_228 hl.1 (rest := []) rfl (Nat.le_of_ble_eq_true rfl) ⟨Nat.le_of_ble_eq_true rfl, Nat.le_of_ble_eq_true rfl⟩ ⟨Nat.le_of_ble_eq_true rfl, Nat.le_of_ble_eq_true rfl⟩ dX6_readComparison_13 (fun f13 tf13 H locs htf13 hf13 hWf13 hS => ?_)
    have hG := hWf13.2.2.2
    rw [htf13] at hG
    obtain rfl : f13 = 0 := sg_is0 hf13
    have spr : vCmp (sgT1 P) (sgL1 P) 4 a = (false, a) := by simp only [vCmp, i5, cond_true, cond_false, vB_t, vB_f, if_true, if_false, eq_self, not_true_eq_false, not_false_eq_true, Int.reduceEq, Int.reduceLT, or_false, false_or, or_true, true_or]
    have hG := ka_weak (b1 := 0) (b2 := 240) (c1 := a) (c2 := a) hG (hav).1 (Int.le_trans (hav).2 hl0.2) (Int.le_refl _) (Int.le_refl _)
    exact sg_zret2 X hr (sg_zn (iv_of (iv_c 0 (a := 0) (b := 0) (by decide +kernel)) (a' := 0) (b' := 1) (by decide +kernel))) hlk hS (iv_of (iv_c 0 (a := 0) (b := 0) (by decide +kernel)) (a' := 0) (b' := 1) (by decide +kernel)) (fun t ht hW => (Or.inr ⟨rfl, _, spr, sg_post hb hK hC hG hS ht hW⟩)) dX6_readComparison_16

theorem ca_X6_readComparison_v2  {a w1 w2 : Int}  (X : CallFix p m c cc nL s args sg_tbl own) (hK : va_K D vwCl tys s) (hG : sgG (KA a a w1 w2 P) D vwCl (fun q : Nat => base ≤ q) tys ad ks H) (hC : sgC base s) (hS : va_S (fun q : Nat => base ≤ q) s.heap H locs) (hb : base ≤ s.heap.size) (a0 : Nat) (h0 : isK ad ks 6 a0) (a1 : Nat) (h1 : isK ad ks 10 a1) (x2 : Int32) (h2 : iv 2 2 x2) (hl0 : 0 ≤ sgL1 P ∧ sgL1 P ≤ 240) (hav : 0 ≤ a ∧ a ≤ sgL1 P) (hby : ∀ j : Nat, (↑j : Int) < sgL1 P → 1 ≤ sgT1 P j ∧ sgT1 P j ≤ 255) (hl : Cond.methodLink own index yX6_readComparison ∈ sg_tbl) (hsize : ls.size = nL) (hst : st0 = [.ref a1, .int x2].reverse ++ .ref a0 :: rest) (hW : (rest.map fun v => v.category).sum ≤ 8) (hR : 15 ≤ R.frames ∧ 369 ≤ R.locals) (hf : cells ≤ R.cells ∧ slots ≤ R.slots) (hdg : decode cc pc = .ok (.invokevirtual index, 3)) (kk : ∀ (r : Int32) (t : State) (H1 : Heap) (locs1 : List Loc), t.heap = H1 → (fun r : Int32 => iv 0 1 r) r → ((r = 1 ∧ ∃ a1 : Int, vCmp (sgT1 P) (sgL1 P) 4 a = (true, a1) ∧ a + 1 ≤ a1 ∧ a1 ≤ sgL1 P ∧ sgB (KA a1 a1 w1 w2 P) D vwCl base tys ad ks t) ∨ (r = 0 ∧ ∃ w : Int, vCmp (sgT1 P) (sgL1 P) 4 a = (false, w) ∧ sgB (KA 0 240 w w P) D vwCl base tys ad ks t)) → va_S (fun q : Nat => base ≤ q) s.heap H1 locs1 → W p l e R s m args below meth c H1 locs1 cells slots Q (F0 m (pc + 3) ls (.int r :: rest))) : W p l e R s m args below meth c H locs cells slots Q (F0 m pc ls st0) :=
  sg_callV2i X hK hG hC hS hb (m_X6_readComparison_v2 l a0 h0 a1 h1 x2 h2 hl0 hav hby) h0 (k := 6) (ci := 6) rfl (C := RX6) (T := TX6) (N := 7) rfl wl_4_4 wl_1_3 wl_4_3 wl_0_14 (n := 2) (by decide +kernel) rfl rfl rfl hl hsize hst hW hR hf hdg kk

set_option maxHeartbeats 8000000 in
set_option maxRecDepth 100000 in
theorem m_X6_readUnit_v2 (l : Launch) {D : va_G} {base : Nat} {tys : List (ClassId × FieldType)} {ad ks : List Nat} {P : sgPm}{a w1 w2 : Int}  (a0 : Nat) (h0 : isK ad ks 6 a0) (a1 : Nat) (h1 : isK ad ks 10 a1) (x2 : Int32) (h2 : iv 2 2 x2) (hl0 : 0 ≤ sgL1 P ∧ sgL1 P ≤ 240) (hav : 0 ≤ a ∧ a ≤ sgL1 P) (hby : ∀ j : Nat, (↑j : Int) < sgL1 P → 1 ≤ sgT1 P j ∧ sgT1 P j ≤ 255) : Met l yX6_readUnit (Cond.code yX6_readUnit cX6_readUnit 4 (some .boolean) :: sg_tbl) ({ frames := 15, cells := 0, slots := 0, locals := 369 }) (va_Pc [.ref a0, .ref a1, .int x2] (sgB (KA a a w1 w2 P) D vwCl base tys ad ks)) (va_Qi (fun r (u : Int32) => u = r ∧ (fun r : Int32 => iv 0 1 r) r) (fun u t => (u = 1 ∧ ∃ a1 : Int, vUn (sgT1 P) (sgL1 P) 4 a = (true, a1) ∧ a + 1 ≤ a1 ∧ a1 ≤ sgL1 P ∧ sgB (KA a1 a1 w1 w2 P) D vwCl base tys ad ks t) ∨ (u = 0 ∧ ∃ w : Int, vUn (sgT1 P) (sgL1 P) 4 a = (false, w) ∧ sgB (KA 0 240 w w P) D vwCl base tys ad ks t)) (fun q : Nat => base ≤ q)) 0 0 (fun q : Nat => base ≤ q) := by
  refine sg_ofW (by decide +kernel) (Nat.le_of_ble_eq_true rfl) (fun p e s m below meth c X hr hlk hb hK hC hG ls hl => ?_)
  have hS : va_S (fun q : Nat => base ≤ q) s.heap s.heap [] := va_S.rf
  have hl : lv_has ls 4 [(0, .ref a0), (1, .ref a1), (2, .int x2)] := hl
  refine lv_aload_n X.1 X.2.1 dX6_readUnit_0 rfl (lv_at hl 1 rfl) ?_
  refine ca_X10_sign_v X hK hG hC (fun _ h => h) hS hb a1 h1 hl0 hav wl_3_219 hl.1 (rest := []) rfl (Nat.le_of_ble_eq_true rfl) ⟨Nat.le_of_ble_eq_true rfl, Nat.le_of_ble_eq_true rfl⟩ ⟨Nat.le_of_ble_eq_true rfl, Nat.le_of_ble_eq_true rfl⟩ dX6_readUnit_1 (fun f1 locs hf1 hS => ?_)
  have yf1 : iv 0 255 f1 := vq_255 hf1 hby
  refine lv_istore_n (lv' := [(3, .int f1), (0, .ref a0), (1, .ref a1), (2, .int x2)]) X.1 X.2.1 dX6_readUnit_4 rfl hl (by decide) rfl (fun ls hl => ?_)
  refine lv_iload_n X.1 X.2.1 dX6_readUnit_5 rfl (lv_at hl 0 rfl) ?_
  refine lv_bipush (v := 33) X.1 X.2.1 dX6_readUnit_6 (by decide +kernel) ?_
  refine lv_icmp_eq (tgt := 41) X.1 X.2.1 dX6_readUnit_8 (by decide) (fun c2 => ?_) (fun c2 => ?_)
  · have i3 : vC (sgT1 P) (sgL1 P) a = (33 : Int) := vq_eq c2 hf1 (by decide +kernel)
    refine lv_iload_n X.1 X.2.1 dX6_readUnit_41 rfl (lv_at hl 3 rfl) ?_
    refine lv_bipush (v := 6) X.1 X.2.1 dX6_readUnit_42 (by decide +kernel) ?_
    refine lv_icmp_lt (tgt := 52) X.1 X.2.1 dX6_readUnit_44 (by decide) (fun c5 => ?_) (fun c5 => ?_)
    · have i6 : x2.toInt < (6 : Int) := vq_lt c5 rfl (by decide +kernel)
      refine lv_aload_n X.1 X.2.1 dX6_readUnit_52 rfl (lv_at hl 2 rfl) ?_
      refine ca_X10_step_v X hK hG hC hS hb a1 h1 hl0 (vC_lt (b := sgT1 P) (by rw [i3]; decide)) wl_3_229 hl.1 (rest := []) rfl (Nat.le_of_ble_eq_true rfl) ⟨Nat.le_of_ble_eq_true rfl, Nat.le_of_ble_eq_true rfl⟩ ⟨Nat.le_of_ble_eq_true rfl, Nat.le_of_ble_eq_true rfl⟩ dX6_readUnit_53 (fun tg8 H locs htg8 hWg8 hS => ?_)
      have b9 := vC_lt (b := sgT1 P) (n := sgL1 P) (a := a) (by rw [i3]; decide)
      have bb9 := vq_bdX (b := sgT1 P) b9
      have pb9 : a + 1 ≤ vX (sgT1 P) (sgL1 P) (a + 1) := vq_pg (vq_pg0 a) (m := 1) (vX_ge (sgT1 P) (sgL1 P) (a + 1)).1 (by decide)
      have hG := hWg8.2.2.2
      rw [htg8] at hG
      refine lv_iload_n X.1 X.2.1 dX6_readUnit_56 rfl (lv_at hl 0 rfl) ?_
      refine lv_bipush (v := 40) X.1 X.2.1 dX6_readUnit_57 (by decide +kernel) ?_
      refine lv_icmp_ne (tgt := 89) X.1 X.2.1 dX6_readUnit_59 (by decide) (fun c10 => ?_) (fun c10 => ?_)
      · have i11 : (vC (sgT1 P) (sgL1 P) a = (40 : Int)) = False := vq_ne c10 hf1 (by decide +kernel)
        refine lv_aload_n X.1 X.2.1 dX6_readUnit_89 rfl (lv_at hl 1 rfl) ?_
        refine lv_aload_n X.1 X.2.1 dX6_readUnit_90 rfl (lv_at hl 2 rfl) ?_
        refine lv_iload_n X.1 X.2.1 dX6_readUnit_91 rfl (lv_at hl 3 rfl) ?_
        refine lv_iconst (v := 1) X.1 X.2.1 dX6_readUnit_92 (by decide +kernel) ?_
        refine lv_iadd X.1 X.2.1 dX6_readUnit_93 ?_
        refine lv_topi (fun f13 ef13 => ?_)
        have xf13 : f13.toInt = (x2.toInt + 1) := sg_exadd ef13 h2 (iv_c 1 (a := 1) (b := 1) (by decide +kernel)) (by decide +kernel) rfl (by decide +kernel)
        refine ca_X6_readUnit_v3 X hK hG hC hS hb a0 h0 a1 h1 f13 (iv_add (a' := 3) (b' := 3) ef13 h2 (iv_c 1 (a := 1) (b := 1) (by decide +kernel)) (by decide +kernel)) hl0 bb9 hby wl_4_9 hl.1 (rest := []) rfl (Nat.le_of_ble_eq_true rfl) ⟨Nat.le_of_ble_eq_true rfl, Nat.le_of_ble_eq_true rfl⟩ ⟨Nat.le_of_ble_eq_true rfl, Nat.le_of_ble_eq_true rfl⟩ dX6_readUnit_94 (fun f14 tf14 H locs htf14 hf14 hWf14 hS => ?_)
        rcases hWf14 with ⟨rfl, av15, pv15, gav15, gbv15, hBf14⟩ | ⟨rfl, wv15, pv15, hBf14⟩
        · have hG := hBf14.2.2.2
          rw [htf14] at hG
          have bv15 := vq_bd2 (k := 1) bb9 (by decide) gav15 gbv15
          have p2v15 : a + 2 ≤ av15 := vq_pg pb9 gav15 (by decide)
          refine lv_if_ne (tgt := 102) X.1 X.2.1 dX6_readUnit_97 (by decide) (fun c16 => ?_) (fun c16 => ?_)
          · refine lv_aload_n X.1 X.2.1 dX6_readUnit_102 rfl (lv_at hl 1 rfl) ?_
            refine lv_bipush (v := (-19)) X.1 X.2.1 dX6_readUnit_103 (by decide +kernel) ?_
            refine ca_X6_put_v X hK hG hC hS hb a0 h0 (-19) wl_3_232 hl.1 (rest := []) rfl (Nat.le_of_ble_eq_true rfl) ⟨Nat.le_of_ble_eq_true rfl, Nat.le_of_ble_eq_true rfl⟩ ⟨Nat.le_of_ble_eq_true rfl, Nat.le_of_ble_eq_true rfl⟩ dX6_readUnit_105 (fun H locs hG hS => ?_)
            refine lv_iconst (v := 1) X.1 X.2.1 dX6_readUnit_108 (by decide +kernel) ?_
            have spr : vUn (sgT1 P) (sgL1 P) 4 a = (true, av15) := by simp only [vUn_4, i3, i6, i11, pv15, cond_true, cond_false, vB_t, vB_f, if_true, if_false, eq_self, not_true_eq_false, not_false_eq_true, Int.reduceEq, Int.reduceLT, or_false, false_or, or_true, true_or]
            exact sg_zret2 X hr (sg_zn (iv_of (iv_c 1 (a := 1) (b := 1) (by decide +kernel)) (a' := 0) (b' := 1) (by decide +kernel))) hlk hS (iv_of (iv_c 1 (a := 1) (b := 1) (by decide +kernel)) (a' := 0) (b' := 1) (by decide +kernel)) (fun t ht hW => (Or.inl ⟨rfl, _, spr, vq_pgw p2v15 (by decide), (bv15).2, sg_post hb hK hC hG hS ht hW⟩)) dX6_readUnit_109
          · exact ((iv_no (a := 1) (b := 0) (iv_eqm c16 (iv_c 1 (a := 1) (b := 1) (by decide +kernel)) (iv_c 0 (a := 0) (b := 0) (by decide +kernel)) (by decide +kernel)) (by decide +kernel))).elim
        · have hG := hBf14.2.2.2
          rw [htf14] at hG
          refine lv_if_ne (tgt := 102) X.1 X.2.1 dX6_readUnit_97 (by decide) (fun c18 => ?_) (fun c18 => ?_)
          · exact ((c18 (iv_one (iv_c 0 (a := 0) (b := 0) (by decide +kernel)) (iv_c 0 (a := 0) (b := 0) (by decide +kernel)) (by decide +kernel)))).elim
          · refine lv_iconst (v := 0) X.1 X.2.1 dX6_readUnit_100 (by decide +kernel) ?_
            have spr : vUn (sgT1 P) (sgL1 P) 4 a = (false, wv15) := by simp only [vUn_4, i3, i6, i11, pv15, cond_true, cond_false, vB_t, vB_f, if_true, if_false, eq_self, not_true_eq_false, not_false_eq_true, Int.reduceEq, Int.reduceLT, or_false, false_or, or_true, true_or]
            have hG := ka_weak (b1 := 0) (b2 := 240) (c1 := wv15) (c2 := wv15) hG (by omega) (by omega) (Int.le_refl _) (Int.le_refl _)
            exact sg_zret2 X hr (sg_zn (iv_of (iv_c 0 (a := 0) (b := 0) (by decide +kernel)) (a' := 0) (b' := 1) (by decide +kernel))) hlk hS (iv_of (iv_c 0 (a := 0) (b := 0) (by decide +kernel)) (a' := 0) (b' := 1) (by decide +kernel)) (fun t ht hW => (Or.inr ⟨rfl, _, spr, sg_post hb hK hC hG hS ht hW⟩)) dX6_readUnit_101
      · have i12 : vC (sgT1 P) (sgL1 P) a = (40 : Int) := vq_eq c10 hf1 (by decide +kernel)
        exact ((iv_no (a := 40) (b := 33) (iv_eqm c10 (iv_eqm (a' := 33) (b' := 33) c2 yf1 (iv_c 33 (a := 33) (b := 33) (by decide +kernel)) (by decide +kernel)) (iv_c 40 (a := 40) (b := 40) (by decide +kernel)) (by decide +kernel)) (by decide +kernel))).elim
    · have i7 : ¬ x2.toInt < (6 : Int) := vq_le (iv_ge_of c5) (by decide +kernel) rfl
      exact ((iv_no (iv_le (b' := 2) (iv_ge_of c5) (iv_c 6 (a := 6) (b := 6) (by decide +kernel)) h2 (by decide +kernel)) (by decide +kernel))).elim
  · have i4 : (vC (sgT1 P) (sgL1 P) a = (33 : Int)) = False := vq_ne c2 hf1 (by decide +kernel)
    refine lv_iload_n X.1 X.2.1 dX6_readUnit_11 rfl (lv_at hl 0 rfl) ?_
    refine lv_bipush (v := 40) X.1 X.2.1 dX6_readUnit_12 (by decide +kernel) ?_
    refine lv_icmp_eq (tgt := 41) X.1 X.2.1 dX6_readUnit_14 (by decide) (fun c19 => ?_) (fun c19 => ?_)
    · have i20 : vC (sgT1 P) (sgL1 P) a = (40 : Int) := vq_eq c19 hf1 (by decide +kernel)
      refine lv_iload_n X.1 X.2.1 dX6_readUnit_41 rfl (lv_at hl 3 rfl) ?_
      refine lv_bipush (v := 6) X.1 X.2.1 dX6_readUnit_42 (by decide +kernel) ?_
      refine lv_icmp_lt (tgt := 52) X.1 X.2.1 dX6_readUnit_44 (by decide) (fun c22 => ?_) (fun c22 => ?_)
      · have i23 : x2.toInt < (6 : Int) := vq_lt c22 rfl (by decide +kernel)
        refine lv_aload_n X.1 X.2.1 dX6_readUnit_52 rfl (lv_at hl 2 rfl) ?_
        refine ca_X10_step_v X hK hG hC hS hb a1 h1 hl0 (vC_lt (b := sgT1 P) (by rw [i20]; decide)) wl_3_229 hl.1 (rest := []) rfl (Nat.le_of_ble_eq_true rfl) ⟨Nat.le_of_ble_eq_true rfl, Nat.le_of_ble_eq_true rfl⟩ ⟨Nat.le_of_ble_eq_true rfl, Nat.le_of_ble_eq_true rfl⟩ dX6_readUnit_53 (fun tg25 H locs htg25 hWg25 hS => ?_)
        have b26 := vC_lt (b := sgT1 P) (n := sgL1 P) (a := a) (by rw [i20]; decide)
        have bb26 := vq_bdX (b := sgT1 P) b26
        have pb26 : a + 1 ≤ vX (sgT1 P) (sgL1 P) (a + 1) := vq_pg (vq_pg0 a) (m := 1) (vX_ge (sgT1 P) (sgL1 P) (a + 1)).1 (by decide)
        have hG := hWg25.2.2.2
        rw [htg25] at hG
        refine lv_iload_n X.1 X.2.1 dX6_readUnit_56 rfl (lv_at hl 0 rfl) ?_
        refine lv_bipush (v := 40) X.1 X.2.1 dX6_readUnit_57 (by decide +kernel) ?_
        refine lv_icmp_ne (tgt := 89) X.1 X.2.1 dX6_readUnit_59 (by decide) (fun c27 => ?_) (fun c27 => ?_)
        · have i28 : (vC (sgT1 P) (sgL1 P) a = (40 : Int)) = False := vq_ne c27 hf1 (by decide +kernel)
          exact ((c27 (iv_one (iv_eqm (a' := 40) (b' := 40) c19 yf1 (iv_c 40 (a := 40) (b := 40) (by decide +kernel)) (by decide +kernel)) (iv_c 40 (a := 40) (b := 40) (by decide +kernel)) (by decide +kernel)))).elim
        · have i29 : vC (sgT1 P) (sgL1 P) a = (40 : Int) := vq_eq c27 hf1 (by decide +kernel)
          refine lv_aload_n X.1 X.2.1 dX6_readUnit_62 rfl (lv_at hl 1 rfl) ?_
          refine lv_aload_n X.1 X.2.1 dX6_readUnit_63 rfl (lv_at hl 2 rfl) ?_
          refine lv_iload_n X.1 X.2.1 dX6_readUnit_64 rfl (lv_at hl 3 rfl) ?_
          refine lv_iconst (v := 1) X.1 X.2.1 dX6_readUnit_65 (by decide +kernel) ?_
          refine lv_iadd X.1 X.2.1 dX6_readUnit_66 ?_
          refine lv_topi (fun f30 ef30 => ?_)
          have xf30 : f30.toInt = (x2.toInt + 1) := sg_exadd ef30 h2 (iv_c 1 (a := 1) (b := 1) (by decide +kernel)) (by decide +kernel) rfl (by decide +kernel)
          refine lv_iconst (v := 0) X.1 X.2.1 dX6_readUnit_67 (by decide +kernel) ?_
          refine ca_X6_readCondition_v3_0 X hK hG hC hS hb a0 h0 a1 h1 f30 (iv_add (a' := 3) (b' := 3) ef30 h2 (iv_c 1 (a := 1) (b := 1) (by decide +kernel)) (by decide +kernel)) 0 (iv_c 0 (a := 0) (b := 0) (by decide +kernel)) hl0 bb26 hby wl_4_5 hl.1 (rest := []) rfl (Nat.le_of_ble_eq_true rfl) ⟨Nat.le_of_ble_eq_true rfl, Nat.le_of_ble_eq_true rfl⟩ ⟨Nat.le_of_ble_eq_true rfl, Nat.le_of_ble_eq_true rfl⟩ dX6_readUnit_68 (fun f31 tf31 H locs htf31 hf31 hWf31 hS => ?_)
          rcases hWf31 with ⟨rfl, av32, pv32, gav32, gbv32, hBf31⟩ | ⟨rfl, wv32, pv32, hBf31⟩
          · have hG := hBf31.2.2.2
            rw [htf31] at hG
            have bv32 := vq_bd2 (k := 1) bb26 (by decide) gav32 gbv32
            have p2v32 : a + 2 ≤ av32 := vq_pg pb26 gav32 (by decide)
            refine lv_if_eq (tgt := 87) X.1 X.2.1 dX6_readUnit_71 (by decide) (fun c33 => ?_) (fun c33 => ?_)
            · exact ((iv_no (a := 1) (b := 0) (iv_eqm c33 (iv_c 1 (a := 1) (b := 1) (by decide +kernel)) (iv_c 0 (a := 0) (b := 0) (by decide +kernel)) (by decide +kernel)) (by decide +kernel))).elim
            · refine lv_aload_n X.1 X.2.1 dX6_readUnit_74 rfl (lv_at hl 2 rfl) ?_
              refine lv_bipush (v := 41) X.1 X.2.1 dX6_readUnit_75 (by decide +kernel) ?_
              refine ca_X10_demand_v X hK hG hC hS hb a1 h1 41 hl0 bv32 (show (41 : Int32).toInt = 41 ∧ (41 : Int) ≠ 0 from by decide +kernel) wl_3_214 hl.1 (rest := []) rfl (Nat.le_of_ble_eq_true rfl) ⟨Nat.le_of_ble_eq_true rfl, Nat.le_of_ble_eq_true rfl⟩ ⟨Nat.le_of_ble_eq_true rfl, Nat.le_of_ble_eq_true rfl⟩ dX6_readUnit_77 (fun f34 tf34 H locs htf34 hf34 hWf34 hS => ?_)
              rcases hWf34 with ⟨rfl, av35, pv35, gav35, gbv35, hBf34⟩ | ⟨rfl, wv35, pv35, hBf34⟩
              · have hG := hBf34.2.2.2
                rw [htf34] at hG
                have bv35 := vq_bd2 (k := 1) bv32 (by decide) gav35 gbv35
                have p2v35 : a + 3 ≤ av35 := vq_pg p2v32 gav35 (by decide)
                refine lv_if_eq (tgt := 87) X.1 X.2.1 dX6_readUnit_80 (by decide) (fun c36 => ?_) (fun c36 => ?_)
                · exact ((iv_no (a := 1) (b := 0) (iv_eqm c36 (iv_c 1 (a := 1) (b := 1) (by decide +kernel)) (iv_c 0 (a := 0) (b := 0) (by decide +kernel)) (by decide +kernel)) (by decide +kernel))).elim
                · refine lv_iconst (v := 1) X.1 X.2.1 dX6_readUnit_83 (by decide +kernel) ?_
                  refine lv_goto (tgt := 88) X.1 X.2.1 dX6_readUnit_84 (by decide) ?_
                  have spr : vUn (sgT1 P) (sgL1 P) 4 a = (true, av35) := by simp only [vUn_4, i4, i20, i23, i29, pv32, pv35, cond_true, cond_false, vB_t, vB_f, if_true, if_false, eq_self, not_true_eq_false, not_false_eq_true, Int.reduceEq, Int.reduceLT, or_false, false_or, or_true, true_or]
                  exact sg_zret2 X hr (sg_zn (iv_of (iv_c 1 (a := 1) (b := 1) (by decide +kernel)) (a' := 0) (b' := 1) (by decide +kernel))) hlk hS (iv_of (iv_c 1 (a := 1) (b := 1) (by decide +kernel)) (a' := 0) (b' := 1) (by decide +kernel)) (fun t ht hW => (Or.inl ⟨rfl, _, spr, vq_pgw p2v35 (by decide), (bv35).2, sg_post hb hK hC hG hS ht hW⟩)) dX6_readUnit_88
              · have hG := hBf34.2.2.2
                rw [htf34] at hG
                refine lv_if_eq (tgt := 87) X.1 X.2.1 dX6_readUnit_80 (by decide) (fun c37 => ?_) (fun c37 => ?_)
                · refine lv_iconst (v := 0) X.1 X.2.1 dX6_readUnit_87 (by decide +kernel) ?_
                  have spr : vUn (sgT1 P) (sgL1 P) 4 a = (false, wv35) := by simp only [vUn_4, i4, i20, i23, i29, pv32, pv35, cond_true, cond_false, vB_t, vB_f, if_true, if_false, eq_self, not_true_eq_false, not_false_eq_true, Int.reduceEq, Int.reduceLT, or_false, false_or, or_true, true_or]
                  have hG := ka_weak (b1 := 0) (b2 := 240) (c1 := wv35) (c2 := wv35) hG (by omega) (by omega) (Int.le_refl _) (Int.le_refl _)
                  exact sg_zret2 X hr (sg_zn (iv_of (iv_c 0 (a := 0) (b := 0) (by decide +kernel)) (a' := 0) (b' := 1) (by decide +kernel))) hlk hS (iv_of (iv_c 0 (a := 0) (b := 0) (by decide +kernel)) (a' := 0) (b' := 1) (by decide +kernel)) (fun t ht hW => (Or.inr ⟨rfl, _, spr, sg_post hb hK hC hG hS ht hW⟩)) dX6_readUnit_88
                · exact ((c37 (iv_one (iv_c 0 (a := 0) (b := 0) (by decide +kernel)) (iv_c 0 (a := 0) (b := 0) (by decide +kernel)) (by decide +kernel)))).elim
          · have hG := hBf31.2.2.2
            rw [htf31] at hG
            refine lv_if_eq (tgt := 87) X.1 X.2.1 dX6_readUnit_71 (by decide) (fun c38 => ?_) (fun c38 => ?_)
            · refine lv_iconst (v := 0) X.1 X.2.1 dX6_readUnit_87 (by decide +kernel) ?_
              have spr : vUn (sgT1 P) (sgL1 P) 4 a = (false, wv32) := by simp only [vUn_4, i4, i20, i23, i29, pv32, cond_true, cond_false, vB_t, vB_f, if_true, if_false, eq_self, not_true_eq_false, not_false_eq_true, Int.reduceEq, Int.reduceLT, or_false, false_or, or_true, true_or]
              have hG := ka_weak (b1 := 0) (b2 := 240) (c1 := wv32) (c2 := wv32) hG (by omega) (by omega) (Int.le_refl _) (Int.le_refl _)
              exact sg_zret2 X hr (sg_zn (iv_of (iv_c 0 (a := 0) (b := 0) (by decide +kernel)) (a' := 0) (b' := 1) (by decide +kernel))) hlk hS (iv_of (iv_c 0 (a := 0) (b := 0) (by decide +kernel)) (a' := 0) (b' := 1) (by decide +kernel)) (fun t ht hW => (Or.inr ⟨rfl, _, spr, sg_post hb hK hC hG hS ht hW⟩)) dX6_readUnit_88
            · exact ((c38 (iv_one (iv_c 0 (a := 0) (b := 0) (by decide +kernel)) (iv_c 0 (a := 0) (b := 0) (by decide +kernel)) (by decide +kernel)))).elim
      · have i24 : ¬ x2.toInt < (6 : Int) := vq_le (iv_ge_of c22) (by decide +kernel) rfl
        exact ((iv_no (iv_le (b' := 2) (iv_ge_of c22) (iv_c 6 (a := 6) (b := 6) (by decide +kernel)) h2 (by decide +kernel)) (by decide +kernel))).elim
    · have i21 : (vC (sgT1 P) (sgL1 P) a = (40 : Int)) = False := vq_ne c19 hf1 (by decide +kernel)
      refine lv_aload_n X.1 X.2.1 dX6_readUnit_17 rfl (lv_at hl 1 rfl) ?_
      refine lv_aload_n X.1 X.2.1 dX6_readUnit_18 rfl (lv_at hl 2 rfl) ?_
      refine lv_iload_n X.1 X.2.1 dX6_readUnit_19 rfl (lv_at hl 3 rfl) ?_
      refine ca_X6_readSum_v2 X hK hG hC hS hb a0 h0 a1 h1 x2 h2 hl0 hav hby wl_3_220 hl.1 (rest := []) rfl (Nat.le_of_ble_eq_true rfl) ⟨Nat.le_of_ble_eq_true rfl, Nat.le_of_ble_eq_true rfl⟩ ⟨Nat.le_of_ble_eq_true rfl, Nat.le_of_ble_eq_true rfl⟩ dX6_readUnit_20 (fun f39 tf39 H locs htf39 hf39 hWf39 hS => ?_)
      rcases hWf39 with ⟨rfl, av40, pv40, gav40, gbv40, hBf39⟩ | ⟨rfl, wv40, pv40, hBf39⟩
      · have hG := hBf39.2.2.2
        rw [htf39] at hG
        have bv40 := vq_bd2 (k := 1) hav (by decide) gav40 gbv40
        have p2v40 : a + 1 ≤ av40 := vq_pg (vq_pg0 a) gav40 (by decide)
        refine lv_if_eq (tgt := 39) X.1 X.2.1 dX6_readUnit_23 (by decide) (fun c41 => ?_) (fun c41 => ?_)
        · exact ((iv_no (a := 1) (b := 0) (iv_eqm c41 (iv_c 1 (a := 1) (b := 1) (by decide +kernel)) (iv_c 0 (a := 0) (b := 0) (by decide +kernel)) (by decide +kernel)) (by decide +kernel))).elim
        · refine lv_aload_n X.1 X.2.1 dX6_readUnit_26 rfl (lv_at hl 1 rfl) ?_
          refine lv_aload_n X.1 X.2.1 dX6_readUnit_27 rfl (lv_at hl 2 rfl) ?_
          refine lv_iload_n X.1 X.2.1 dX6_readUnit_28 rfl (lv_at hl 3 rfl) ?_
          refine ca_X6_readComparison_v2 X hK hG hC hS hb a0 h0 a1 h1 x2 h2 hl0 bv40 hby wl_4_1 hl.1 (rest := []) rfl (Nat.le_of_ble_eq_true rfl) ⟨Nat.le_of_ble_eq_true rfl, Nat.le_of_ble_eq_true rfl⟩ ⟨Nat.le_of_ble_eq_true rfl, Nat.le_of_ble_eq_true rfl⟩ dX6_readUnit_29 (fun f42 tf42 H locs htf42 hf42 hWf42 hS => ?_)
          rcases hWf42 with ⟨rfl, av43, pv43, gav43, gbv43, hBf42⟩ | ⟨rfl, wv43, pv43, hBf42⟩
          · have hG := hBf42.2.2.2
            rw [htf42] at hG
            have bv43 := vq_bd2 (k := 1) bv40 (by decide) gav43 gbv43
            have p2v43 : a + 2 ≤ av43 := vq_pg p2v40 gav43 (by decide)
            refine lv_if_eq (tgt := 39) X.1 X.2.1 dX6_readUnit_32 (by decide) (fun c44 => ?_) (fun c44 => ?_)
            · exact ((iv_no (a := 1) (b := 0) (iv_eqm c44 (iv_c 1 (a := 1) (b := 1) (by decide +kernel)) (iv_c 0 (a := 0) (b := 0) (by decide +kernel)) (by decide +kernel)) (by decide +kernel))).elim
            · refine lv_iconst (v := 1) X.1 X.2.1 dX6_readUnit_35 (by decide +kernel) ?_
              refine lv_goto (tgt := 40) X.1 X.2.1 dX6_readUnit_36 (by decide) ?_
              have spr : vUn (sgT1 P) (sgL1 P) 4 a = (true, av43) := by simp only [vUn_4, i4, i21, pv40, pv43, cond_true, cond_false, vB_t, vB_f, if_true, if_false, eq_self, not_true_eq_false, not_false_eq_true, Int.reduceEq, Int.reduceLT, or_false, false_or, or_true, true_or]
              exact sg_zret2 X hr (sg_zn (iv_of (iv_c 1 (a := 1) (b := 1) (by decide +kernel)) (a' := 0) (b' := 1) (by decide +kernel))) hlk hS (iv_of (iv_c 1 (a := 1) (b := 1) (by decide +kernel)) (a' := 0) (b' := 1) (by decide +kernel)) (fun t ht hW => (Or.inl ⟨rfl, _, spr, vq_pgw p2v43 (by decide), (bv43).2, sg_post hb hK hC hG hS ht hW⟩)) dX6_readUnit_40
          · have hG := hBf42.2.2.2
            rw [htf42] at hG
            refine lv_if_eq (tgt := 39) X.1 X.2.1 dX6_readUnit_32 (by decide) (fun c45 => ?_) (fun c45 => ?_)
            · refine lv_iconst (v := 0) X.1 X.2.1 dX6_readUnit_39 (by decide +kernel) ?_
              have spr : vUn (sgT1 P) (sgL1 P) 4 a = (false, wv43) := by simp only [vUn_4, i4, i21, pv40, pv43, cond_true, cond_false, vB_t, vB_f, if_true, if_false, eq_self, not_true_eq_false, not_false_eq_true, Int.reduceEq, Int.reduceLT, or_false, false_or, or_true, true_or]
              have hG := ka_weak (b1 := 0) (b2 := 240) (c1 := wv43) (c2 := wv43) hG (by omega) (by omega) (Int.le_refl _) (Int.le_refl _)
              exact sg_zret2 X hr (sg_zn (iv_of (iv_c 0 (a := 0) (b := 0) (by decide +kernel)) (a' := 0) (b' := 1) (by decide +kernel))) hlk hS (iv_of (iv_c 0 (a := 0) (b := 0) (by decide +kernel)) (a' := 0) (b' := 1) (by decide +kernel)) (fun t ht hW => (Or.inr ⟨rfl, _, spr, sg_post hb hK hC hG hS ht hW⟩)) dX6_readUnit_40
            · exact ((c45 (iv_one (iv_c 0 (a := 0) (b := 0) (by decide +kernel)) (iv_c 0 (a := 0) (b := 0) (by decide +kernel)) (by decide +kernel)))).elim
      · have hG := hBf39.2.2.2
        rw [htf39] at hG
        refine lv_if_eq (tgt := 39) X.1 X.2.1 dX6_readUnit_23 (by decide) (fun c46 => ?_) (fun c46 => ?_)
        · refine lv_iconst (v := 0) X.1 X.2.1 dX6_readUnit_39 (by decide +kernel) ?_
          have spr : vUn (sgT1 P) (sgL1 P) 4 a = (false, wv40) := by simp only [vUn_4, i4, i21, pv40, cond_true, cond_false, vB_t, vB_f, if_true, if_false, eq_self, not_true_eq_false, not_false_eq_true, Int.reduceEq, Int.reduceLT, or_false, false_or, or_true, true_or]
          have hG := ka_weak (b1 := 0) (b2 := 240) (c1 := wv40) (c2 := wv40) hG (by omega) (by omega) (Int.le_refl _) (Int.le_refl _)
          exact sg_zret2 X hr (sg_zn (iv_of (iv_c 0 (a := 0) (b := 0) (by decide +kernel)) (a' := 0) (b' := 1) (by decide +kernel))) hlk hS (iv_of (iv_c 0 (a := 0) (b := 0) (by decide +kernel)) (a' := 0) (b' := 1) (by decide +kernel)) (fun t ht hW => (Or.inr ⟨rfl, _, spr, sg_post hb hK hC hG hS ht hW⟩)) dX6_readUnit_40
        · exact ((c46 (iv_one (iv_c 0 (a := 0) (b := 0) (by decide +kernel)) (iv_c 0 (a := 0) (b := 0) (by decide +kernel)) (by decide +kernel)))).elim

theorem ca_X6_readUnit_v2  {a w1 w2 : Int}  (X : CallFix p m c cc nL s args sg_tbl own) (hK : va_K D vwCl tys s) (hG : sgG (KA a a w1 w2 P) D vwCl (fun q : Nat => base ≤ q) tys ad ks H) (hC : sgC base s) (hS : va_S (fun q : Nat => base ≤ q) s.heap H locs) (hb : base ≤ s.heap.size) (a0 : Nat) (h0 : isK ad ks 6 a0) (a1 : Nat) (h1 : isK ad ks 10 a1) (x2 : Int32) (h2 : iv 2 2 x2) (hl0 : 0 ≤ sgL1 P ∧ sgL1 P ≤ 240) (hav : 0 ≤ a ∧ a ≤ sgL1 P) (hby : ∀ j : Nat, (↑j : Int) < sgL1 P → 1 ≤ sgT1 P j ∧ sgT1 P j ≤ 255) (hl : Cond.methodLink own index yX6_readUnit ∈ sg_tbl) (hsize : ls.size = nL) (hst : st0 = [.ref a1, .int x2].reverse ++ .ref a0 :: rest) (hW : (rest.map fun v => v.category).sum ≤ 8) (hR : 16 ≤ R.frames ∧ 392 ≤ R.locals) (hf : cells ≤ R.cells ∧ slots ≤ R.slots) (hdg : decode cc pc = .ok (.invokevirtual index, 3)) (kk : ∀ (r : Int32) (t : State) (H1 : Heap) (locs1 : List Loc), t.heap = H1 → (fun r : Int32 => iv 0 1 r) r → ((r = 1 ∧ ∃ a1 : Int, vUn (sgT1 P) (sgL1 P) 4 a = (true, a1) ∧ a + 1 ≤ a1 ∧ a1 ≤ sgL1 P ∧ sgB (KA a1 a1 w1 w2 P) D vwCl base tys ad ks t) ∨ (r = 0 ∧ ∃ w : Int, vUn (sgT1 P) (sgL1 P) 4 a = (false, w) ∧ sgB (KA 0 240 w w P) D vwCl base tys ad ks t)) → va_S (fun q : Nat => base ≤ q) s.heap H1 locs1 → W p l e R s m args below meth c H1 locs1 cells slots Q (F0 m (pc + 3) ls (.int r :: rest))) : W p l e R s m args below meth c H locs cells slots Q (F0 m pc ls st0) :=
  sg_callV2i X hK hG hC hS hb (m_X6_readUnit_v2 l a0 h0 a1 h1 x2 h2 hl0 hav hby) h0 (k := 6) (ci := 6) rfl (C := RX6) (T := TX6) (N := 7) rfl wl_4_12 wl_1_3 wl_4_11 wl_0_16 (n := 2) (by decide +kernel) rfl rfl rfl hl hsize hst hW hR hf hdg kk

set_option maxHeartbeats 8000000 in
set_option maxRecDepth 100000 in
theorem m_X6_readCondition_v2_0 (l : Launch) {D : va_G} {base : Nat} {tys : List (ClassId × FieldType)} {ad ks : List Nat} {P : sgPm}{a w1 w2 : Int}  (a0 : Nat) (h0 : isK ad ks 6 a0) (a1 : Nat) (h1 : isK ad ks 10 a1) (x2 : Int32) (h2 : iv 2 2 x2) (x3 : Int32) (h3 : iv 0 0 x3) (hl0 : 0 ≤ sgL1 P ∧ sgL1 P ≤ 240) (hav : 0 ≤ a ∧ a ≤ sgL1 P) (hby : ∀ j : Nat, (↑j : Int) < sgL1 P → 1 ≤ sgT1 P j ∧ sgT1 P j ≤ 255) : Met l yX6_readCondition (Cond.code yX6_readCondition cX6_readCondition 7 (some .boolean) :: sg_tbl) ({ frames := 16, cells := 0, slots := 0, locals := 392 }) (va_Pc [.ref a0, .ref a1, .int x2, .int x3] (sgB (KA a a w1 w2 P) D vwCl base tys ad ks)) (va_Qi (fun r (u : Int32) => u = r ∧ (fun r : Int32 => iv 0 1 r) r) (fun u t => (u = 1 ∧ ∃ a1 : Int, vCon (sgT1 P) (sgL1 P) 4 a = (true, a1) ∧ a + 1 ≤ a1 ∧ a1 ≤ sgL1 P ∧ sgB (KA a1 a1 w1 w2 P) D vwCl base tys ad ks t) ∨ (u = 0 ∧ ∃ w : Int, vCon (sgT1 P) (sgL1 P) 4 a = (false, w) ∧ sgB (KA 0 240 w w P) D vwCl base tys ad ks t)) (fun q : Nat => base ≤ q)) 0 0 (fun q : Nat => base ≤ q) := by
  refine sg_ofW (by decide +kernel) (Nat.le_of_ble_eq_true rfl) (fun p e s m below meth c X hr hlk hb hK hC hG ls hl => ?_)
  have hS : va_S (fun q : Nat => base ≤ q) s.heap s.heap [] := va_S.rf
  have hl : lv_has ls 7 [(0, .ref a0), (1, .ref a1), (2, .int x2), (3, .int x3)] := hl
  refine lv_iload_n X.1 X.2.1 dX6_readCondition_0 rfl (lv_at hl 3 rfl) ?_
  refine lv_if_ne (tgt := 15) X.1 X.2.1 dX6_readCondition_1 (by decide) (fun c1 => ?_) (fun c1 => ?_)
  · have i2 : (x3.toInt = (0 : Int)) = False := vq_ne c1 rfl (by decide +kernel)
    exact ((c1 (iv_one h3 (iv_c 0 (a := 0) (b := 0) (by decide +kernel)) (by decide +kernel)))).elim
  · have i3 : x3.toInt = (0 : Int) := vq_eq c1 rfl (by decide +kernel)
    refine lv_aload_n X.1 X.2.1 dX6_readCondition_4 rfl (lv_at hl 0 rfl) ?_
    refine lv_aload_n X.1 X.2.1 dX6_readCondition_5 rfl (lv_at hl 1 rfl) ?_
    refine lv_iload_n X.1 X.2.1 dX6_readCondition_6 rfl (lv_at hl 2 rfl) ?_
    refine ca_X6_readUnit_v2 X hK hG hC hS hb a0 h0 a1 h1 x2 h2 hl0 hav hby wl_4_9 hl.1 (rest := []) rfl (Nat.le_of_ble_eq_true rfl) ⟨Nat.le_of_ble_eq_true rfl, Nat.le_of_ble_eq_true rfl⟩ ⟨Nat.le_of_ble_eq_true rfl, Nat.le_of_ble_eq_true rfl⟩ dX6_readCondition_7 (fun f4 tf4 H locs htf4 hf4 hWf4 hS => ?_)
    rcases hWf4 with ⟨rfl, av5, pv5, gav5, gbv5, hBf4⟩ | ⟨rfl, wv5, pv5, hBf4⟩
    · have hG := hBf4.2.2.2
      rw [htf4] at hG
      have bv5 := vq_bd2 (k := 1) hav (by decide) gav5 gbv5
      have p2v5 : a + 1 ≤ av5 := vq_pg (vq_pg0 a) gav5 (by decide)
      refine lv_if_ne (tgt := 15) X.1 X.2.1 dX6_readCondition_10 (by decide) (fun c6 => ?_) (fun c6 => ?_)
      · refine lv_iconst (v := 0) X.1 X.2.1 dX6_readCondition_15 (by decide +kernel) ?_
        refine lv_istore (lv' := [(4, .int 0), (0, .ref a0), (1, .ref a1), (2, .int x2), (3, .int x3)]) X.1 X.2.1 dX6_readCondition_16 hl (by decide) rfl (fun ls hl => ?_)
        refine lv_iconst (v := 0) X.1 X.2.1 dX6_readCondition_18 (by decide +kernel) ?_
        refine lv_istore (lv' := [(5, .int 0), (4, .int 0), (0, .ref a0), (1, .ref a1), (2, .int x2), (3, .int x3)]) X.1 X.2.1 dX6_readCondition_19 hl (by decide) rfl (fun ls hl => ?_)
        have B7_21 : ∀ (N : Nat) (H : Heap) (locs : List Loc) (ls : Array Slot) (z7_4 : Int32) (z7_5 : Int32) (a7 : Int), 0 ≤ a7 → a7 ≤ sgL1 P → a + 1 ≤ a7 → sgG (KA a7 a7 w1 w2 P) D vwCl (fun q : Nat => base ≤ q) tys ad ks H → va_S (fun q : Nat => base ≤ q) s.heap H locs → lv_has ls 7 [(0, .ref a0), (1, .ref a1), (2, .int x2), (4, .int z7_4), (5, .int z7_5)] → iv 0 1 z7_4 → iv 0 240 z7_5 → (vCon (sgT1 P) (sgL1 P) 4 a = vL (vUn (sgT1 P) (sgL1 P) 4) opC (sgT1 P) (sgL1 P) a7 ∧ 2 * (z7_5 : Int32).toInt ≤ a7) → (241 - z7_5.toInt).toNat ≤ N → W p l e (headSpec (Cond.code yX6_readCondition cX6_readCondition 7 (some .boolean) :: sg_tbl) ({ frames := 16, cells := 0, slots := 0, locals := 392 })).room s m #[.ref a0, .ref a1, .int x2, .int x3] below meth c H locs 0 0 (MQ below (va_Qi (fun r (u : Int32) => u = r ∧ (fun r : Int32 => iv 0 1 r) r) (fun u t => (u = 1 ∧ ∃ a1 : Int, vCon (sgT1 P) (sgL1 P) 4 a = (true, a1) ∧ a + 1 ≤ a1 ∧ a1 ≤ sgL1 P ∧ sgB (KA a1 a1 w1 w2 P) D vwCl base tys ad ks t) ∨ (u = 0 ∧ ∃ w : Int, vCon (sgT1 P) (sgL1 P) 4 a = (false, w) ∧ sgB (KA 0 240 w w P) D vwCl base tys ad ks t)) (fun q : Nat => base ≤ q)) #[.ref a0, .ref a1, .int x2, .int x3] s 0 0 (fun q : Nat => base ≤ q)) (F0 m 21 ls []) := by
          intro N; induction N with
          | zero =>
            intro H locs ls z7_4 z7_5 a7 jl7 jm7 jk7 hG hS hl hz7_4 hz7_5 xf7 hN
            exact absurd hN (by have := iv_up hz7_5; omega)
          | succ N ih7 =>
            intro H locs ls z7_4 z7_5 a7 jl7 jm7 jk7 hG hS hl hz7_4 hz7_5 xf7 hN7
            refine lv_iload X.1 X.2.1 dX6_readCondition_21 (lv_at hl 4 rfl) ?_
            refine lv_sipush (v := 240) X.1 X.2.1 dX6_readCondition_23 (by decide +kernel) ?_
            refine lv_icmp_ge (tgt := 109) X.1 X.2.1 dX6_readCondition_26 (by decide) (fun c8 => ?_) (fun c8 => ?_)
            · have i9 : ¬ z7_5.toInt < (240 : Int) := vq_le c8 (by decide +kernel) rfl
              exact absurd xf7.2 (vq_deadc (And.intro jl7 jm7) hl0 i9)
            · have i10 : z7_5.toInt < (240 : Int) := vq_lt (iv_gt_of c8) rfl (by decide +kernel)
              refine lv_aload_n X.1 X.2.1 dX6_readCondition_29 rfl (lv_at hl 1 rfl) ?_
              refine ca_X10_sign_v X hK hG hC (fun _ h => h) hS hb a1 h1 hl0 (And.intro jl7 jm7) wl_3_219 hl.1 (rest := []) rfl (Nat.le_of_ble_eq_true rfl) ⟨Nat.le_of_ble_eq_true rfl, Nat.le_of_ble_eq_true rfl⟩ ⟨Nat.le_of_ble_eq_true rfl, Nat.le_of_ble_eq_true rfl⟩ dX6_readCondition_30 (fun f11 locs hf11 hS => ?_)
              have yf11 : iv 0 255 f11 := vq_255 hf11 hby
              refine lv_istore (lv' := [(6, .int f11), (0, .ref a0), (1, .ref a1), (2, .int x2), (4, .int z7_4), (5, .int z7_5)]) X.1 X.2.1 dX6_readCondition_33 hl (by decide) rfl (fun ls hl => ?_)
              refine lv_iload X.1 X.2.1 dX6_readCondition_35 (lv_at hl 0 rfl) ?_
              refine lv_bipush (v := 38) X.1 X.2.1 dX6_readCondition_37 (by decide +kernel) ?_
              refine lv_icmp_eq (tgt := 53) X.1 X.2.1 dX6_readCondition_39 (by decide) (fun c12 => ?_) (fun c12 => ?_)
              · have i13 : vC (sgT1 P) (sgL1 P) a7 = (38 : Int) := vq_eq c12 hf11 (by decide +kernel)
                refine lv_iload X.1 X.2.1 dX6_readCondition_53 (lv_at hl 0 rfl) ?_
                refine lv_bipush (v := 38) X.1 X.2.1 dX6_readCondition_55 (by decide +kernel) ?_
                refine lv_icmp_eq (tgt := 69) X.1 X.2.1 dX6_readCondition_57 (by decide) (fun c15 => ?_) (fun c15 => ?_)
                · have i16 : vC (sgT1 P) (sgL1 P) a7 = (38 : Int) := vq_eq c15 hf11 (by decide +kernel)
                  refine lv_aload_n X.1 X.2.1 dX6_readCondition_69 rfl (lv_at hl 2 rfl) ?_
                  refine ca_X10_step_v X hK hG hC hS hb a1 h1 hl0 (vC_lt (b := sgT1 P) (by rw [i16]; decide)) wl_3_229 hl.1 (rest := []) rfl (Nat.le_of_ble_eq_true rfl) ⟨Nat.le_of_ble_eq_true rfl, Nat.le_of_ble_eq_true rfl⟩ ⟨Nat.le_of_ble_eq_true rfl, Nat.le_of_ble_eq_true rfl⟩ dX6_readCondition_70 (fun tg18 H locs htg18 hWg18 hS => ?_)
                  have b19 := vC_lt (b := sgT1 P) (n := sgL1 P) (a := a7) (by rw [i16]; decide)
                  have bb19 := vq_bdX (b := sgT1 P) b19
                  have pb19 : a + 2 ≤ vX (sgT1 P) (sgL1 P) (a7 + 1) := vq_pg jk7 (m := 1) (vX_ge (sgT1 P) (sgL1 P) (a7 + 1)).1 (by decide)
                  have hG := hWg18.2.2.2
                  rw [htg18] at hG
                  refine lv_aload_n X.1 X.2.1 dX6_readCondition_73 rfl (lv_at hl 1 rfl) ?_
                  refine lv_aload_n X.1 X.2.1 dX6_readCondition_74 rfl (lv_at hl 2 rfl) ?_
                  refine lv_iload_n X.1 X.2.1 dX6_readCondition_75 rfl (lv_at hl 3 rfl) ?_
                  refine ca_X6_readUnit_v2 X hK hG hC hS hb a0 h0 a1 h1 x2 h2 hl0 bb19 hby wl_4_9 hl.1 (rest := []) rfl (Nat.le_of_ble_eq_true rfl) ⟨Nat.le_of_ble_eq_true rfl, Nat.le_of_ble_eq_true rfl⟩ ⟨Nat.le_of_ble_eq_true rfl, Nat.le_of_ble_eq_true rfl⟩ dX6_readCondition_76 (fun f20 tf20 H locs htf20 hf20 hWf20 hS => ?_)
                  rcases hWf20 with ⟨rfl, av21, pv21, gav21, gbv21, hBf20⟩ | ⟨rfl, wv21, pv21, hBf20⟩
                  · have hG := hBf20.2.2.2
                    rw [htf20] at hG
                    have bv21 := vq_bd2 (k := 1) bb19 (by decide) gav21 gbv21
                    have p2v21 : a + 3 ≤ av21 := vq_pg pb19 gav21 (by decide)
                    refine lv_if_ne (tgt := 84) X.1 X.2.1 dX6_readCondition_79 (by decide) (fun c22 => ?_) (fun c22 => ?_)
                    · refine lv_iload X.1 X.2.1 dX6_readCondition_84 (lv_at hl 0 rfl) ?_
                      refine lv_bipush (v := 38) X.1 X.2.1 dX6_readCondition_86 (by decide +kernel) ?_
                      refine lv_icmp_ne (tgt := 100) X.1 X.2.1 dX6_readCondition_88 (by decide) (fun c23 => ?_) (fun c23 => ?_)
                      · have i24 : (vC (sgT1 P) (sgL1 P) a7 = (38 : Int)) = False := vq_ne c23 hf11 (by decide +kernel)
                        exact ((c23 (iv_one (iv_eqm (a' := 38) (b' := 38) c12 yf11 (iv_c 38 (a := 38) (b := 38) (by decide +kernel)) (by decide +kernel)) (iv_c 38 (a := 38) (b := 38) (by decide +kernel)) (by decide +kernel)))).elim
                      · have i25 : vC (sgT1 P) (sgL1 P) a7 = (38 : Int) := vq_eq c23 hf11 (by decide +kernel)
                        refine lv_aload_n X.1 X.2.1 dX6_readCondition_91 rfl (lv_at hl 1 rfl) ?_
                        refine lv_bipush (v := (-17)) X.1 X.2.1 dX6_readCondition_92 (by decide +kernel) ?_
                        refine ca_X6_put_v X hK hG hC hS hb a0 h0 (-17) wl_3_232 hl.1 (rest := []) rfl (Nat.le_of_ble_eq_true rfl) ⟨Nat.le_of_ble_eq_true rfl, Nat.le_of_ble_eq_true rfl⟩ ⟨Nat.le_of_ble_eq_true rfl, Nat.le_of_ble_eq_true rfl⟩ dX6_readCondition_94 (fun H locs hG hS => ?_)
                        refine lv_goto (tgt := 103) X.1 X.2.1 dX6_readCondition_97 (by decide) ?_
                        obtain ⟨y27, ey27⟩ : ∃ y : Int32, y = z7_5 + Int32.ofInt 1 := ⟨_, rfl⟩
                        have xy27 : y27.toInt = (z7_5.toInt + 1) := sg_exadd ey27 (iv_lt (b' := 239) (iv_gt_of c8) hz7_5 (iv_c 240 (a := 240) (b := 240) (by decide +kernel)) (by decide +kernel)) (iv_c _ (a := 1) (b := 1) (by decide +kernel)) (by decide +kernel) rfl (by decide +kernel)
                        refine lv_iinc (v := y27) (lv' := [(5, .int y27), (6, .int f11), (0, .ref a0), (1, .ref a1), (2, .int x2), (4, .int z7_4)]) X.1 X.2.1 dX6_readCondition_103 hl (k := 5) rfl ey27.symm (by decide) rfl (fun ls hl => ?_)
                        refine lv_goto (tgt := 21) X.1 X.2.1 dX6_readCondition_106 (by decide) ?_
                        exact ih7 H _ _ z7_4 y27 (av21) (bv21).1 (bv21).2 (vq_pgw p2v21 (by decide)) hG hS (lv_sub hl [2, 3, 4, 5, 0] rfl) hz7_4 (iv_of (iv_add (a' := 1) (b' := 240) ey27 (iv_lt (b' := 239) (iv_gt_of c8) hz7_5 (iv_c 240 (a := 240) (b := 240) (by decide +kernel)) (by decide +kernel)) (iv_c _ (a := 1) (b := 1) (by decide +kernel)) (by decide +kernel)) (a' := 0) (b' := 240) (by decide +kernel)) ⟨xf7.1.trans (vL_step (opC_38 i25) pv21 (vq_l1 (vX_ge (sgT1 P) (sgL1 P) (a7 + 1)).1 gav21) (vC_lt (b := sgT1 P) (n := sgL1 P) (by rw [i25]; decide)).2), vq_y1 xf7.2 xy27 (vX_ge (sgT1 P) (sgL1 P) (a7 + 1)).1 gav21⟩ (iv_stepU ey27 (iv_lt (b' := 239) (iv_gt_of c8) hz7_5 (iv_c 240 (a := 240) (b := 240) (by decide +kernel)) (by decide +kernel)) (by decide +kernel) hN7)
                    · exact ((iv_no (a := 1) (b := 0) (iv_eqm c22 (iv_c 1 (a := 1) (b := 1) (by decide +kernel)) (iv_c 0 (a := 0) (b := 0) (by decide +kernel)) (by decide +kernel)) (by decide +kernel))).elim
                  · have hG := hBf20.2.2.2
                    rw [htf20] at hG
                    refine lv_if_ne (tgt := 84) X.1 X.2.1 dX6_readCondition_79 (by decide) (fun c28 => ?_) (fun c28 => ?_)
                    · exact ((c28 (iv_one (iv_c 0 (a := 0) (b := 0) (by decide +kernel)) (iv_c 0 (a := 0) (b := 0) (by decide +kernel)) (by decide +kernel)))).elim
                    · refine lv_iconst (v := 0) X.1 X.2.1 dX6_readCondition_82 (by decide +kernel) ?_
                      have spr : vCon (sgT1 P) (sgL1 P) 4 a = (false, wv21) := by exact xf7.1.trans (vL_bad (opC_38 i16) pv21)
                      have hG := ka_weak (b1 := 0) (b2 := 240) (c1 := wv21) (c2 := wv21) hG (by omega) (by omega) (Int.le_refl _) (Int.le_refl _)
                      exact sg_zret2 X hr (sg_zn (iv_of (iv_c 0 (a := 0) (b := 0) (by decide +kernel)) (a' := 0) (b' := 1) (by decide +kernel))) hlk hS (iv_of (iv_c 0 (a := 0) (b := 0) (by decide +kernel)) (a' := 0) (b' := 1) (by decide +kernel)) (fun t ht hW => (Or.inr ⟨rfl, _, spr, sg_post hb hK hC hG hS ht hW⟩)) dX6_readCondition_83
                · have i17 : (vC (sgT1 P) (sgL1 P) a7 = (38 : Int)) = False := vq_ne c15 hf11 (by decide +kernel)
                  exact ((c15 (iv_one (iv_eqm (a' := 38) (b' := 38) c12 yf11 (iv_c 38 (a := 38) (b := 38) (by decide +kernel)) (by decide +kernel)) (iv_c 38 (a := 38) (b := 38) (by decide +kernel)) (by decide +kernel)))).elim
              · have i14 : (vC (sgT1 P) (sgL1 P) a7 = (38 : Int)) = False := vq_ne c12 hf11 (by decide +kernel)
                refine lv_iload X.1 X.2.1 dX6_readCondition_42 (lv_at hl 4 rfl) ?_
                refine lv_if_eq (tgt := 53) X.1 X.2.1 dX6_readCondition_44 (by decide) (fun c29 => ?_) (fun c29 => ?_)
                · have i30 : z7_4.toInt = (0 : Int) := vq_eq c29 rfl (by decide +kernel)
                  refine lv_iload X.1 X.2.1 dX6_readCondition_53 (lv_at hl 0 rfl) ?_
                  refine lv_bipush (v := 38) X.1 X.2.1 dX6_readCondition_55 (by decide +kernel) ?_
                  refine lv_icmp_eq (tgt := 69) X.1 X.2.1 dX6_readCondition_57 (by decide) (fun c32 => ?_) (fun c32 => ?_)
                  · have i33 : vC (sgT1 P) (sgL1 P) a7 = (38 : Int) := vq_eq c32 hf11 (by decide +kernel)
                    refine lv_aload_n X.1 X.2.1 dX6_readCondition_69 rfl (lv_at hl 2 rfl) ?_
                    refine ca_X10_step_v X hK hG hC hS hb a1 h1 hl0 (vC_lt (b := sgT1 P) (by rw [i33]; decide)) wl_3_229 hl.1 (rest := []) rfl (Nat.le_of_ble_eq_true rfl) ⟨Nat.le_of_ble_eq_true rfl, Nat.le_of_ble_eq_true rfl⟩ ⟨Nat.le_of_ble_eq_true rfl, Nat.le_of_ble_eq_true rfl⟩ dX6_readCondition_70 (fun tg35 H locs htg35 hWg35 hS => ?_)
                    have b36 := vC_lt (b := sgT1 P) (n := sgL1 P) (a := a7) (by rw [i33]; decide)
                    have bb36 := vq_bdX (b := sgT1 P) b36
                    have pb36 : a + 2 ≤ vX (sgT1 P) (sgL1 P) (a7 + 1) := vq_pg jk7 (m := 1) (vX_ge (sgT1 P) (sgL1 P) (a7 + 1)).1 (by decide)
                    have hG := hWg35.2.2.2
                    rw [htg35] at hG
                    refine lv_aload_n X.1 X.2.1 dX6_readCondition_73 rfl (lv_at hl 1 rfl) ?_
                    refine lv_aload_n X.1 X.2.1 dX6_readCondition_74 rfl (lv_at hl 2 rfl) ?_
                    refine lv_iload_n X.1 X.2.1 dX6_readCondition_75 rfl (lv_at hl 3 rfl) ?_
                    refine ca_X6_readUnit_v2 X hK hG hC hS hb a0 h0 a1 h1 x2 h2 hl0 bb36 hby wl_4_9 hl.1 (rest := []) rfl (Nat.le_of_ble_eq_true rfl) ⟨Nat.le_of_ble_eq_true rfl, Nat.le_of_ble_eq_true rfl⟩ ⟨Nat.le_of_ble_eq_true rfl, Nat.le_of_ble_eq_true rfl⟩ dX6_readCondition_76 (fun f37 tf37 H locs htf37 hf37 hWf37 hS => ?_)
                    rcases hWf37 with ⟨rfl, av38, pv38, gav38, gbv38, hBf37⟩ | ⟨rfl, wv38, pv38, hBf37⟩
                    · have hG := hBf37.2.2.2
                      rw [htf37] at hG
                      have bv38 := vq_bd2 (k := 1) bb36 (by decide) gav38 gbv38
                      have p2v38 : a + 3 ≤ av38 := vq_pg pb36 gav38 (by decide)
                      refine lv_if_ne (tgt := 84) X.1 X.2.1 dX6_readCondition_79 (by decide) (fun c39 => ?_) (fun c39 => ?_)
                      · refine lv_iload X.1 X.2.1 dX6_readCondition_84 (lv_at hl 0 rfl) ?_
                        refine lv_bipush (v := 38) X.1 X.2.1 dX6_readCondition_86 (by decide +kernel) ?_
                        refine lv_icmp_ne (tgt := 100) X.1 X.2.1 dX6_readCondition_88 (by decide) (fun c40 => ?_) (fun c40 => ?_)
                        · have i41 : (vC (sgT1 P) (sgL1 P) a7 = (38 : Int)) = False := vq_ne c40 hf11 (by decide +kernel)
                          exact ((c40 (iv_one (iv_eqm (a' := 38) (b' := 38) c32 yf11 (iv_c 38 (a := 38) (b := 38) (by decide +kernel)) (by decide +kernel)) (iv_c 38 (a := 38) (b := 38) (by decide +kernel)) (by decide +kernel)))).elim
                        · have i42 : vC (sgT1 P) (sgL1 P) a7 = (38 : Int) := vq_eq c40 hf11 (by decide +kernel)
                          refine lv_aload_n X.1 X.2.1 dX6_readCondition_91 rfl (lv_at hl 1 rfl) ?_
                          refine lv_bipush (v := (-17)) X.1 X.2.1 dX6_readCondition_92 (by decide +kernel) ?_
                          refine ca_X6_put_v X hK hG hC hS hb a0 h0 (-17) wl_3_232 hl.1 (rest := []) rfl (Nat.le_of_ble_eq_true rfl) ⟨Nat.le_of_ble_eq_true rfl, Nat.le_of_ble_eq_true rfl⟩ ⟨Nat.le_of_ble_eq_true rfl, Nat.le_of_ble_eq_true rfl⟩ dX6_readCondition_94 (fun H locs hG hS => ?_)
                          refine lv_goto (tgt := 103) X.1 X.2.1 dX6_readCondition_97 (by decide) ?_
                          obtain ⟨y44, ey44⟩ : ∃ y : Int32, y = z7_5 + Int32.ofInt 1 := ⟨_, rfl⟩
                          have xy44 : y44.toInt = (z7_5.toInt + 1) := sg_exadd ey44 (iv_lt (b' := 239) (iv_gt_of c8) hz7_5 (iv_c 240 (a := 240) (b := 240) (by decide +kernel)) (by decide +kernel)) (iv_c _ (a := 1) (b := 1) (by decide +kernel)) (by decide +kernel) rfl (by decide +kernel)
                          refine lv_iinc (v := y44) (lv' := [(5, .int y44), (6, .int f11), (0, .ref a0), (1, .ref a1), (2, .int x2), (4, .int z7_4)]) X.1 X.2.1 dX6_readCondition_103 hl (k := 5) rfl ey44.symm (by decide) rfl (fun ls hl => ?_)
                          refine lv_goto (tgt := 21) X.1 X.2.1 dX6_readCondition_106 (by decide) ?_
                          exact ih7 H _ _ z7_4 y44 (av38) (bv38).1 (bv38).2 (vq_pgw p2v38 (by decide)) hG hS (lv_sub hl [2, 3, 4, 5, 0] rfl) (iv_of (iv_eqm (a' := 0) (b' := 0) c29 hz7_4 (iv_c 0 (a := 0) (b := 0) (by decide +kernel)) (by decide +kernel)) (a' := 0) (b' := 1) (by decide +kernel)) (iv_of (iv_add (a' := 1) (b' := 240) ey44 (iv_lt (b' := 239) (iv_gt_of c8) hz7_5 (iv_c 240 (a := 240) (b := 240) (by decide +kernel)) (by decide +kernel)) (iv_c _ (a := 1) (b := 1) (by decide +kernel)) (by decide +kernel)) (a' := 0) (b' := 240) (by decide +kernel)) ⟨xf7.1.trans (vL_step (opC_38 i42) pv38 (vq_l1 (vX_ge (sgT1 P) (sgL1 P) (a7 + 1)).1 gav38) (vC_lt (b := sgT1 P) (n := sgL1 P) (by rw [i42]; decide)).2), vq_y1 xf7.2 xy44 (vX_ge (sgT1 P) (sgL1 P) (a7 + 1)).1 gav38⟩ (iv_stepU ey44 (iv_lt (b' := 239) (iv_gt_of c8) hz7_5 (iv_c 240 (a := 240) (b := 240) (by decide +kernel)) (by decide +kernel)) (by decide +kernel) hN7)
                      · exact ((iv_no (a := 1) (b := 0) (iv_eqm c39 (iv_c 1 (a := 1) (b := 1) (by decide +kernel)) (iv_c 0 (a := 0) (b := 0) (by decide +kernel)) (by decide +kernel)) (by decide +kernel))).elim
                    · have hG := hBf37.2.2.2
                      rw [htf37] at hG
                      refine lv_if_ne (tgt := 84) X.1 X.2.1 dX6_readCondition_79 (by decide) (fun c45 => ?_) (fun c45 => ?_)
                      · exact ((c45 (iv_one (iv_c 0 (a := 0) (b := 0) (by decide +kernel)) (iv_c 0 (a := 0) (b := 0) (by decide +kernel)) (by decide +kernel)))).elim
                      · refine lv_iconst (v := 0) X.1 X.2.1 dX6_readCondition_82 (by decide +kernel) ?_
                        have spr : vCon (sgT1 P) (sgL1 P) 4 a = (false, wv38) := by exact xf7.1.trans (vL_bad (opC_38 i33) pv38)
                        have hG := ka_weak (b1 := 0) (b2 := 240) (c1 := wv38) (c2 := wv38) hG (by omega) (by omega) (Int.le_refl _) (Int.le_refl _)
                        exact sg_zret2 X hr (sg_zn (iv_of (iv_c 0 (a := 0) (b := 0) (by decide +kernel)) (a' := 0) (b' := 1) (by decide +kernel))) hlk hS (iv_of (iv_c 0 (a := 0) (b := 0) (by decide +kernel)) (a' := 0) (b' := 1) (by decide +kernel)) (fun t ht hW => (Or.inr ⟨rfl, _, spr, sg_post hb hK hC hG hS ht hW⟩)) dX6_readCondition_83
                  · have i34 : (vC (sgT1 P) (sgL1 P) a7 = (38 : Int)) = False := vq_ne c32 hf11 (by decide +kernel)
                    refine lv_iload X.1 X.2.1 dX6_readCondition_60 (lv_at hl 0 rfl) ?_
                    refine lv_bipush (v := 124) X.1 X.2.1 dX6_readCondition_62 (by decide +kernel) ?_
                    refine lv_icmp_eq (tgt := 69) X.1 X.2.1 dX6_readCondition_64 (by decide) (fun c46 => ?_) (fun c46 => ?_)
                    · have i47 : vC (sgT1 P) (sgL1 P) a7 = (124 : Int) := vq_eq c46 hf11 (by decide +kernel)
                      refine lv_aload_n X.1 X.2.1 dX6_readCondition_69 rfl (lv_at hl 2 rfl) ?_
                      refine ca_X10_step_v X hK hG hC hS hb a1 h1 hl0 (vC_lt (b := sgT1 P) (by rw [i47]; decide)) wl_3_229 hl.1 (rest := []) rfl (Nat.le_of_ble_eq_true rfl) ⟨Nat.le_of_ble_eq_true rfl, Nat.le_of_ble_eq_true rfl⟩ ⟨Nat.le_of_ble_eq_true rfl, Nat.le_of_ble_eq_true rfl⟩ dX6_readCondition_70 (fun tg49 H locs htg49 hWg49 hS => ?_)
                      have b50 := vC_lt (b := sgT1 P) (n := sgL1 P) (a := a7) (by rw [i47]; decide)
                      have bb50 := vq_bdX (b := sgT1 P) b50
                      have pb50 : a + 2 ≤ vX (sgT1 P) (sgL1 P) (a7 + 1) := vq_pg jk7 (m := 1) (vX_ge (sgT1 P) (sgL1 P) (a7 + 1)).1 (by decide)
                      have hG := hWg49.2.2.2
                      rw [htg49] at hG
                      refine lv_aload_n X.1 X.2.1 dX6_readCondition_73 rfl (lv_at hl 1 rfl) ?_
                      refine lv_aload_n X.1 X.2.1 dX6_readCondition_74 rfl (lv_at hl 2 rfl) ?_
                      refine lv_iload_n X.1 X.2.1 dX6_readCondition_75 rfl (lv_at hl 3 rfl) ?_
                      refine ca_X6_readUnit_v2 X hK hG hC hS hb a0 h0 a1 h1 x2 h2 hl0 bb50 hby wl_4_9 hl.1 (rest := []) rfl (Nat.le_of_ble_eq_true rfl) ⟨Nat.le_of_ble_eq_true rfl, Nat.le_of_ble_eq_true rfl⟩ ⟨Nat.le_of_ble_eq_true rfl, Nat.le_of_ble_eq_true rfl⟩ dX6_readCondition_76 (fun f51 tf51 H locs htf51 hf51 hWf51 hS => ?_)
                      rcases hWf51 with ⟨rfl, av52, pv52, gav52, gbv52, hBf51⟩ | ⟨rfl, wv52, pv52, hBf51⟩
                      · have hG := hBf51.2.2.2
                        rw [htf51] at hG
                        have bv52 := vq_bd2 (k := 1) bb50 (by decide) gav52 gbv52
                        have p2v52 : a + 3 ≤ av52 := vq_pg pb50 gav52 (by decide)
                        refine lv_if_ne (tgt := 84) X.1 X.2.1 dX6_readCondition_79 (by decide) (fun c53 => ?_) (fun c53 => ?_)
                        · refine lv_iload X.1 X.2.1 dX6_readCondition_84 (lv_at hl 0 rfl) ?_
                          refine lv_bipush (v := 38) X.1 X.2.1 dX6_readCondition_86 (by decide +kernel) ?_
                          refine lv_icmp_ne (tgt := 100) X.1 X.2.1 dX6_readCondition_88 (by decide) (fun c54 => ?_) (fun c54 => ?_)
                          · have i55 : (vC (sgT1 P) (sgL1 P) a7 = (38 : Int)) = False := vq_ne c54 hf11 (by decide +kernel)
                            refine lv_iconst (v := 1) X.1 X.2.1 dX6_readCondition_100 (by decide +kernel) ?_
                            refine lv_istore (lv' := [(4, .int 1), (6, .int f11), (0, .ref a0), (1, .ref a1), (2, .int x2), (5, .int z7_5)]) X.1 X.2.1 dX6_readCondition_101 hl (by decide) rfl (fun ls hl => ?_)
                            obtain ⟨y57, ey57⟩ : ∃ y : Int32, y = z7_5 + Int32.ofInt 1 := ⟨_, rfl⟩
                            have xy57 : y57.toInt = (z7_5.toInt + 1) := sg_exadd ey57 (iv_lt (b' := 239) (iv_gt_of c8) hz7_5 (iv_c 240 (a := 240) (b := 240) (by decide +kernel)) (by decide +kernel)) (iv_c _ (a := 1) (b := 1) (by decide +kernel)) (by decide +kernel) rfl (by decide +kernel)
                            refine lv_iinc (v := y57) (lv' := [(5, .int y57), (4, .int 1), (6, .int f11), (0, .ref a0), (1, .ref a1), (2, .int x2)]) X.1 X.2.1 dX6_readCondition_103 hl (k := 5) rfl ey57.symm (by decide) rfl (fun ls hl => ?_)
                            refine lv_goto (tgt := 21) X.1 X.2.1 dX6_readCondition_106 (by decide) ?_
                            exact ih7 H _ _ 1 y57 (av52) (bv52).1 (bv52).2 (vq_pgw p2v52 (by decide)) hG hS (lv_sub hl [3, 4, 5, 1, 0] rfl) (iv_of (iv_c 1 (a := 1) (b := 1) (by decide +kernel)) (a' := 0) (b' := 1) (by decide +kernel)) (iv_of (iv_add (a' := 1) (b' := 240) ey57 (iv_lt (b' := 239) (iv_gt_of c8) hz7_5 (iv_c 240 (a := 240) (b := 240) (by decide +kernel)) (by decide +kernel)) (iv_c _ (a := 1) (b := 1) (by decide +kernel)) (by decide +kernel)) (a' := 0) (b' := 240) (by decide +kernel)) ⟨xf7.1.trans (vL_step (opC_124 i47) pv52 (vq_l1 (vX_ge (sgT1 P) (sgL1 P) (a7 + 1)).1 gav52) (vC_lt (b := sgT1 P) (n := sgL1 P) (by rw [i47]; decide)).2), vq_y1 xf7.2 xy57 (vX_ge (sgT1 P) (sgL1 P) (a7 + 1)).1 gav52⟩ (iv_stepU ey57 (iv_lt (b' := 239) (iv_gt_of c8) hz7_5 (iv_c 240 (a := 240) (b := 240) (by decide +kernel)) (by decide +kernel)) (by decide +kernel) hN7)
                          · have i56 : vC (sgT1 P) (sgL1 P) a7 = (38 : Int) := vq_eq c54 hf11 (by decide +kernel)
                            exact ((iv_no (a := 124) (b := 38) (iv_eqm c54 (iv_eqm (a' := 124) (b' := 124) c46 yf11 (iv_c 124 (a := 124) (b := 124) (by decide +kernel)) (by decide +kernel)) (iv_c 38 (a := 38) (b := 38) (by decide +kernel)) (by decide +kernel)) (by decide +kernel))).elim
                        · exact ((iv_no (a := 1) (b := 0) (iv_eqm c53 (iv_c 1 (a := 1) (b := 1) (by decide +kernel)) (iv_c 0 (a := 0) (b := 0) (by decide +kernel)) (by decide +kernel)) (by decide +kernel))).elim
                      · have hG := hBf51.2.2.2
                        rw [htf51] at hG
                        refine lv_if_ne (tgt := 84) X.1 X.2.1 dX6_readCondition_79 (by decide) (fun c58 => ?_) (fun c58 => ?_)
                        · exact ((c58 (iv_one (iv_c 0 (a := 0) (b := 0) (by decide +kernel)) (iv_c 0 (a := 0) (b := 0) (by decide +kernel)) (by decide +kernel)))).elim
                        · refine lv_iconst (v := 0) X.1 X.2.1 dX6_readCondition_82 (by decide +kernel) ?_
                          have spr : vCon (sgT1 P) (sgL1 P) 4 a = (false, wv52) := by exact xf7.1.trans (vL_bad (opC_124 i47) pv52)
                          have hG := ka_weak (b1 := 0) (b2 := 240) (c1 := wv52) (c2 := wv52) hG (by omega) (by omega) (Int.le_refl _) (Int.le_refl _)
                          exact sg_zret2 X hr (sg_zn (iv_of (iv_c 0 (a := 0) (b := 0) (by decide +kernel)) (a' := 0) (b' := 1) (by decide +kernel))) hlk hS (iv_of (iv_c 0 (a := 0) (b := 0) (by decide +kernel)) (a' := 0) (b' := 1) (by decide +kernel)) (fun t ht hW => (Or.inr ⟨rfl, _, spr, sg_post hb hK hC hG hS ht hW⟩)) dX6_readCondition_83
                    · have i48 : (vC (sgT1 P) (sgL1 P) a7 = (124 : Int)) = False := vq_ne c46 hf11 (by decide +kernel)
                      refine lv_iconst (v := 1) X.1 X.2.1 dX6_readCondition_67 (by decide +kernel) ?_
                      have spr : vCon (sgT1 P) (sgL1 P) 4 a = (true, a7) := by exact xf7.1.trans (vL_stop (opC_no i34 i48))
                      exact sg_zret2 X hr (sg_zn (iv_of (iv_c 1 (a := 1) (b := 1) (by decide +kernel)) (a' := 0) (b' := 1) (by decide +kernel))) hlk hS (iv_of (iv_c 1 (a := 1) (b := 1) (by decide +kernel)) (a' := 0) (b' := 1) (by decide +kernel)) (fun t ht hW => (Or.inl ⟨rfl, _, spr, vq_pgw jk7 (by decide), ((And.intro jl7 jm7)).2, sg_post hb hK hC hG hS ht hW⟩)) dX6_readCondition_68
                · have i31 : (z7_4.toInt = (0 : Int)) = False := vq_ne c29 rfl (by decide +kernel)
                  refine lv_aload_n X.1 X.2.1 dX6_readCondition_47 rfl (lv_at hl 1 rfl) ?_
                  refine lv_bipush (v := (-18)) X.1 X.2.1 dX6_readCondition_48 (by decide +kernel) ?_
                  refine ca_X6_put_v X hK hG hC hS hb a0 h0 (-18) wl_3_232 hl.1 (rest := []) rfl (Nat.le_of_ble_eq_true rfl) ⟨Nat.le_of_ble_eq_true rfl, Nat.le_of_ble_eq_true rfl⟩ ⟨Nat.le_of_ble_eq_true rfl, Nat.le_of_ble_eq_true rfl⟩ dX6_readCondition_50 (fun H locs hG hS => ?_)
                  refine lv_iload X.1 X.2.1 dX6_readCondition_53 (lv_at hl 0 rfl) ?_
                  refine lv_bipush (v := 38) X.1 X.2.1 dX6_readCondition_55 (by decide +kernel) ?_
                  refine lv_icmp_eq (tgt := 69) X.1 X.2.1 dX6_readCondition_57 (by decide) (fun c60 => ?_) (fun c60 => ?_)
                  · have i61 : vC (sgT1 P) (sgL1 P) a7 = (38 : Int) := vq_eq c60 hf11 (by decide +kernel)
                    refine lv_aload_n X.1 X.2.1 dX6_readCondition_69 rfl (lv_at hl 2 rfl) ?_
                    refine ca_X10_step_v X hK hG hC hS hb a1 h1 hl0 (vC_lt (b := sgT1 P) (by rw [i61]; decide)) wl_3_229 hl.1 (rest := []) rfl (Nat.le_of_ble_eq_true rfl) ⟨Nat.le_of_ble_eq_true rfl, Nat.le_of_ble_eq_true rfl⟩ ⟨Nat.le_of_ble_eq_true rfl, Nat.le_of_ble_eq_true rfl⟩ dX6_readCondition_70 (fun tg63 H locs htg63 hWg63 hS => ?_)
                    have b64 := vC_lt (b := sgT1 P) (n := sgL1 P) (a := a7) (by rw [i61]; decide)
                    have bb64 := vq_bdX (b := sgT1 P) b64
                    have pb64 : a + 2 ≤ vX (sgT1 P) (sgL1 P) (a7 + 1) := vq_pg jk7 (m := 1) (vX_ge (sgT1 P) (sgL1 P) (a7 + 1)).1 (by decide)
                    have hG := hWg63.2.2.2
                    rw [htg63] at hG
                    refine lv_aload_n X.1 X.2.1 dX6_readCondition_73 rfl (lv_at hl 1 rfl) ?_
                    refine lv_aload_n X.1 X.2.1 dX6_readCondition_74 rfl (lv_at hl 2 rfl) ?_
                    refine lv_iload_n X.1 X.2.1 dX6_readCondition_75 rfl (lv_at hl 3 rfl) ?_
                    refine ca_X6_readUnit_v2 X hK hG hC hS hb a0 h0 a1 h1 x2 h2 hl0 bb64 hby wl_4_9 hl.1 (rest := []) rfl (Nat.le_of_ble_eq_true rfl) ⟨Nat.le_of_ble_eq_true rfl, Nat.le_of_ble_eq_true rfl⟩ ⟨Nat.le_of_ble_eq_true rfl, Nat.le_of_ble_eq_true rfl⟩ dX6_readCondition_76 (fun f65 tf65 H locs htf65 hf65 hWf65 hS => ?_)
                    rcases hWf65 with ⟨rfl, av66, pv66, gav66, gbv66, hBf65⟩ | ⟨rfl, wv66, pv66, hBf65⟩
                    · have hG := hBf65.2.2.2
                      rw [htf65] at hG
                      have bv66 := vq_bd2 (k := 1) bb64 (by decide) gav66 gbv66
                      have p2v66 : a + 3 ≤ av66 := vq_pg pb64 gav66 (by decide)
                      refine lv_if_ne (tgt := 84) X.1 X.2.1 dX6_readCondition_79 (by decide) (fun c67 => ?_) (fun c67 => ?_)
                      · refine lv_iload X.1 X.2.1 dX6_readCondition_84 (lv_at hl 0 rfl) ?_
                        refine lv_bipush (v := 38) X.1 X.2.1 dX6_readCondition_86 (by decide +kernel) ?_
                        refine lv_icmp_ne (tgt := 100) X.1 X.2.1 dX6_readCondition_88 (by decide) (fun c68 => ?_) (fun c68 => ?_)
                        · have i69 : (vC (sgT1 P) (sgL1 P) a7 = (38 : Int)) = False := vq_ne c68 hf11 (by decide +kernel)
                          exact ((c68 (iv_one (iv_eqm (a' := 38) (b' := 38) c60 yf11 (iv_c 38 (a := 38) (b := 38) (by decide +kernel)) (by decide +kernel)) (iv_c 38 (a := 38) (b := 38) (by decide +kernel)) (by decide +kernel)))).elim
                        · have i70 : vC (sgT1 P) (sgL1 P) a7 = (38 : Int) := vq_eq c68 hf11 (by decide +kernel)
                          refine lv_aload_n X.1 X.2.1 dX6_readCondition_91 rfl (lv_at hl 1 rfl) ?_
                          refine lv_bipush (v := (-17)) X.1 X.2.1 dX6_readCondition_92 (by decide +kernel) ?_
                          refine ca_X6_put_v X hK hG hC hS hb a0 h0 (-17) wl_3_232 hl.1 (rest := []) rfl (Nat.le_of_ble_eq_true rfl) ⟨Nat.le_of_ble_eq_true rfl, Nat.le_of_ble_eq_true rfl⟩ ⟨Nat.le_of_ble_eq_true rfl, Nat.le_of_ble_eq_true rfl⟩ dX6_readCondition_94 (fun H locs hG hS => ?_)
                          refine lv_goto (tgt := 103) X.1 X.2.1 dX6_readCondition_97 (by decide) ?_
                          obtain ⟨y72, ey72⟩ : ∃ y : Int32, y = z7_5 + Int32.ofInt 1 := ⟨_, rfl⟩
                          have xy72 : y72.toInt = (z7_5.toInt + 1) := sg_exadd ey72 (iv_lt (b' := 239) (iv_gt_of c8) hz7_5 (iv_c 240 (a := 240) (b := 240) (by decide +kernel)) (by decide +kernel)) (iv_c _ (a := 1) (b := 1) (by decide +kernel)) (by decide +kernel) rfl (by decide +kernel)
                          refine lv_iinc (v := y72) (lv' := [(5, .int y72), (6, .int f11), (0, .ref a0), (1, .ref a1), (2, .int x2), (4, .int z7_4)]) X.1 X.2.1 dX6_readCondition_103 hl (k := 5) rfl ey72.symm (by decide) rfl (fun ls hl => ?_)
                          refine lv_goto (tgt := 21) X.1 X.2.1 dX6_readCondition_106 (by decide) ?_
                          exact ih7 H _ _ z7_4 y72 (av66) (bv66).1 (bv66).2 (vq_pgw p2v66 (by decide)) hG hS (lv_sub hl [2, 3, 4, 5, 0] rfl) (iv_of (iv_ne_lo (a' := 1) c29 hz7_4 (by decide +kernel)) (a' := 0) (b' := 1) (by decide +kernel)) (iv_of (iv_add (a' := 1) (b' := 240) ey72 (iv_lt (b' := 239) (iv_gt_of c8) hz7_5 (iv_c 240 (a := 240) (b := 240) (by decide +kernel)) (by decide +kernel)) (iv_c _ (a := 1) (b := 1) (by decide +kernel)) (by decide +kernel)) (a' := 0) (b' := 240) (by decide +kernel)) ⟨xf7.1.trans (vL_step (opC_38 i70) pv66 (vq_l1 (vX_ge (sgT1 P) (sgL1 P) (a7 + 1)).1 gav66) (vC_lt (b := sgT1 P) (n := sgL1 P) (by rw [i70]; decide)).2), vq_y1 xf7.2 xy72 (vX_ge (sgT1 P) (sgL1 P) (a7 + 1)).1 gav66⟩ (iv_stepU ey72 (iv_lt (b' := 239) (iv_gt_of c8) hz7_5 (iv_c 240 (a := 240) (b := 240) (by decide +kernel)) (by decide +kernel)) (by decide +kernel) hN7)
                      · exact ((iv_no (a := 1) (b := 0) (iv_eqm c67 (iv_c 1 (a := 1) (b := 1) (by decide +kernel)) (iv_c 0 (a := 0) (b := 0) (by decide +kernel)) (by decide +kernel)) (by decide +kernel))).elim
                    · have hG := hBf65.2.2.2
                      rw [htf65] at hG
                      refine lv_if_ne (tgt := 84) X.1 X.2.1 dX6_readCondition_79 (by decide) (fun c73 => ?_) (fun c73 => ?_)
                      · exact ((c73 (iv_one (iv_c 0 (a := 0) (b := 0) (by decide +kernel)) (iv_c 0 (a := 0) (b := 0) (by decide +kernel)) (by decide +kernel)))).elim
                      · refine lv_iconst (v := 0) X.1 X.2.1 dX6_readCondition_82 (by decide +kernel) ?_
                        have spr : vCon (sgT1 P) (sgL1 P) 4 a = (false, wv66) := by exact xf7.1.trans (vL_bad (opC_38 i61) pv66)
                        have hG := ka_weak (b1 := 0) (b2 := 240) (c1 := wv66) (c2 := wv66) hG (by omega) (by omega) (Int.le_refl _) (Int.le_refl _)
                        exact sg_zret2 X hr (sg_zn (iv_of (iv_c 0 (a := 0) (b := 0) (by decide +kernel)) (a' := 0) (b' := 1) (by decide +kernel))) hlk hS (iv_of (iv_c 0 (a := 0) (b := 0) (by decide +kernel)) (a' := 0) (b' := 1) (by decide +kernel)) (fun t ht hW => (Or.inr ⟨rfl, _, spr, sg_post hb hK hC hG hS ht hW⟩)) dX6_readCondition_83
                  · have i62 : (vC (sgT1 P) (sgL1 P) a7 = (38 : Int)) = False := vq_ne c60 hf11 (by decide +kernel)
                    refine lv_iload X.1 X.2.1 dX6_readCondition_60 (lv_at hl 0 rfl) ?_
                    refine lv_bipush (v := 124) X.1 X.2.1 dX6_readCondition_62 (by decide +kernel) ?_
                    refine lv_icmp_eq (tgt := 69) X.1 X.2.1 dX6_readCondition_64 (by decide) (fun c74 => ?_) (fun c74 => ?_)
                    · have i75 : vC (sgT1 P) (sgL1 P) a7 = (124 : Int) := vq_eq c74 hf11 (by decide +kernel)
                      refine lv_aload_n X.1 X.2.1 dX6_readCondition_69 rfl (lv_at hl 2 rfl) ?_
                      refine ca_X10_step_v X hK hG hC hS hb a1 h1 hl0 (vC_lt (b := sgT1 P) (by rw [i75]; decide)) wl_3_229 hl.1 (rest := []) rfl (Nat.le_of_ble_eq_true rfl) ⟨Nat.le_of_ble_eq_true rfl, Nat.le_of_ble_eq_true rfl⟩ ⟨Nat.le_of_ble_eq_true rfl, Nat.le_of_ble_eq_true rfl⟩ dX6_readCondition_70 (fun tg77 H locs htg77 hWg77 hS => ?_)
                      have b78 := vC_lt (b := sgT1 P) (n := sgL1 P) (a := a7) (by rw [i75]; decide)
                      have bb78 := vq_bdX (b := sgT1 P) b78
                      have pb78 : a + 2 ≤ vX (sgT1 P) (sgL1 P) (a7 + 1) := vq_pg jk7 (m := 1) (vX_ge (sgT1 P) (sgL1 P) (a7 + 1)).1 (by decide)
                      have hG := hWg77.2.2.2
                      rw [htg77] at hG
                      refine lv_aload_n X.1 X.2.1 dX6_readCondition_73 rfl (lv_at hl 1 rfl) ?_
                      refine lv_aload_n X.1 X.2.1 dX6_readCondition_74 rfl (lv_at hl 2 rfl) ?_
                      refine lv_iload_n X.1 X.2.1 dX6_readCondition_75 rfl (lv_at hl 3 rfl) ?_
                      refine ca_X6_readUnit_v2 X hK hG hC hS hb a0 h0 a1 h1 x2 h2 hl0 bb78 hby wl_4_9 hl.1 (rest := []) rfl (Nat.le_of_ble_eq_true rfl) ⟨Nat.le_of_ble_eq_true rfl, Nat.le_of_ble_eq_true rfl⟩ ⟨Nat.le_of_ble_eq_true rfl, Nat.le_of_ble_eq_true rfl⟩ dX6_readCondition_76 (fun f79 tf79 H locs htf79 hf79 hWf79 hS => ?_)
                      rcases hWf79 with ⟨rfl, av80, pv80, gav80, gbv80, hBf79⟩ | ⟨rfl, wv80, pv80, hBf79⟩
                      · have hG := hBf79.2.2.2
                        rw [htf79] at hG
                        have bv80 := vq_bd2 (k := 1) bb78 (by decide) gav80 gbv80
                        have p2v80 : a + 3 ≤ av80 := vq_pg pb78 gav80 (by decide)
                        refine lv_if_ne (tgt := 84) X.1 X.2.1 dX6_readCondition_79 (by decide) (fun c81 => ?_) (fun c81 => ?_)
                        · refine lv_iload X.1 X.2.1 dX6_readCondition_84 (lv_at hl 0 rfl) ?_
                          refine lv_bipush (v := 38) X.1 X.2.1 dX6_readCondition_86 (by decide +kernel) ?_
                          refine lv_icmp_ne (tgt := 100) X.1 X.2.1 dX6_readCondition_88 (by decide) (fun c82 => ?_) (fun c82 => ?_)
                          · have i83 : (vC (sgT1 P) (sgL1 P) a7 = (38 : Int)) = False := vq_ne c82 hf11 (by decide +kernel)
                            refine lv_iconst (v := 1) X.1 X.2.1 dX6_readCondition_100 (by decide +kernel) ?_
                            refine lv_istore (lv' := [(4, .int 1), (6, .int f11), (0, .ref a0), (1, .ref a1), (2, .int x2), (5, .int z7_5)]) X.1 X.2.1 dX6_readCondition_101 hl (by decide) rfl (fun ls hl => ?_)
                            obtain ⟨y85, ey85⟩ : ∃ y : Int32, y = z7_5 + Int32.ofInt 1 := ⟨_, rfl⟩
                            have xy85 : y85.toInt = (z7_5.toInt + 1) := sg_exadd ey85 (iv_lt (b' := 239) (iv_gt_of c8) hz7_5 (iv_c 240 (a := 240) (b := 240) (by decide +kernel)) (by decide +kernel)) (iv_c _ (a := 1) (b := 1) (by decide +kernel)) (by decide +kernel) rfl (by decide +kernel)
                            refine lv_iinc (v := y85) (lv' := [(5, .int y85), (4, .int 1), (6, .int f11), (0, .ref a0), (1, .ref a1), (2, .int x2)]) X.1 X.2.1 dX6_readCondition_103 hl (k := 5) rfl ey85.symm (by decide) rfl (fun ls hl => ?_)
                            refine lv_goto (tgt := 21) X.1 X.2.1 dX6_readCondition_106 (by decide) ?_
                            exact ih7 H _ _ 1 y85 (av80) (bv80).1 (bv80).2 (vq_pgw p2v80 (by decide)) hG hS (lv_sub hl [3, 4, 5, 1, 0] rfl) (iv_of (iv_c 1 (a := 1) (b := 1) (by decide +kernel)) (a' := 0) (b' := 1) (by decide +kernel)) (iv_of (iv_add (a' := 1) (b' := 240) ey85 (iv_lt (b' := 239) (iv_gt_of c8) hz7_5 (iv_c 240 (a := 240) (b := 240) (by decide +kernel)) (by decide +kernel)) (iv_c _ (a := 1) (b := 1) (by decide +kernel)) (by decide +kernel)) (a' := 0) (b' := 240) (by decide +kernel)) ⟨xf7.1.trans (vL_step (opC_124 i75) pv80 (vq_l1 (vX_ge (sgT1 P) (sgL1 P) (a7 + 1)).1 gav80) (vC_lt (b := sgT1 P) (n := sgL1 P) (by rw [i75]; decide)).2), vq_y1 xf7.2 xy85 (vX_ge (sgT1 P) (sgL1 P) (a7 + 1)).1 gav80⟩ (iv_stepU ey85 (iv_lt (b' := 239) (iv_gt_of c8) hz7_5 (iv_c 240 (a := 240) (b := 240) (by decide +kernel)) (by decide +kernel)) (by decide +kernel) hN7)
                          · have i84 : vC (sgT1 P) (sgL1 P) a7 = (38 : Int) := vq_eq c82 hf11 (by decide +kernel)
                            exact ((iv_no (a := 124) (b := 38) (iv_eqm c82 (iv_eqm (a' := 124) (b' := 124) c74 yf11 (iv_c 124 (a := 124) (b := 124) (by decide +kernel)) (by decide +kernel)) (iv_c 38 (a := 38) (b := 38) (by decide +kernel)) (by decide +kernel)) (by decide +kernel))).elim
                        · exact ((iv_no (a := 1) (b := 0) (iv_eqm c81 (iv_c 1 (a := 1) (b := 1) (by decide +kernel)) (iv_c 0 (a := 0) (b := 0) (by decide +kernel)) (by decide +kernel)) (by decide +kernel))).elim
                      · have hG := hBf79.2.2.2
                        rw [htf79] at hG
                        refine lv_if_ne (tgt := 84) X.1 X.2.1 dX6_readCondition_79 (by decide) (fun c86 => ?_) (fun c86 => ?_)
                        · exact ((c86 (iv_one (iv_c 0 (a := 0) (b := 0) (by decide +kernel)) (iv_c 0 (a := 0) (b := 0) (by decide +kernel)) (by decide +kernel)))).elim
                        · refine lv_iconst (v := 0) X.1 X.2.1 dX6_readCondition_82 (by decide +kernel) ?_
                          have spr : vCon (sgT1 P) (sgL1 P) 4 a = (false, wv80) := by exact xf7.1.trans (vL_bad (opC_124 i75) pv80)
                          have hG := ka_weak (b1 := 0) (b2 := 240) (c1 := wv80) (c2 := wv80) hG (by omega) (by omega) (Int.le_refl _) (Int.le_refl _)
                          exact sg_zret2 X hr (sg_zn (iv_of (iv_c 0 (a := 0) (b := 0) (by decide +kernel)) (a' := 0) (b' := 1) (by decide +kernel))) hlk hS (iv_of (iv_c 0 (a := 0) (b := 0) (by decide +kernel)) (a' := 0) (b' := 1) (by decide +kernel)) (fun t ht hW => (Or.inr ⟨rfl, _, spr, sg_post hb hK hC hG hS ht hW⟩)) dX6_readCondition_83
                    · have i76 : (vC (sgT1 P) (sgL1 P) a7 = (124 : Int)) = False := vq_ne c74 hf11 (by decide +kernel)
                      refine lv_iconst (v := 1) X.1 X.2.1 dX6_readCondition_67 (by decide +kernel) ?_
                      have spr : vCon (sgT1 P) (sgL1 P) 4 a = (true, a7) := by exact xf7.1.trans (vL_stop (opC_no i62 i76))
                      exact sg_zret2 X hr (sg_zn (iv_of (iv_c 1 (a := 1) (b := 1) (by decide +kernel)) (a' := 0) (b' := 1) (by decide +kernel))) hlk hS (iv_of (iv_c 1 (a := 1) (b := 1) (by decide +kernel)) (a' := 0) (b' := 1) (by decide +kernel)) (fun t ht hW => (Or.inl ⟨rfl, _, spr, vq_pgw jk7 (by decide), ((And.intro jl7 jm7)).2, sg_post hb hK hC hG hS ht hW⟩)) dX6_readCondition_68
        exact B7_21 _ H _ _ 0 0 (av5) (bv5).1 (bv5).2 (vq_pgw p2v5 (by decide)) hG hS (lv_sub hl [2, 3, 4, 1, 0] rfl) (iv_of (iv_c 0 (a := 0) (b := 0) (by decide +kernel)) (a' := 0) (b' := 1) (by decide +kernel)) (iv_of (iv_c 0 (a := 0) (b := 0) (by decide +kernel)) (a' := 0) (b' := 240) (by decide +kernel)) ⟨by simp only [vCon, i3, pv5, cond_true, cond_false, vB_t, vB_f, if_true, if_false, eq_self, not_true_eq_false, not_false_eq_true, Int.reduceEq, Int.reduceLT, or_false, false_or, or_true, true_or], vq_y0 bv5.1⟩ (Nat.le_refl _)
      · exact ((iv_no (a := 1) (b := 0) (iv_eqm c6 (iv_c 1 (a := 1) (b := 1) (by decide +kernel)) (iv_c 0 (a := 0) (b := 0) (by decide +kernel)) (by decide +kernel)) (by decide +kernel))).elim
    · have hG := hBf4.2.2.2
      rw [htf4] at hG
      refine lv_if_ne (tgt := 15) X.1 X.2.1 dX6_readCondition_10 (by decide) (fun c87 => ?_) (fun c87 => ?_)
      · exact ((c87 (iv_one (iv_c 0 (a := 0) (b := 0) (by decide +kernel)) (iv_c 0 (a := 0) (b := 0) (by decide +kernel)) (by decide +kernel)))).elim
      · refine lv_iconst (v := 0) X.1 X.2.1 dX6_readCondition_13 (by decide +kernel) ?_
        have spr : vCon (sgT1 P) (sgL1 P) 4 a = (false, wv5) := by simp only [vCon, i3, pv5, cond_true, cond_false, vB_t, vB_f, if_true, if_false, eq_self, not_true_eq_false, not_false_eq_true, Int.reduceEq, Int.reduceLT, or_false, false_or, or_true, true_or]
        have hG := ka_weak (b1 := 0) (b2 := 240) (c1 := wv5) (c2 := wv5) hG (by omega) (by omega) (Int.le_refl _) (Int.le_refl _)
        exact sg_zret2 X hr (sg_zn (iv_of (iv_c 0 (a := 0) (b := 0) (by decide +kernel)) (a' := 0) (b' := 1) (by decide +kernel))) hlk hS (iv_of (iv_c 0 (a := 0) (b := 0) (by decide +kernel)) (a' := 0) (b' := 1) (by decide +kernel)) (fun t ht hW => (Or.inr ⟨rfl, _, spr, sg_post hb hK hC hG hS ht hW⟩)) dX6_readCondition_14

theorem ca_X6_readCondition_v2_0  {a w1 w2 : Int}  (X : CallFix p m c cc nL s args sg_tbl own) (hK : va_K D vwCl tys s) (hG : sgG (KA a a w1 w2 P) D vwCl (fun q : Nat => base ≤ q) tys ad ks H) (hC : sgC base s) (hS : va_S (fun q : Nat => base ≤ q) s.heap H locs) (hb : base ≤ s.heap.size) (a0 : Nat) (h0 : isK ad ks 6 a0) (a1 : Nat) (h1 : isK ad ks 10 a1) (x2 : Int32) (h2 : iv 2 2 x2) (x3 : Int32) (h3 : iv 0 0 x3) (hl0 : 0 ≤ sgL1 P ∧ sgL1 P ≤ 240) (hav : 0 ≤ a ∧ a ≤ sgL1 P) (hby : ∀ j : Nat, (↑j : Int) < sgL1 P → 1 ≤ sgT1 P j ∧ sgT1 P j ≤ 255) (hl : Cond.methodLink own index yX6_readCondition ∈ sg_tbl) (hsize : ls.size = nL) (hst : st0 = [.ref a1, .int x2, .int x3].reverse ++ .ref a0 :: rest) (hW : (rest.map fun v => v.category).sum ≤ 8) (hR : 17 ≤ R.frames ∧ 418 ≤ R.locals) (hf : cells ≤ R.cells ∧ slots ≤ R.slots) (hdg : decode cc pc = .ok (.invokevirtual index, 3)) (kk : ∀ (r : Int32) (t : State) (H1 : Heap) (locs1 : List Loc), t.heap = H1 → (fun r : Int32 => iv 0 1 r) r → ((r = 1 ∧ ∃ a1 : Int, vCon (sgT1 P) (sgL1 P) 4 a = (true, a1) ∧ a + 1 ≤ a1 ∧ a1 ≤ sgL1 P ∧ sgB (KA a1 a1 w1 w2 P) D vwCl base tys ad ks t) ∨ (r = 0 ∧ ∃ w : Int, vCon (sgT1 P) (sgL1 P) 4 a = (false, w) ∧ sgB (KA 0 240 w w P) D vwCl base tys ad ks t)) → va_S (fun q : Nat => base ≤ q) s.heap H1 locs1 → W p l e R s m args below meth c H1 locs1 cells slots Q (F0 m (pc + 3) ls (.int r :: rest))) : W p l e R s m args below meth c H locs cells slots Q (F0 m pc ls st0) :=
  sg_callV2i X hK hG hC hS hb (m_X6_readCondition_v2_0 l a0 h0 a1 h1 x2 h2 x3 h3 hl0 hav hby) h0 (k := 6) (ci := 6) rfl (C := RX6) (T := TX6) (N := 7) rfl wl_4_8 wl_1_3 wl_4_7 wl_0_15 (n := 3) (by decide +kernel) rfl rfl rfl hl hsize hst hW hR hf hdg kk

set_option maxHeartbeats 8000000 in
set_option maxRecDepth 100000 in
theorem m_X6_readCondition_v2_1 (l : Launch) {D : va_G} {base : Nat} {tys : List (ClassId × FieldType)} {ad ks : List Nat} {P : sgPm}{a w1 w2 : Int}  (a0 : Nat) (h0 : isK ad ks 6 a0) (a1 : Nat) (h1 : isK ad ks 10 a1) (x2 : Int32) (h2 : iv 2 2 x2) (x3 : Int32) (h3 : iv 1 1 x3) (hl0 : 0 ≤ sgL1 P ∧ sgL1 P ≤ 240) (hav : 0 ≤ a ∧ a ≤ sgL1 P) (hby : ∀ j : Nat, (↑j : Int) < sgL1 P → 1 ≤ sgT1 P j ∧ sgT1 P j ≤ 255) : Met l yX6_readCondition (Cond.code yX6_readCondition cX6_readCondition 7 (some .boolean) :: sg_tbl) ({ frames := 16, cells := 0, slots := 0, locals := 392 }) (va_Pc [.ref a0, .ref a1, .int x2, .int x3] (sgB (KA a a w1 w2 P) D vwCl base tys ad ks)) (va_Qi (fun r (u : Int32) => u = r ∧ (fun r : Int32 => iv 0 1 r) r) (fun u t => (u = 1 ∧ ∃ a1 : Int, vL (vUn (sgT1 P) (sgL1 P) 4) opC (sgT1 P) (sgL1 P) a = (true, a1) ∧ a + 0 ≤ a1 ∧ a1 ≤ sgL1 P ∧ sgB (KA a1 a1 w1 w2 P) D vwCl base tys ad ks t) ∨ (u = 0 ∧ ∃ w : Int, vL (vUn (sgT1 P) (sgL1 P) 4) opC (sgT1 P) (sgL1 P) a = (false, w) ∧ sgB (KA 0 240 w w P) D vwCl base tys ad ks t)) (fun q : Nat => base ≤ q)) 0 0 (fun q : Nat => base ≤ q) := by
  refine sg_ofW (by decide +kernel) (Nat.le_of_ble_eq_true rfl) (fun p e s m below meth c X hr hlk hb hK hC hG ls hl => ?_)
  have hS : va_S (fun q : Nat => base ≤ q) s.heap s.heap [] := va_S.rf
  have hl : lv_has ls 7 [(0, .ref a0), (1, .ref a1), (2, .int x2), (3, .int x3)] := hl
  refine lv_iload_n X.1 X.2.1 dX6_readCondition_0 rfl (lv_at hl 3 rfl) ?_
  refine lv_if_ne (tgt := 15) X.1 X.2.1 dX6_readCondition_1 (by decide) (fun c1 => ?_) (fun c1 => ?_)
  · have i2 : (x3.toInt = (0 : Int)) = False := vq_ne c1 rfl (by decide +kernel)
    refine lv_iconst (v := 0) X.1 X.2.1 dX6_readCondition_15 (by decide +kernel) ?_
    refine lv_istore (lv' := [(4, .int 0), (0, .ref a0), (1, .ref a1), (2, .int x2), (3, .int x3)]) X.1 X.2.1 dX6_readCondition_16 hl (by decide) rfl (fun ls hl => ?_)
    refine lv_iconst (v := 0) X.1 X.2.1 dX6_readCondition_18 (by decide +kernel) ?_
    refine lv_istore (lv' := [(5, .int 0), (4, .int 0), (0, .ref a0), (1, .ref a1), (2, .int x2), (3, .int x3)]) X.1 X.2.1 dX6_readCondition_19 hl (by decide) rfl (fun ls hl => ?_)
    have B4_21 : ∀ (N : Nat) (H : Heap) (locs : List Loc) (ls : Array Slot) (z4_4 : Int32) (z4_5 : Int32) (a4 : Int), 0 ≤ a4 → a4 ≤ sgL1 P → a + 0 ≤ a4 → sgG (KA a4 a4 w1 w2 P) D vwCl (fun q : Nat => base ≤ q) tys ad ks H → va_S (fun q : Nat => base ≤ q) s.heap H locs → lv_has ls 7 [(0, .ref a0), (1, .ref a1), (2, .int x2), (4, .int z4_4), (5, .int z4_5)] → iv 0 1 z4_4 → iv 0 240 z4_5 → (vL (vUn (sgT1 P) (sgL1 P) 4) opC (sgT1 P) (sgL1 P) a = vL (vUn (sgT1 P) (sgL1 P) 4) opC (sgT1 P) (sgL1 P) a4 ∧ 2 * (z4_5 : Int32).toInt ≤ a4) → (241 - z4_5.toInt).toNat ≤ N → W p l e (headSpec (Cond.code yX6_readCondition cX6_readCondition 7 (some .boolean) :: sg_tbl) ({ frames := 16, cells := 0, slots := 0, locals := 392 })).room s m #[.ref a0, .ref a1, .int x2, .int x3] below meth c H locs 0 0 (MQ below (va_Qi (fun r (u : Int32) => u = r ∧ (fun r : Int32 => iv 0 1 r) r) (fun u t => (u = 1 ∧ ∃ a1 : Int, vL (vUn (sgT1 P) (sgL1 P) 4) opC (sgT1 P) (sgL1 P) a = (true, a1) ∧ a + 0 ≤ a1 ∧ a1 ≤ sgL1 P ∧ sgB (KA a1 a1 w1 w2 P) D vwCl base tys ad ks t) ∨ (u = 0 ∧ ∃ w : Int, vL (vUn (sgT1 P) (sgL1 P) 4) opC (sgT1 P) (sgL1 P) a = (false, w) ∧ sgB (KA 0 240 w w P) D vwCl base tys ad ks t)) (fun q : Nat => base ≤ q)) #[.ref a0, .ref a1, .int x2, .int x3] s 0 0 (fun q : Nat => base ≤ q)) (F0 m 21 ls []) := by
      intro N; induction N with
      | zero =>
        intro H locs ls z4_4 z4_5 a4 jl4 jm4 jk4 hG hS hl hz4_4 hz4_5 xf4 hN
        exact absurd hN (by have := iv_up hz4_5; omega)
      | succ N ih4 =>
        intro H locs ls z4_4 z4_5 a4 jl4 jm4 jk4 hG hS hl hz4_4 hz4_5 xf4 hN4
        refine lv_iload X.1 X.2.1 dX6_readCondition_21 (lv_at hl 4 rfl) ?_
        refine lv_sipush (v := 240) X.1 X.2.1 dX6_readCondition_23 (by decide +kernel) ?_
        refine lv_icmp_ge (tgt := 109) X.1 X.2.1 dX6_readCondition_26 (by decide) (fun c5 => ?_) (fun c5 => ?_)
        · have i6 : ¬ z4_5.toInt < (240 : Int) := vq_le c5 (by decide +kernel) rfl
          exact absurd xf4.2 (vq_deadc (And.intro jl4 jm4) hl0 i6)
        · have i7 : z4_5.toInt < (240 : Int) := vq_lt (iv_gt_of c5) rfl (by decide +kernel)
          refine lv_aload_n X.1 X.2.1 dX6_readCondition_29 rfl (lv_at hl 1 rfl) ?_
          refine ca_X10_sign_v X hK hG hC (fun _ h => h) hS hb a1 h1 hl0 (And.intro jl4 jm4) wl_3_219 hl.1 (rest := []) rfl (Nat.le_of_ble_eq_true rfl) ⟨Nat.le_of_ble_eq_true rfl, Nat.le_of_ble_eq_true rfl⟩ ⟨Nat.le_of_ble_eq_true rfl, Nat.le_of_ble_eq_true rfl⟩ dX6_readCondition_30 (fun f8 locs hf8 hS => ?_)
          have yf8 : iv 0 255 f8 := vq_255 hf8 hby
          refine lv_istore (lv' := [(6, .int f8), (0, .ref a0), (1, .ref a1), (2, .int x2), (4, .int z4_4), (5, .int z4_5)]) X.1 X.2.1 dX6_readCondition_33 hl (by decide) rfl (fun ls hl => ?_)
          refine lv_iload X.1 X.2.1 dX6_readCondition_35 (lv_at hl 0 rfl) ?_
          refine lv_bipush (v := 38) X.1 X.2.1 dX6_readCondition_37 (by decide +kernel) ?_
          refine lv_icmp_eq (tgt := 53) X.1 X.2.1 dX6_readCondition_39 (by decide) (fun c9 => ?_) (fun c9 => ?_)
          · have i10 : vC (sgT1 P) (sgL1 P) a4 = (38 : Int) := vq_eq c9 hf8 (by decide +kernel)
            refine lv_iload X.1 X.2.1 dX6_readCondition_53 (lv_at hl 0 rfl) ?_
            refine lv_bipush (v := 38) X.1 X.2.1 dX6_readCondition_55 (by decide +kernel) ?_
            refine lv_icmp_eq (tgt := 69) X.1 X.2.1 dX6_readCondition_57 (by decide) (fun c12 => ?_) (fun c12 => ?_)
            · have i13 : vC (sgT1 P) (sgL1 P) a4 = (38 : Int) := vq_eq c12 hf8 (by decide +kernel)
              refine lv_aload_n X.1 X.2.1 dX6_readCondition_69 rfl (lv_at hl 2 rfl) ?_
              refine ca_X10_step_v X hK hG hC hS hb a1 h1 hl0 (vC_lt (b := sgT1 P) (by rw [i13]; decide)) wl_3_229 hl.1 (rest := []) rfl (Nat.le_of_ble_eq_true rfl) ⟨Nat.le_of_ble_eq_true rfl, Nat.le_of_ble_eq_true rfl⟩ ⟨Nat.le_of_ble_eq_true rfl, Nat.le_of_ble_eq_true rfl⟩ dX6_readCondition_70 (fun tg15 H locs htg15 hWg15 hS => ?_)
              have b16 := vC_lt (b := sgT1 P) (n := sgL1 P) (a := a4) (by rw [i13]; decide)
              have bb16 := vq_bdX (b := sgT1 P) b16
              have pb16 : a + 1 ≤ vX (sgT1 P) (sgL1 P) (a4 + 1) := vq_pg jk4 (m := 1) (vX_ge (sgT1 P) (sgL1 P) (a4 + 1)).1 (by decide)
              have hG := hWg15.2.2.2
              rw [htg15] at hG
              refine lv_aload_n X.1 X.2.1 dX6_readCondition_73 rfl (lv_at hl 1 rfl) ?_
              refine lv_aload_n X.1 X.2.1 dX6_readCondition_74 rfl (lv_at hl 2 rfl) ?_
              refine lv_iload_n X.1 X.2.1 dX6_readCondition_75 rfl (lv_at hl 3 rfl) ?_
              refine ca_X6_readUnit_v2 X hK hG hC hS hb a0 h0 a1 h1 x2 h2 hl0 bb16 hby wl_4_9 hl.1 (rest := []) rfl (Nat.le_of_ble_eq_true rfl) ⟨Nat.le_of_ble_eq_true rfl, Nat.le_of_ble_eq_true rfl⟩ ⟨Nat.le_of_ble_eq_true rfl, Nat.le_of_ble_eq_true rfl⟩ dX6_readCondition_76 (fun f17 tf17 H locs htf17 hf17 hWf17 hS => ?_)
              rcases hWf17 with ⟨rfl, av18, pv18, gav18, gbv18, hBf17⟩ | ⟨rfl, wv18, pv18, hBf17⟩
              · have hG := hBf17.2.2.2
                rw [htf17] at hG
                have bv18 := vq_bd2 (k := 1) bb16 (by decide) gav18 gbv18
                have p2v18 : a + 2 ≤ av18 := vq_pg pb16 gav18 (by decide)
                refine lv_if_ne (tgt := 84) X.1 X.2.1 dX6_readCondition_79 (by decide) (fun c19 => ?_) (fun c19 => ?_)
                · refine lv_iload X.1 X.2.1 dX6_readCondition_84 (lv_at hl 0 rfl) ?_
                  refine lv_bipush (v := 38) X.1 X.2.1 dX6_readCondition_86 (by decide +kernel) ?_
                  refine lv_icmp_ne (tgt := 100) X.1 X.2.1 dX6_readCondition_88 (by decide) (fun c20 => ?_) (fun c20 => ?_)
                  · have i21 : (vC (sgT1 P) (sgL1 P) a4 = (38 : Int)) = False := vq_ne c20 hf8 (by decide +kernel)
                    exact ((c20 (iv_one (iv_eqm (a' := 38) (b' := 38) c9 yf8 (iv_c 38 (a := 38) (b := 38) (by decide +kernel)) (by decide +kernel)) (iv_c 38 (a := 38) (b := 38) (by decide +kernel)) (by decide +kernel)))).elim
                  · have i22 : vC (sgT1 P) (sgL1 P) a4 = (38 : Int) := vq_eq c20 hf8 (by decide +kernel)
                    refine lv_aload_n X.1 X.2.1 dX6_readCondition_91 rfl (lv_at hl 1 rfl) ?_
                    refine lv_bipush (v := (-17)) X.1 X.2.1 dX6_readCondition_92 (by decide +kernel) ?_
                    refine ca_X6_put_v X hK hG hC hS hb a0 h0 (-17) wl_3_232 hl.1 (rest := []) rfl (Nat.le_of_ble_eq_true rfl) ⟨Nat.le_of_ble_eq_true rfl, Nat.le_of_ble_eq_true rfl⟩ ⟨Nat.le_of_ble_eq_true rfl, Nat.le_of_ble_eq_true rfl⟩ dX6_readCondition_94 (fun H locs hG hS => ?_)
                    refine lv_goto (tgt := 103) X.1 X.2.1 dX6_readCondition_97 (by decide) ?_
                    obtain ⟨y24, ey24⟩ : ∃ y : Int32, y = z4_5 + Int32.ofInt 1 := ⟨_, rfl⟩
                    have xy24 : y24.toInt = (z4_5.toInt + 1) := sg_exadd ey24 (iv_lt (b' := 239) (iv_gt_of c5) hz4_5 (iv_c 240 (a := 240) (b := 240) (by decide +kernel)) (by decide +kernel)) (iv_c _ (a := 1) (b := 1) (by decide +kernel)) (by decide +kernel) rfl (by decide +kernel)
                    refine lv_iinc (v := y24) (lv' := [(5, .int y24), (6, .int f8), (0, .ref a0), (1, .ref a1), (2, .int x2), (4, .int z4_4)]) X.1 X.2.1 dX6_readCondition_103 hl (k := 5) rfl ey24.symm (by decide) rfl (fun ls hl => ?_)
                    refine lv_goto (tgt := 21) X.1 X.2.1 dX6_readCondition_106 (by decide) ?_
                    exact ih4 H _ _ z4_4 y24 (av18) (bv18).1 (bv18).2 (vq_pgw p2v18 (by decide)) hG hS (lv_sub hl [2, 3, 4, 5, 0] rfl) hz4_4 (iv_of (iv_add (a' := 1) (b' := 240) ey24 (iv_lt (b' := 239) (iv_gt_of c5) hz4_5 (iv_c 240 (a := 240) (b := 240) (by decide +kernel)) (by decide +kernel)) (iv_c _ (a := 1) (b := 1) (by decide +kernel)) (by decide +kernel)) (a' := 0) (b' := 240) (by decide +kernel)) ⟨xf4.1.trans (vL_step (opC_38 i22) pv18 (vq_l1 (vX_ge (sgT1 P) (sgL1 P) (a4 + 1)).1 gav18) (vC_lt (b := sgT1 P) (n := sgL1 P) (by rw [i22]; decide)).2), vq_y1 xf4.2 xy24 (vX_ge (sgT1 P) (sgL1 P) (a4 + 1)).1 gav18⟩ (iv_stepU ey24 (iv_lt (b' := 239) (iv_gt_of c5) hz4_5 (iv_c 240 (a := 240) (b := 240) (by decide +kernel)) (by decide +kernel)) (by decide +kernel) hN4)
                · exact ((iv_no (a := 1) (b := 0) (iv_eqm c19 (iv_c 1 (a := 1) (b := 1) (by decide +kernel)) (iv_c 0 (a := 0) (b := 0) (by decide +kernel)) (by decide +kernel)) (by decide +kernel))).elim
              · have hG := hBf17.2.2.2
                rw [htf17] at hG
                refine lv_if_ne (tgt := 84) X.1 X.2.1 dX6_readCondition_79 (by decide) (fun c25 => ?_) (fun c25 => ?_)
                · exact ((c25 (iv_one (iv_c 0 (a := 0) (b := 0) (by decide +kernel)) (iv_c 0 (a := 0) (b := 0) (by decide +kernel)) (by decide +kernel)))).elim
                · refine lv_iconst (v := 0) X.1 X.2.1 dX6_readCondition_82 (by decide +kernel) ?_
                  have spr : vL (vUn (sgT1 P) (sgL1 P) 4) opC (sgT1 P) (sgL1 P) a = (false, wv18) := by exact xf4.1.trans (vL_bad (opC_38 i13) pv18)
                  have hG := ka_weak (b1 := 0) (b2 := 240) (c1 := wv18) (c2 := wv18) hG (by omega) (by omega) (Int.le_refl _) (Int.le_refl _)
                  exact sg_zret2 X hr (sg_zn (iv_of (iv_c 0 (a := 0) (b := 0) (by decide +kernel)) (a' := 0) (b' := 1) (by decide +kernel))) hlk hS (iv_of (iv_c 0 (a := 0) (b := 0) (by decide +kernel)) (a' := 0) (b' := 1) (by decide +kernel)) (fun t ht hW => (Or.inr ⟨rfl, _, spr, sg_post hb hK hC hG hS ht hW⟩)) dX6_readCondition_83
            · have i14 : (vC (sgT1 P) (sgL1 P) a4 = (38 : Int)) = False := vq_ne c12 hf8 (by decide +kernel)
              exact ((c12 (iv_one (iv_eqm (a' := 38) (b' := 38) c9 yf8 (iv_c 38 (a := 38) (b := 38) (by decide +kernel)) (by decide +kernel)) (iv_c 38 (a := 38) (b := 38) (by decide +kernel)) (by decide +kernel)))).elim
          · have i11 : (vC (sgT1 P) (sgL1 P) a4 = (38 : Int)) = False := vq_ne c9 hf8 (by decide +kernel)
            refine lv_iload X.1 X.2.1 dX6_readCondition_42 (lv_at hl 4 rfl) ?_
            refine lv_if_eq (tgt := 53) X.1 X.2.1 dX6_readCondition_44 (by decide) (fun c26 => ?_) (fun c26 => ?_)
            · have i27 : z4_4.toInt = (0 : Int) := vq_eq c26 rfl (by decide +kernel)
              refine lv_iload X.1 X.2.1 dX6_readCondition_53 (lv_at hl 0 rfl) ?_
              refine lv_bipush (v := 38) X.1 X.2.1 dX6_readCondition_55 (by decide +kernel) ?_
              refine lv_icmp_eq (tgt := 69) X.1 X.2.1 dX6_readCondition_57 (by decide) (fun c29 => ?_) (fun c29 => ?_)
              · have i30 : vC (sgT1 P) (sgL1 P) a4 = (38 : Int) := vq_eq c29 hf8 (by decide +kernel)
                refine lv_aload_n X.1 X.2.1 dX6_readCondition_69 rfl (lv_at hl 2 rfl) ?_
                refine ca_X10_step_v X hK hG hC hS hb a1 h1 hl0 (vC_lt (b := sgT1 P) (by rw [i30]; decide)) wl_3_229 hl.1 (rest := []) rfl (Nat.le_of_ble_eq_true rfl) ⟨Nat.le_of_ble_eq_true rfl, Nat.le_of_ble_eq_true rfl⟩ ⟨Nat.le_of_ble_eq_true rfl, Nat.le_of_ble_eq_true rfl⟩ dX6_readCondition_70 (fun tg32 H locs htg32 hWg32 hS => ?_)
                have b33 := vC_lt (b := sgT1 P) (n := sgL1 P) (a := a4) (by rw [i30]; decide)
                have bb33 := vq_bdX (b := sgT1 P) b33
                have pb33 : a + 1 ≤ vX (sgT1 P) (sgL1 P) (a4 + 1) := vq_pg jk4 (m := 1) (vX_ge (sgT1 P) (sgL1 P) (a4 + 1)).1 (by decide)
                have hG := hWg32.2.2.2
                rw [htg32] at hG
                refine lv_aload_n X.1 X.2.1 dX6_readCondition_73 rfl (lv_at hl 1 rfl) ?_
                refine lv_aload_n X.1 X.2.1 dX6_readCondition_74 rfl (lv_at hl 2 rfl) ?_
                refine lv_iload_n X.1 X.2.1 dX6_readCondition_75 rfl (lv_at hl 3 rfl) ?_
                refine ca_X6_readUnit_v2 X hK hG hC hS hb a0 h0 a1 h1 x2 h2 hl0 bb33 hby wl_4_9 hl.1 (rest := []) rfl (Nat.le_of_ble_eq_true rfl) ⟨Nat.le_of_ble_eq_true rfl, Nat.le_of_ble_eq_true rfl⟩ ⟨Nat.le_of_ble_eq_true rfl, Nat.le_of_ble_eq_true rfl⟩ dX6_readCondition_76 (fun f34 tf34 H locs htf34 hf34 hWf34 hS => ?_)
                rcases hWf34 with ⟨rfl, av35, pv35, gav35, gbv35, hBf34⟩ | ⟨rfl, wv35, pv35, hBf34⟩
                · have hG := hBf34.2.2.2
                  rw [htf34] at hG
                  have bv35 := vq_bd2 (k := 1) bb33 (by decide) gav35 gbv35
                  have p2v35 : a + 2 ≤ av35 := vq_pg pb33 gav35 (by decide)
                  refine lv_if_ne (tgt := 84) X.1 X.2.1 dX6_readCondition_79 (by decide) (fun c36 => ?_) (fun c36 => ?_)
                  · refine lv_iload X.1 X.2.1 dX6_readCondition_84 (lv_at hl 0 rfl) ?_
                    refine lv_bipush (v := 38) X.1 X.2.1 dX6_readCondition_86 (by decide +kernel) ?_
                    refine lv_icmp_ne (tgt := 100) X.1 X.2.1 dX6_readCondition_88 (by decide) (fun c37 => ?_) (fun c37 => ?_)
                    · have i38 : (vC (sgT1 P) (sgL1 P) a4 = (38 : Int)) = False := vq_ne c37 hf8 (by decide +kernel)
                      exact ((c37 (iv_one (iv_eqm (a' := 38) (b' := 38) c29 yf8 (iv_c 38 (a := 38) (b := 38) (by decide +kernel)) (by decide +kernel)) (iv_c 38 (a := 38) (b := 38) (by decide +kernel)) (by decide +kernel)))).elim
                    · have i39 : vC (sgT1 P) (sgL1 P) a4 = (38 : Int) := vq_eq c37 hf8 (by decide +kernel)
                      refine lv_aload_n X.1 X.2.1 dX6_readCondition_91 rfl (lv_at hl 1 rfl) ?_
                      refine lv_bipush (v := (-17)) X.1 X.2.1 dX6_readCondition_92 (by decide +kernel) ?_
                      refine ca_X6_put_v X hK hG hC hS hb a0 h0 (-17) wl_3_232 hl.1 (rest := []) rfl (Nat.le_of_ble_eq_true rfl) ⟨Nat.le_of_ble_eq_true rfl, Nat.le_of_ble_eq_true rfl⟩ ⟨Nat.le_of_ble_eq_true rfl, Nat.le_of_ble_eq_true rfl⟩ dX6_readCondition_94 (fun H locs hG hS => ?_)
                      refine lv_goto (tgt := 103) X.1 X.2.1 dX6_readCondition_97 (by decide) ?_
                      obtain ⟨y41, ey41⟩ : ∃ y : Int32, y = z4_5 + Int32.ofInt 1 := ⟨_, rfl⟩
                      have xy41 : y41.toInt = (z4_5.toInt + 1) := sg_exadd ey41 (iv_lt (b' := 239) (iv_gt_of c5) hz4_5 (iv_c 240 (a := 240) (b := 240) (by decide +kernel)) (by decide +kernel)) (iv_c _ (a := 1) (b := 1) (by decide +kernel)) (by decide +kernel) rfl (by decide +kernel)
                      refine lv_iinc (v := y41) (lv' := [(5, .int y41), (6, .int f8), (0, .ref a0), (1, .ref a1), (2, .int x2), (4, .int z4_4)]) X.1 X.2.1 dX6_readCondition_103 hl (k := 5) rfl ey41.symm (by decide) rfl (fun ls hl => ?_)
                      refine lv_goto (tgt := 21) X.1 X.2.1 dX6_readCondition_106 (by decide) ?_
                      exact ih4 H _ _ z4_4 y41 (av35) (bv35).1 (bv35).2 (vq_pgw p2v35 (by decide)) hG hS (lv_sub hl [2, 3, 4, 5, 0] rfl) (iv_of (iv_eqm (a' := 0) (b' := 0) c26 hz4_4 (iv_c 0 (a := 0) (b := 0) (by decide +kernel)) (by decide +kernel)) (a' := 0) (b' := 1) (by decide +kernel)) (iv_of (iv_add (a' := 1) (b' := 240) ey41 (iv_lt (b' := 239) (iv_gt_of c5) hz4_5 (iv_c 240 (a := 240) (b := 240) (by decide +kernel)) (by decide +kernel)) (iv_c _ (a := 1) (b := 1) (by decide +kernel)) (by decide +kernel)) (a' := 0) (b' := 240) (by decide +kernel)) ⟨xf4.1.trans (vL_step (opC_38 i39) pv35 (vq_l1 (vX_ge (sgT1 P) (sgL1 P) (a4 + 1)).1 gav35) (vC_lt (b := sgT1 P) (n := sgL1 P) (by rw [i39]; decide)).2), vq_y1 xf4.2 xy41 (vX_ge (sgT1 P) (sgL1 P) (a4 + 1)).1 gav35⟩ (iv_stepU ey41 (iv_lt (b' := 239) (iv_gt_of c5) hz4_5 (iv_c 240 (a := 240) (b := 240) (by decide +kernel)) (by decide +kernel)) (by decide +kernel) hN4)
                  · exact ((iv_no (a := 1) (b := 0) (iv_eqm c36 (iv_c 1 (a := 1) (b := 1) (by decide +kernel)) (iv_c 0 (a := 0) (b := 0) (by decide +kernel)) (by decide +kernel)) (by decide +kernel))).elim
                · have hG := hBf34.2.2.2
                  rw [htf34] at hG
                  refine lv_if_ne (tgt := 84) X.1 X.2.1 dX6_readCondition_79 (by decide) (fun c42 => ?_) (fun c42 => ?_)
                  · exact ((c42 (iv_one (iv_c 0 (a := 0) (b := 0) (by decide +kernel)) (iv_c 0 (a := 0) (b := 0) (by decide +kernel)) (by decide +kernel)))).elim
                  · refine lv_iconst (v := 0) X.1 X.2.1 dX6_readCondition_82 (by decide +kernel) ?_
                    have spr : vL (vUn (sgT1 P) (sgL1 P) 4) opC (sgT1 P) (sgL1 P) a = (false, wv35) := by exact xf4.1.trans (vL_bad (opC_38 i30) pv35)
                    have hG := ka_weak (b1 := 0) (b2 := 240) (c1 := wv35) (c2 := wv35) hG (by omega) (by omega) (Int.le_refl _) (Int.le_refl _)
                    exact sg_zret2 X hr (sg_zn (iv_of (iv_c 0 (a := 0) (b := 0) (by decide +kernel)) (a' := 0) (b' := 1) (by decide +kernel))) hlk hS (iv_of (iv_c 0 (a := 0) (b := 0) (by decide +kernel)) (a' := 0) (b' := 1) (by decide +kernel)) (fun t ht hW => (Or.inr ⟨rfl, _, spr, sg_post hb hK hC hG hS ht hW⟩)) dX6_readCondition_83
              · have i31 : (vC (sgT1 P) (sgL1 P) a4 = (38 : Int)) = False := vq_ne c29 hf8 (by decide +kernel)
                refine lv_iload X.1 X.2.1 dX6_readCondition_60 (lv_at hl 0 rfl) ?_
                refine lv_bipush (v := 124) X.1 X.2.1 dX6_readCondition_62 (by decide +kernel) ?_
                refine lv_icmp_eq (tgt := 69) X.1 X.2.1 dX6_readCondition_64 (by decide) (fun c43 => ?_) (fun c43 => ?_)
                · have i44 : vC (sgT1 P) (sgL1 P) a4 = (124 : Int) := vq_eq c43 hf8 (by decide +kernel)
                  refine lv_aload_n X.1 X.2.1 dX6_readCondition_69 rfl (lv_at hl 2 rfl) ?_
                  refine ca_X10_step_v X hK hG hC hS hb a1 h1 hl0 (vC_lt (b := sgT1 P) (by rw [i44]; decide)) wl_3_229 hl.1 (rest := []) rfl (Nat.le_of_ble_eq_true rfl) ⟨Nat.le_of_ble_eq_true rfl, Nat.le_of_ble_eq_true rfl⟩ ⟨Nat.le_of_ble_eq_true rfl, Nat.le_of_ble_eq_true rfl⟩ dX6_readCondition_70 (fun tg46 H locs htg46 hWg46 hS => ?_)
                  have b47 := vC_lt (b := sgT1 P) (n := sgL1 P) (a := a4) (by rw [i44]; decide)
                  have bb47 := vq_bdX (b := sgT1 P) b47
                  have pb47 : a + 1 ≤ vX (sgT1 P) (sgL1 P) (a4 + 1) := vq_pg jk4 (m := 1) (vX_ge (sgT1 P) (sgL1 P) (a4 + 1)).1 (by decide)
                  have hG := hWg46.2.2.2
                  rw [htg46] at hG
                  refine lv_aload_n X.1 X.2.1 dX6_readCondition_73 rfl (lv_at hl 1 rfl) ?_
                  refine lv_aload_n X.1 X.2.1 dX6_readCondition_74 rfl (lv_at hl 2 rfl) ?_
                  refine lv_iload_n X.1 X.2.1 dX6_readCondition_75 rfl (lv_at hl 3 rfl) ?_
                  refine ca_X6_readUnit_v2 X hK hG hC hS hb a0 h0 a1 h1 x2 h2 hl0 bb47 hby wl_4_9 hl.1 (rest := []) rfl (Nat.le_of_ble_eq_true rfl) ⟨Nat.le_of_ble_eq_true rfl, Nat.le_of_ble_eq_true rfl⟩ ⟨Nat.le_of_ble_eq_true rfl, Nat.le_of_ble_eq_true rfl⟩ dX6_readCondition_76 (fun f48 tf48 H locs htf48 hf48 hWf48 hS => ?_)
                  rcases hWf48 with ⟨rfl, av49, pv49, gav49, gbv49, hBf48⟩ | ⟨rfl, wv49, pv49, hBf48⟩
                  · have hG := hBf48.2.2.2
                    rw [htf48] at hG
                    have bv49 := vq_bd2 (k := 1) bb47 (by decide) gav49 gbv49
                    have p2v49 : a + 2 ≤ av49 := vq_pg pb47 gav49 (by decide)
                    refine lv_if_ne (tgt := 84) X.1 X.2.1 dX6_readCondition_79 (by decide) (fun c50 => ?_) (fun c50 => ?_)
                    · refine lv_iload X.1 X.2.1 dX6_readCondition_84 (lv_at hl 0 rfl) ?_
                      refine lv_bipush (v := 38) X.1 X.2.1 dX6_readCondition_86 (by decide +kernel) ?_
                      refine lv_icmp_ne (tgt := 100) X.1 X.2.1 dX6_readCondition_88 (by decide) (fun c51 => ?_) (fun c51 => ?_)
                      · have i52 : (vC (sgT1 P) (sgL1 P) a4 = (38 : Int)) = False := vq_ne c51 hf8 (by decide +kernel)
                        refine lv_iconst (v := 1) X.1 X.2.1 dX6_readCondition_100 (by decide +kernel) ?_
                        refine lv_istore (lv' := [(4, .int 1), (6, .int f8), (0, .ref a0), (1, .ref a1), (2, .int x2), (5, .int z4_5)]) X.1 X.2.1 dX6_readCondition_101 hl (by decide) rfl (fun ls hl => ?_)
                        obtain ⟨y54, ey54⟩ : ∃ y : Int32, y = z4_5 + Int32.ofInt 1 := ⟨_, rfl⟩
                        have xy54 : y54.toInt = (z4_5.toInt + 1) := sg_exadd ey54 (iv_lt (b' := 239) (iv_gt_of c5) hz4_5 (iv_c 240 (a := 240) (b := 240) (by decide +kernel)) (by decide +kernel)) (iv_c _ (a := 1) (b := 1) (by decide +kernel)) (by decide +kernel) rfl (by decide +kernel)
                        refine lv_iinc (v := y54) (lv' := [(5, .int y54), (4, .int 1), (6, .int f8), (0, .ref a0), (1, .ref a1), (2, .int x2)]) X.1 X.2.1 dX6_readCondition_103 hl (k := 5) rfl ey54.symm (by decide) rfl (fun ls hl => ?_)
                        refine lv_goto (tgt := 21) X.1 X.2.1 dX6_readCondition_106 (by decide) ?_
                        exact ih4 H _ _ 1 y54 (av49) (bv49).1 (bv49).2 (vq_pgw p2v49 (by decide)) hG hS (lv_sub hl [3, 4, 5, 1, 0] rfl) (iv_of (iv_c 1 (a := 1) (b := 1) (by decide +kernel)) (a' := 0) (b' := 1) (by decide +kernel)) (iv_of (iv_add (a' := 1) (b' := 240) ey54 (iv_lt (b' := 239) (iv_gt_of c5) hz4_5 (iv_c 240 (a := 240) (b := 240) (by decide +kernel)) (by decide +kernel)) (iv_c _ (a := 1) (b := 1) (by decide +kernel)) (by decide +kernel)) (a' := 0) (b' := 240) (by decide +kernel)) ⟨xf4.1.trans (vL_step (opC_124 i44) pv49 (vq_l1 (vX_ge (sgT1 P) (sgL1 P) (a4 + 1)).1 gav49) (vC_lt (b := sgT1 P) (n := sgL1 P) (by rw [i44]; decide)).2), vq_y1 xf4.2 xy54 (vX_ge (sgT1 P) (sgL1 P) (a4 + 1)).1 gav49⟩ (iv_stepU ey54 (iv_lt (b' := 239) (iv_gt_of c5) hz4_5 (iv_c 240 (a := 240) (b := 240) (by decide +kernel)) (by decide +kernel)) (by decide +kernel) hN4)
                      · have i53 : vC (sgT1 P) (sgL1 P) a4 = (38 : Int) := vq_eq c51 hf8 (by decide +kernel)
                        exact ((iv_no (a := 124) (b := 38) (iv_eqm c51 (iv_eqm (a' := 124) (b' := 124) c43 yf8 (iv_c 124 (a := 124) (b := 124) (by decide +kernel)) (by decide +kernel)) (iv_c 38 (a := 38) (b := 38) (by decide +kernel)) (by decide +kernel)) (by decide +kernel))).elim
                    · exact ((iv_no (a := 1) (b := 0) (iv_eqm c50 (iv_c 1 (a := 1) (b := 1) (by decide +kernel)) (iv_c 0 (a := 0) (b := 0) (by decide +kernel)) (by decide +kernel)) (by decide +kernel))).elim
                  · have hG := hBf48.2.2.2
                    rw [htf48] at hG
                    refine lv_if_ne (tgt := 84) X.1 X.2.1 dX6_readCondition_79 (by decide) (fun c55 => ?_) (fun c55 => ?_)
                    · exact ((c55 (iv_one (iv_c 0 (a := 0) (b := 0) (by decide +kernel)) (iv_c 0 (a := 0) (b := 0) (by decide +kernel)) (by decide +kernel)))).elim
                    · refine lv_iconst (v := 0) X.1 X.2.1 dX6_readCondition_82 (by decide +kernel) ?_
                      have spr : vL (vUn (sgT1 P) (sgL1 P) 4) opC (sgT1 P) (sgL1 P) a = (false, wv49) := by exact xf4.1.trans (vL_bad (opC_124 i44) pv49)
                      have hG := ka_weak (b1 := 0) (b2 := 240) (c1 := wv49) (c2 := wv49) hG (by omega) (by omega) (Int.le_refl _) (Int.le_refl _)
                      exact sg_zret2 X hr (sg_zn (iv_of (iv_c 0 (a := 0) (b := 0) (by decide +kernel)) (a' := 0) (b' := 1) (by decide +kernel))) hlk hS (iv_of (iv_c 0 (a := 0) (b := 0) (by decide +kernel)) (a' := 0) (b' := 1) (by decide +kernel)) (fun t ht hW => (Or.inr ⟨rfl, _, spr, sg_post hb hK hC hG hS ht hW⟩)) dX6_readCondition_83
                · have i45 : (vC (sgT1 P) (sgL1 P) a4 = (124 : Int)) = False := vq_ne c43 hf8 (by decide +kernel)
                  refine lv_iconst (v := 1) X.1 X.2.1 dX6_readCondition_67 (by decide +kernel) ?_
                  have spr : vL (vUn (sgT1 P) (sgL1 P) 4) opC (sgT1 P) (sgL1 P) a = (true, a4) := by exact xf4.1.trans (vL_stop (opC_no i31 i45))
                  exact sg_zret2 X hr (sg_zn (iv_of (iv_c 1 (a := 1) (b := 1) (by decide +kernel)) (a' := 0) (b' := 1) (by decide +kernel))) hlk hS (iv_of (iv_c 1 (a := 1) (b := 1) (by decide +kernel)) (a' := 0) (b' := 1) (by decide +kernel)) (fun t ht hW => (Or.inl ⟨rfl, _, spr, vq_pgw jk4 (by decide), ((And.intro jl4 jm4)).2, sg_post hb hK hC hG hS ht hW⟩)) dX6_readCondition_68
            · have i28 : (z4_4.toInt = (0 : Int)) = False := vq_ne c26 rfl (by decide +kernel)
              refine lv_aload_n X.1 X.2.1 dX6_readCondition_47 rfl (lv_at hl 1 rfl) ?_
              refine lv_bipush (v := (-18)) X.1 X.2.1 dX6_readCondition_48 (by decide +kernel) ?_
              refine ca_X6_put_v X hK hG hC hS hb a0 h0 (-18) wl_3_232 hl.1 (rest := []) rfl (Nat.le_of_ble_eq_true rfl) ⟨Nat.le_of_ble_eq_true rfl, Nat.le_of_ble_eq_true rfl⟩ ⟨Nat.le_of_ble_eq_true rfl, Nat.le_of_ble_eq_true rfl⟩ dX6_readCondition_50 (fun H locs hG hS => ?_)
              refine lv_iload X.1 X.2.1 dX6_readCondition_53 (lv_at hl 0 rfl) ?_
              refine lv_bipush (v := 38) X.1 X.2.1 dX6_readCondition_55 (by decide +kernel) ?_
              refine lv_icmp_eq (tgt := 69) X.1 X.2.1 dX6_readCondition_57 (by decide) (fun c57 => ?_) (fun c57 => ?_)
              · have i58 : vC (sgT1 P) (sgL1 P) a4 = (38 : Int) := vq_eq c57 hf8 (by decide +kernel)
                refine lv_aload_n X.1 X.2.1 dX6_readCondition_69 rfl (lv_at hl 2 rfl) ?_
                refine ca_X10_step_v X hK hG hC hS hb a1 h1 hl0 (vC_lt (b := sgT1 P) (by rw [i58]; decide)) wl_3_229 hl.1 (rest := []) rfl (Nat.le_of_ble_eq_true rfl) ⟨Nat.le_of_ble_eq_true rfl, Nat.le_of_ble_eq_true rfl⟩ ⟨Nat.le_of_ble_eq_true rfl, Nat.le_of_ble_eq_true rfl⟩ dX6_readCondition_70 (fun tg60 H locs htg60 hWg60 hS => ?_)
                have b61 := vC_lt (b := sgT1 P) (n := sgL1 P) (a := a4) (by rw [i58]; decide)
                have bb61 := vq_bdX (b := sgT1 P) b61
                have pb61 : a + 1 ≤ vX (sgT1 P) (sgL1 P) (a4 + 1) := vq_pg jk4 (m := 1) (vX_ge (sgT1 P) (sgL1 P) (a4 + 1)).1 (by decide)
                have hG := hWg60.2.2.2
                rw [htg60] at hG
                refine lv_aload_n X.1 X.2.1 dX6_readCondition_73 rfl (lv_at hl 1 rfl) ?_
                refine lv_aload_n X.1 X.2.1 dX6_readCondition_74 rfl (lv_at hl 2 rfl) ?_
                refine lv_iload_n X.1 X.2.1 dX6_readCondition_75 rfl (lv_at hl 3 rfl) ?_
                refine ca_X6_readUnit_v2 X hK hG hC hS hb a0 h0 a1 h1 x2 h2 hl0 bb61 hby wl_4_9 hl.1 (rest := []) rfl (Nat.le_of_ble_eq_true rfl) ⟨Nat.le_of_ble_eq_true rfl, Nat.le_of_ble_eq_true rfl⟩ ⟨Nat.le_of_ble_eq_true rfl, Nat.le_of_ble_eq_true rfl⟩ dX6_readCondition_76 (fun f62 tf62 H locs htf62 hf62 hWf62 hS => ?_)
                rcases hWf62 with ⟨rfl, av63, pv63, gav63, gbv63, hBf62⟩ | ⟨rfl, wv63, pv63, hBf62⟩
                · have hG := hBf62.2.2.2
                  rw [htf62] at hG
                  have bv63 := vq_bd2 (k := 1) bb61 (by decide) gav63 gbv63
                  have p2v63 : a + 2 ≤ av63 := vq_pg pb61 gav63 (by decide)
                  refine lv_if_ne (tgt := 84) X.1 X.2.1 dX6_readCondition_79 (by decide) (fun c64 => ?_) (fun c64 => ?_)
                  · refine lv_iload X.1 X.2.1 dX6_readCondition_84 (lv_at hl 0 rfl) ?_
                    refine lv_bipush (v := 38) X.1 X.2.1 dX6_readCondition_86 (by decide +kernel) ?_
                    refine lv_icmp_ne (tgt := 100) X.1 X.2.1 dX6_readCondition_88 (by decide) (fun c65 => ?_) (fun c65 => ?_)
                    · have i66 : (vC (sgT1 P) (sgL1 P) a4 = (38 : Int)) = False := vq_ne c65 hf8 (by decide +kernel)
                      exact ((c65 (iv_one (iv_eqm (a' := 38) (b' := 38) c57 yf8 (iv_c 38 (a := 38) (b := 38) (by decide +kernel)) (by decide +kernel)) (iv_c 38 (a := 38) (b := 38) (by decide +kernel)) (by decide +kernel)))).elim
                    · have i67 : vC (sgT1 P) (sgL1 P) a4 = (38 : Int) := vq_eq c65 hf8 (by decide +kernel)
                      refine lv_aload_n X.1 X.2.1 dX6_readCondition_91 rfl (lv_at hl 1 rfl) ?_
                      refine lv_bipush (v := (-17)) X.1 X.2.1 dX6_readCondition_92 (by decide +kernel) ?_
                      refine ca_X6_put_v X hK hG hC hS hb a0 h0 (-17) wl_3_232 hl.1 (rest := []) rfl (Nat.le_of_ble_eq_true rfl) ⟨Nat.le_of_ble_eq_true rfl, Nat.le_of_ble_eq_true rfl⟩ ⟨Nat.le_of_ble_eq_true rfl, Nat.le_of_ble_eq_true rfl⟩ dX6_readCondition_94 (fun H locs hG hS => ?_)
                      refine lv_goto (tgt := 103) X.1 X.2.1 dX6_readCondition_97 (by decide) ?_
                      obtain ⟨y69, ey69⟩ : ∃ y : Int32, y = z4_5 + Int32.ofInt 1 := ⟨_, rfl⟩
                      have xy69 : y69.toInt = (z4_5.toInt + 1) := sg_exadd ey69 (iv_lt (b' := 239) (iv_gt_of c5) hz4_5 (iv_c 240 (a := 240) (b := 240) (by decide +kernel)) (by decide +kernel)) (iv_c _ (a := 1) (b := 1) (by decide +kernel)) (by decide +kernel) rfl (by decide +kernel)
                      refine lv_iinc (v := y69) (lv' := [(5, .int y69), (6, .int f8), (0, .ref a0), (1, .ref a1), (2, .int x2), (4, .int z4_4)]) X.1 X.2.1 dX6_readCondition_103 hl (k := 5) rfl ey69.symm (by decide) rfl (fun ls hl => ?_)
                      refine lv_goto (tgt := 21) X.1 X.2.1 dX6_readCondition_106 (by decide) ?_
                      exact ih4 H _ _ z4_4 y69 (av63) (bv63).1 (bv63).2 (vq_pgw p2v63 (by decide)) hG hS (lv_sub hl [2, 3, 4, 5, 0] rfl) (iv_of (iv_ne_lo (a' := 1) c26 hz4_4 (by decide +kernel)) (a' := 0) (b' := 1) (by decide +kernel)) (iv_of (iv_add (a' := 1) (b' := 240) ey69 (iv_lt (b' := 239) (iv_gt_of c5) hz4_5 (iv_c 240 (a := 240) (b := 240) (by decide +kernel)) (by decide +kernel)) (iv_c _ (a := 1) (b := 1) (by decide +kernel)) (by decide +kernel)) (a' := 0) (b' := 240) (by decide +kernel)) ⟨xf4.1.trans (vL_step (opC_38 i67) pv63 (vq_l1 (vX_ge (sgT1 P) (sgL1 P) (a4 + 1)).1 gav63) (vC_lt (b := sgT1 P) (n := sgL1 P) (by rw [i67]; decide)).2), vq_y1 xf4.2 xy69 (vX_ge (sgT1 P) (sgL1 P) (a4 + 1)).1 gav63⟩ (iv_stepU ey69 (iv_lt (b' := 239) (iv_gt_of c5) hz4_5 (iv_c 240 (a := 240) (b := 240) (by decide +kernel)) (by decide +kernel)) (by decide +kernel) hN4)
                  · exact ((iv_no (a := 1) (b := 0) (iv_eqm c64 (iv_c 1 (a := 1) (b := 1) (by decide +kernel)) (iv_c 0 (a := 0) (b := 0) (by decide +kernel)) (by decide +kernel)) (by decide +kernel))).elim
                · have hG := hBf62.2.2.2
                  rw [htf62] at hG
                  refine lv_if_ne (tgt := 84) X.1 X.2.1 dX6_readCondition_79 (by decide) (fun c70 => ?_) (fun c70 => ?_)
                  · exact ((c70 (iv_one (iv_c 0 (a := 0) (b := 0) (by decide +kernel)) (iv_c 0 (a := 0) (b := 0) (by decide +kernel)) (by decide +kernel)))).elim
                  · refine lv_iconst (v := 0) X.1 X.2.1 dX6_readCondition_82 (by decide +kernel) ?_
                    have spr : vL (vUn (sgT1 P) (sgL1 P) 4) opC (sgT1 P) (sgL1 P) a = (false, wv63) := by exact xf4.1.trans (vL_bad (opC_38 i58) pv63)
                    have hG := ka_weak (b1 := 0) (b2 := 240) (c1 := wv63) (c2 := wv63) hG (by omega) (by omega) (Int.le_refl _) (Int.le_refl _)
                    exact sg_zret2 X hr (sg_zn (iv_of (iv_c 0 (a := 0) (b := 0) (by decide +kernel)) (a' := 0) (b' := 1) (by decide +kernel))) hlk hS (iv_of (iv_c 0 (a := 0) (b := 0) (by decide +kernel)) (a' := 0) (b' := 1) (by decide +kernel)) (fun t ht hW => (Or.inr ⟨rfl, _, spr, sg_post hb hK hC hG hS ht hW⟩)) dX6_readCondition_83
              · have i59 : (vC (sgT1 P) (sgL1 P) a4 = (38 : Int)) = False := vq_ne c57 hf8 (by decide +kernel)
                refine lv_iload X.1 X.2.1 dX6_readCondition_60 (lv_at hl 0 rfl) ?_
                refine lv_bipush (v := 124) X.1 X.2.1 dX6_readCondition_62 (by decide +kernel) ?_
                refine lv_icmp_eq (tgt := 69) X.1 X.2.1 dX6_readCondition_64 (by decide) (fun c71 => ?_) (fun c71 => ?_)
                · have i72 : vC (sgT1 P) (sgL1 P) a4 = (124 : Int) := vq_eq c71 hf8 (by decide +kernel)
                  refine lv_aload_n X.1 X.2.1 dX6_readCondition_69 rfl (lv_at hl 2 rfl) ?_
                  refine ca_X10_step_v X hK hG hC hS hb a1 h1 hl0 (vC_lt (b := sgT1 P) (by rw [i72]; decide)) wl_3_229 hl.1 (rest := []) rfl (Nat.le_of_ble_eq_true rfl) ⟨Nat.le_of_ble_eq_true rfl, Nat.le_of_ble_eq_true rfl⟩ ⟨Nat.le_of_ble_eq_true rfl, Nat.le_of_ble_eq_true rfl⟩ dX6_readCondition_70 (fun tg74 H locs htg74 hWg74 hS => ?_)
                  have b75 := vC_lt (b := sgT1 P) (n := sgL1 P) (a := a4) (by rw [i72]; decide)
                  have bb75 := vq_bdX (b := sgT1 P) b75
                  have pb75 : a + 1 ≤ vX (sgT1 P) (sgL1 P) (a4 + 1) := vq_pg jk4 (m := 1) (vX_ge (sgT1 P) (sgL1 P) (a4 + 1)).1 (by decide)
                  have hG := hWg74.2.2.2
                  rw [htg74] at hG
                  refine lv_aload_n X.1 X.2.1 dX6_readCondition_73 rfl (lv_at hl 1 rfl) ?_
                  refine lv_aload_n X.1 X.2.1 dX6_readCondition_74 rfl (lv_at hl 2 rfl) ?_
                  refine lv_iload_n X.1 X.2.1 dX6_readCondition_75 rfl (lv_at hl 3 rfl) ?_
                  refine ca_X6_readUnit_v2 X hK hG hC hS hb a0 h0 a1 h1 x2 h2 hl0 bb75 hby wl_4_9 hl.1 (rest := []) rfl (Nat.le_of_ble_eq_true rfl) ⟨Nat.le_of_ble_eq_true rfl, Nat.le_of_ble_eq_true rfl⟩ ⟨Nat.le_of_ble_eq_true rfl, Nat.le_of_ble_eq_true rfl⟩ dX6_readCondition_76 (fun f76 tf76 H locs htf76 hf76 hWf76 hS => ?_)
                  rcases hWf76 with ⟨rfl, av77, pv77, gav77, gbv77, hBf76⟩ | ⟨rfl, wv77, pv77, hBf76⟩
                  · have hG := hBf76.2.2.2
                    rw [htf76] at hG
                    have bv77 := vq_bd2 (k := 1) bb75 (by decide) gav77 gbv77
                    have p2v77 : a + 2 ≤ av77 := vq_pg pb75 gav77 (by decide)
                    refine lv_if_ne (tgt := 84) X.1 X.2.1 dX6_readCondition_79 (by decide) (fun c78 => ?_) (fun c78 => ?_)
                    · refine lv_iload X.1 X.2.1 dX6_readCondition_84 (lv_at hl 0 rfl) ?_
                      refine lv_bipush (v := 38) X.1 X.2.1 dX6_readCondition_86 (by decide +kernel) ?_
                      refine lv_icmp_ne (tgt := 100) X.1 X.2.1 dX6_readCondition_88 (by decide) (fun c79 => ?_) (fun c79 => ?_)
                      · have i80 : (vC (sgT1 P) (sgL1 P) a4 = (38 : Int)) = False := vq_ne c79 hf8 (by decide +kernel)
                        refine lv_iconst (v := 1) X.1 X.2.1 dX6_readCondition_100 (by decide +kernel) ?_
                        refine lv_istore (lv' := [(4, .int 1), (6, .int f8), (0, .ref a0), (1, .ref a1), (2, .int x2), (5, .int z4_5)]) X.1 X.2.1 dX6_readCondition_101 hl (by decide) rfl (fun ls hl => ?_)
                        obtain ⟨y82, ey82⟩ : ∃ y : Int32, y = z4_5 + Int32.ofInt 1 := ⟨_, rfl⟩
                        have xy82 : y82.toInt = (z4_5.toInt + 1) := sg_exadd ey82 (iv_lt (b' := 239) (iv_gt_of c5) hz4_5 (iv_c 240 (a := 240) (b := 240) (by decide +kernel)) (by decide +kernel)) (iv_c _ (a := 1) (b := 1) (by decide +kernel)) (by decide +kernel) rfl (by decide +kernel)
                        refine lv_iinc (v := y82) (lv' := [(5, .int y82), (4, .int 1), (6, .int f8), (0, .ref a0), (1, .ref a1), (2, .int x2)]) X.1 X.2.1 dX6_readCondition_103 hl (k := 5) rfl ey82.symm (by decide) rfl (fun ls hl => ?_)
                        refine lv_goto (tgt := 21) X.1 X.2.1 dX6_readCondition_106 (by decide) ?_
                        exact ih4 H _ _ 1 y82 (av77) (bv77).1 (bv77).2 (vq_pgw p2v77 (by decide)) hG hS (lv_sub hl [3, 4, 5, 1, 0] rfl) (iv_of (iv_c 1 (a := 1) (b := 1) (by decide +kernel)) (a' := 0) (b' := 1) (by decide +kernel)) (iv_of (iv_add (a' := 1) (b' := 240) ey82 (iv_lt (b' := 239) (iv_gt_of c5) hz4_5 (iv_c 240 (a := 240) (b := 240) (by decide +kernel)) (by decide +kernel)) (iv_c _ (a := 1) (b := 1) (by decide +kernel)) (by decide +kernel)) (a' := 0) (b' := 240) (by decide +kernel)) ⟨xf4.1.trans (vL_step (opC_124 i72) pv77 (vq_l1 (vX_ge (sgT1 P) (sgL1 P) (a4 + 1)).1 gav77) (vC_lt (b := sgT1 P) (n := sgL1 P) (by rw [i72]; decide)).2), vq_y1 xf4.2 xy82 (vX_ge (sgT1 P) (sgL1 P) (a4 + 1)).1 gav77⟩ (iv_stepU ey82 (iv_lt (b' := 239) (iv_gt_of c5) hz4_5 (iv_c 240 (a := 240) (b := 240) (by decide +kernel)) (by decide +kernel)) (by decide +kernel) hN4)
                      · have i81 : vC (sgT1 P) (sgL1 P) a4 = (38 : Int) := vq_eq c79 hf8 (by decide +kernel)
                        exact ((iv_no (a := 124) (b := 38) (iv_eqm c79 (iv_eqm (a' := 124) (b' := 124) c71 yf8 (iv_c 124 (a := 124) (b := 124) (by decide +kernel)) (by decide +kernel)) (iv_c 38 (a := 38) (b := 38) (by decide +kernel)) (by decide +kernel)) (by decide +kernel))).elim
                    · exact ((iv_no (a := 1) (b := 0) (iv_eqm c78 (iv_c 1 (a := 1) (b := 1) (by decide +kernel)) (iv_c 0 (a := 0) (b := 0) (by decide +kernel)) (by decide +kernel)) (by decide +kernel))).elim
                  · have hG := hBf76.2.2.2
                    rw [htf76] at hG
                    refine lv_if_ne (tgt := 84) X.1 X.2.1 dX6_readCondition_79 (by decide) (fun c83 => ?_) (fun c83 => ?_)
                    · exact ((c83 (iv_one (iv_c 0 (a := 0) (b := 0) (by decide +kernel)) (iv_c 0 (a := 0) (b := 0) (by decide +kernel)) (by decide +kernel)))).elim
                    · refine lv_iconst (v := 0) X.1 X.2.1 dX6_readCondition_82 (by decide +kernel) ?_
                      have spr : vL (vUn (sgT1 P) (sgL1 P) 4) opC (sgT1 P) (sgL1 P) a = (false, wv77) := by exact xf4.1.trans (vL_bad (opC_124 i72) pv77)
                      have hG := ka_weak (b1 := 0) (b2 := 240) (c1 := wv77) (c2 := wv77) hG (by omega) (by omega) (Int.le_refl _) (Int.le_refl _)
                      exact sg_zret2 X hr (sg_zn (iv_of (iv_c 0 (a := 0) (b := 0) (by decide +kernel)) (a' := 0) (b' := 1) (by decide +kernel))) hlk hS (iv_of (iv_c 0 (a := 0) (b := 0) (by decide +kernel)) (a' := 0) (b' := 1) (by decide +kernel)) (fun t ht hW => (Or.inr ⟨rfl, _, spr, sg_post hb hK hC hG hS ht hW⟩)) dX6_readCondition_83
                · have i73 : (vC (sgT1 P) (sgL1 P) a4 = (124 : Int)) = False := vq_ne c71 hf8 (by decide +kernel)
                  refine lv_iconst (v := 1) X.1 X.2.1 dX6_readCondition_67 (by decide +kernel) ?_
                  have spr : vL (vUn (sgT1 P) (sgL1 P) 4) opC (sgT1 P) (sgL1 P) a = (true, a4) := by exact xf4.1.trans (vL_stop (opC_no i59 i73))
                  exact sg_zret2 X hr (sg_zn (iv_of (iv_c 1 (a := 1) (b := 1) (by decide +kernel)) (a' := 0) (b' := 1) (by decide +kernel))) hlk hS (iv_of (iv_c 1 (a := 1) (b := 1) (by decide +kernel)) (a' := 0) (b' := 1) (by decide +kernel)) (fun t ht hW => (Or.inl ⟨rfl, _, spr, vq_pgw jk4 (by decide), ((And.intro jl4 jm4)).2, sg_post hb hK hC hG hS ht hW⟩)) dX6_readCondition_68
    exact B4_21 _ s.heap _ _ 0 0 (a) (hav).1 (hav).2 (vq_pgw (vq_pg0 a) (by decide)) hG hS (lv_sub hl [2, 3, 4, 1, 0] rfl) (iv_of (iv_c 0 (a := 0) (b := 0) (by decide +kernel)) (a' := 0) (b' := 1) (by decide +kernel)) (iv_of (iv_c 0 (a := 0) (b := 0) (by decide +kernel)) (a' := 0) (b' := 240) (by decide +kernel)) ⟨rfl, vq_y0 hav.1⟩ (Nat.le_refl _)
  · have i3 : x3.toInt = (0 : Int) := vq_eq c1 rfl (by decide +kernel)
    exact ((iv_no (a := 1) (b := 0) (iv_eqm c1 h3 (iv_c 0 (a := 0) (b := 0) (by decide +kernel)) (by decide +kernel)) (by decide +kernel))).elim

theorem ca_X6_readCondition_v2_1  {a w1 w2 : Int}  (X : CallFix p m c cc nL s args sg_tbl own) (hK : va_K D vwCl tys s) (hG : sgG (KA a a w1 w2 P) D vwCl (fun q : Nat => base ≤ q) tys ad ks H) (hC : sgC base s) (hS : va_S (fun q : Nat => base ≤ q) s.heap H locs) (hb : base ≤ s.heap.size) (a0 : Nat) (h0 : isK ad ks 6 a0) (a1 : Nat) (h1 : isK ad ks 10 a1) (x2 : Int32) (h2 : iv 2 2 x2) (x3 : Int32) (h3 : iv 1 1 x3) (hl0 : 0 ≤ sgL1 P ∧ sgL1 P ≤ 240) (hav : 0 ≤ a ∧ a ≤ sgL1 P) (hby : ∀ j : Nat, (↑j : Int) < sgL1 P → 1 ≤ sgT1 P j ∧ sgT1 P j ≤ 255) (hl : Cond.methodLink own index yX6_readCondition ∈ sg_tbl) (hsize : ls.size = nL) (hst : st0 = [.ref a1, .int x2, .int x3].reverse ++ .ref a0 :: rest) (hW : (rest.map fun v => v.category).sum ≤ 8) (hR : 17 ≤ R.frames ∧ 418 ≤ R.locals) (hf : cells ≤ R.cells ∧ slots ≤ R.slots) (hdg : decode cc pc = .ok (.invokevirtual index, 3)) (kk : ∀ (r : Int32) (t : State) (H1 : Heap) (locs1 : List Loc), t.heap = H1 → (fun r : Int32 => iv 0 1 r) r → ((r = 1 ∧ ∃ a1 : Int, vL (vUn (sgT1 P) (sgL1 P) 4) opC (sgT1 P) (sgL1 P) a = (true, a1) ∧ a + 0 ≤ a1 ∧ a1 ≤ sgL1 P ∧ sgB (KA a1 a1 w1 w2 P) D vwCl base tys ad ks t) ∨ (r = 0 ∧ ∃ w : Int, vL (vUn (sgT1 P) (sgL1 P) 4) opC (sgT1 P) (sgL1 P) a = (false, w) ∧ sgB (KA 0 240 w w P) D vwCl base tys ad ks t)) → va_S (fun q : Nat => base ≤ q) s.heap H1 locs1 → W p l e R s m args below meth c H1 locs1 cells slots Q (F0 m (pc + 3) ls (.int r :: rest))) : W p l e R s m args below meth c H locs cells slots Q (F0 m pc ls st0) :=
  sg_callV2i X hK hG hC hS hb (m_X6_readCondition_v2_1 l a0 h0 a1 h1 x2 h2 x3 h3 hl0 hav hby) h0 (k := 6) (ci := 6) rfl (C := RX6) (T := TX6) (N := 7) rfl wl_4_8 wl_1_3 wl_4_7 wl_0_15 (n := 3) (by decide +kernel) rfl rfl rfl hl hsize hst hW hR hf hdg kk
end
